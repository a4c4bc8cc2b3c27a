/-! DAY (X0): lay, gains, rests, goes, tip, out -/
theorem aI_ne {Γ : gT} {N M : Nat} {f g : Nat → Int32} (h : N ≠ M) : aI Γ N f ≠ aI Γ M g := by
  intro z
  injection z with z
  injection z with _ z
  injection z with z
  exact h z
theorem hat_nl {Γ : gT} {as : List Nat} {h : aH} {a b N M : Nat} {f g : Nat → Int32} (q : hat as h a (aI Γ N f)) (q' : hat as h b (aI Γ M g)) (hN : N ≠ M) : a ≠ b := hat_un q q' (aI_ne hN)
theorem hat_oa {as : List Nat} {h : aH} {a b ci : Nat} {fs : List Value} {e : ClassId × vp_A} (q : hat as h a (ob ci fs)) (q' : hat as h b (.inl e)) : a ≠ b := hat_un q q' (fun z => by cases z)
theorem hat_ao {as : List Nat} {h : aH} {a b ci : Nat} {fs : List Value} {e : ClassId × vp_A} (q : hat as h a (.inl e)) (q' : hat as h b (ob ci fs)) : a ≠ b := hat_un q q' (fun z => by cases z)
theorem hat_oo {as : List Nat} {h : aH} {a b ci cj : Nat} {fs gs : List Value} (q : hat as h a (ob ci fs)) (q' : hat as h b (ob cj gs)) (hc : ci ≠ cj) : a ≠ b := hat_un q q' (fun z => by injection z with z; injection z with z; exact hc z)
def fillF (g f : Nat → Int32) (k : Nat) : Nat → Int32 := fun j => if j < k then g j else f j
theorem fillF_s (g f : Nat → Int32) (k : Nat) : upd (fillF g f k) k (g k) = fillF g f (k + 1) := by
  funext j
  unfold fillF
  by_cases hj : j = k
  · rw [hj, pk_us, if_pos (by omega)]
  · rw [pk_un hj]
    by_cases h : j < k
    · rw [if_pos h, if_pos (by omega)]
    · rw [if_neg h, if_neg (by omega)]
theorem fillF_0 (g f : Nat → Int32) : fillF g f 0 = f := by
  funext j
  exact if_neg (by omega)
theorem wUp_ok : ∀ i, i < 10 → wUp i < 10 ∧ (0 : Int32) + 1 * nI i = nI (wUp i) := by decide +kernel
theorem wDn_ok : ∀ i, i < 10 → wDn i < 10 ∧ (9 : Int32) + (-1) * nI i = nI (wDn i) := by decide +kernel
/-- the day's cells behind lay -/
def layH (Γ : gT) (q a b c n : Nat) (L : Int32) (fp fw hv lt : Nat → Int32) (W : Nat → Nat) (h : aH) : aH :=
  hset (hset (hset (hset h q (ob 0 [.ref a, .ref b, .ref c, .int (nI n), .int L])) a (aI Γ 10 (fillF (pWt fp) fw 10))) b (aI Γ 31 (gArr W wUp (min n (cB W wUp 10)) hv))) c (aI Γ 31 (gArr W wDn (min n (cB W wDn 10)) lt))
section
variable {Γ : gT} {l : Launch} {as : List Nat} {h : aH} {q a b c n : Nat} {fw f hv lt : Nat → Int32} {L : Int32} {W wt : Nat → Nat}
theorem lay_loop {pq pr : Nat} {fp : Nat → Int32} (hq : hat as h q (ob 0 [.ref a, .ref b, .ref c, .int (nI n), .int L])) (ha : hat as h a (aI Γ 10 fw)) (hp : hat as h pq (ob 4 [.ref pr])) (hpr : hat as h pr (aI Γ 80 fp)) {v2 v3 : Int32} {Z : zT} (K : ∀ x4 : Int32, V Γ l mX0_lay rX0_lay Z 0 0 39 [(0, .ref q), (1, .ref pq), (2, .int v2), (3, .int v3), (4, .int x4)] [] as (hset h a (aI Γ 10 (fillF (pWt fp) fw 10)))) : ∀ (d k : Nat) (y4 : Int32) (ls : List (Nat × Value)) (h' : aH), k + d = 10 → y4 = nI k → h' = hset h a (aI Γ 10 (fillF (pWt fp) fw k)) → lin ls [(0, .ref q), (1, .ref pq), (2, .int v2), (3, .int v3), (4, .int y4)] → V Γ l mX0_lay rX0_lay Z 0 0 13 ls [] as h' := by
  have e1 := hat_oa hq ha
  have e2 := hat_oa hp ha
  have e3 := hat_nl hpr ha (by decide)
  intro d
  induction d with
  | zero =>
    intro k y4 ls h' hk h4 hh hl
    subst h4 hh
    refine V.at ?_ hl
    refine q_iload dX0_lay_13 rfl ?_
    refine q_bipush (v := 10) dX0_lay_15 rfl ?_
    refine q_icmp_ge 39 dX0_lay_17 (by decide) (fun _ => ?_) (fun z => absurd (ge_c 10 rfl (by omega) (by omega)) z)
    rw [show k = 10 by omega]
    exact K _
  | succ d ih =>
    intro k y4 ls h' hk h4 hh hl
    subst h4 hh
    refine V.at ?_ hl
    refine q_iload dX0_lay_13 rfl ?_
    refine q_bipush (v := 10) dX0_lay_15 rfl ?_
    refine q_icmp_ge 39 dX0_lay_17 (by decide) (fun z => absurd z (lt_c 10 rfl (by omega) (by omega))) (fun _ => ?_)
    refine q_aload_n dX0_lay_20 rfl rfl ?_
    refine q_get dX0_lay_21 fX0_lay_9 (hat_ne hq e1) rfl ?_
    refine q_iload dX0_lay_24 rfl ?_
    refine q_aload_n dX0_lay_26 rfl rfl ?_
    refine q_iload dX0_lay_27 rfl ?_
    refine q_callVd dX0_lay_29 wX0_lay_28 (c_ofWeight (hat_ne hp e2) (hat_ne hpr e3) (show k < 10 by omega)) (hat_ne hp e2) ⟨_, _, rfl⟩ rfl rfl (Nat.le_of_ble_eq_true rfl) ⟨⟨Nat.le_of_ble_eq_true rfl, Nat.le_of_ble_eq_true rfl⟩, Nat.le_of_ble_eq_true rfl, Nat.le_of_ble_eq_true rfl⟩ ?_
    refine q_iast dX0_lay_32 (hat_set ha) (in_nI (show k < 10 by omega) (by omega)) ?_
    refine q_iinc1 dX0_lay_33 rfl (by decide) ?_
    refine q_goto 13 dX0_lay_36 (by decide) ?_
    exact ih (k + 1) _ _ _ (by omega) (nI_s k) (by rw [hset_hset, nI_clamp (by omega), fillF_s]) ⟨rfl, rfl, rfl, rfl, rfl, trivial⟩
theorem c_lay {pq pr : Nat} {fp : Nat → Int32} {x3 x4 : Int32} (hq : hat as h q (ob 0 [.ref a, .ref b, .ref c, .int x3, .int x4])) (ha : hat as h a (aI Γ 10 fw)) (hb : hat as h b (aI Γ 31 hv)) (hc : hat as h c (aI Γ 31 lt)) (hbc : b ≠ c) (hp : hat as h pq (ob 4 [.ref pr])) (hpr : hat as h pr (aI Γ 80 fp)) (hn : n ≤ 30) (hW : ∀ j, j < 10 → pWt fp j = nI (W j) ∧ W j < 1000) : Det Γ l mX0_lay rX0_lay [.ref q, .ref pq, .int (nI n), .int L] as h none (layH Γ q a b c n L fp fw hv lt W h) := by
  have hW' : ∀ j, j < 10 → fillF (pWt fp) fw 10 j = nI (W j) ∧ W j < 1000 := fun j hj => by
    rw [show fillF (pWt fp) fw 10 j = pWt fp j from if_pos hj]; exact hW j hj
  have e1 := hat_oa hq ha
  have e2 := hat_oa hq hb
  have e3 := hat_oa hq hc
  have e4 := hat_oo hp hq (by decide)
  have e5 := hat_ao hpr hq
  have e6 := hat_nl ha hb (by decide)
  have e7 := hat_nl ha hc (by decide)
  generalize hh1 : hset h q (ob 0 [.ref a, .ref b, .ref c, .int (nI n), .int L]) = h1
  have q1 : hat as h1 q (ob 0 [.ref a, .ref b, .ref c, .int (nI n), .int L]) := by rw [← hh1]; exact hat_set hq
  have a1 : hat as h1 a (aI Γ 10 fw) := by rw [← hh1]; exact hat_ne ha e1.symm
  have b1 : hat as h1 b (aI Γ 31 hv) := by rw [← hh1]; exact hat_ne hb e2.symm
  have c1 : hat as h1 c (aI Γ 31 lt) := by rw [← hh1]; exact hat_ne hc e3.symm
  have p1 : hat as h1 pq (ob 4 [.ref pr]) := by rw [← hh1]; exact hat_ne hp e4
  have r1 : hat as h1 pr (aI Γ 80 fp) := by rw [← hh1]; exact hat_ne hpr e5
  refine Con.of (by decide +kernel) rfl rfl (Nat.le_of_ble_eq_true rfl) ?_
  refine q_aload_n dX0_lay_0 rfl rfl ?_
  refine q_iload_n dX0_lay_1 rfl rfl ?_
  refine q_put dX0_lay_2 pX0_lay_21 (hq) rfl rfl (Nat.le_of_ble_eq_true rfl) ?_
  refine q_aload_n dX0_lay_5 rfl rfl ?_
  refine q_iload_n dX0_lay_6 rfl rfl ?_
  refine q_put dX0_lay_7 pX0_lay_25 (hat_set hq) rfl rfl (Nat.le_of_ble_eq_true rfl) ?_
  refine q_iconst (v := 0) dX0_lay_10 rfl ?_
  refine q_istore dX0_lay_11 (by decide) ?_
  refine V.hp (h' := h1) ?_ (by rw [← hh1, hset_hset]; rfl)
  refine lay_loop q1 a1 p1 r1 (fun x4 => ?_) 10 0 _ _ _ (by omega) rfl (by rw [fillF_0, hset_same]; exact a1.2) ⟨rfl, rfl, rfl, rfl, rfl, trivial⟩
  refine q_aload_n dX0_lay_39 rfl rfl ?_
  refine q_aload_n dX0_lay_40 rfl rfl ?_
  refine q_get dX0_lay_41 fX0_lay_15 (hat_ne q1 e1) rfl ?_
  refine q_iconst (v := 0) dX0_lay_44 rfl ?_
  refine q_iconst (v := 1) dX0_lay_45 rfl ?_
  refine q_callVd dX0_lay_46 wX0_lay_33 (c_sumGrains (wt := wUp) (hat_ne q1 e1) (hat_set a1) (hat_ne b1 e6.symm) e6 hn hW' wUp_ok) (hat_ne q1 e1) ⟨_, _, rfl⟩ rfl rfl (Nat.le_of_ble_eq_true rfl) ⟨⟨Nat.le_of_ble_eq_true rfl, Nat.le_of_ble_eq_true rfl⟩, Nat.le_of_ble_eq_true rfl, Nat.le_of_ble_eq_true rfl⟩ ?_
  refine q_aload_n dX0_lay_49 rfl rfl ?_
  refine q_aload_n dX0_lay_50 rfl rfl ?_
  refine q_get dX0_lay_51 fX0_lay_18 (hat_ne (hat_ne q1 e1) e2) rfl ?_
  refine q_bipush (v := 9) dX0_lay_54 rfl ?_
  refine q_iconst (v := (-1)) dX0_lay_56 rfl ?_
  refine q_callVd dX0_lay_57 wX0_lay_33 (c_sumGrains (wt := wDn) (hat_ne (hat_ne q1 e1) e2) (hat_ne (hat_set a1) e6) (hat_ne (hat_ne c1 e7.symm) hbc.symm) e7 hn hW' wDn_ok) (hat_ne (hat_ne q1 e1) e2) ⟨_, _, rfl⟩ rfl rfl (Nat.le_of_ble_eq_true rfl) ⟨⟨Nat.le_of_ble_eq_true rfl, Nat.le_of_ble_eq_true rfl⟩, Nat.le_of_ble_eq_true rfl, Nat.le_of_ble_eq_true rfl⟩ ?_
  exact q_vret dX0_lay_60 rfl (Nat.zero_le _) (Nat.zero_le _) (⟨rfl, rfl, by rw [← hh1]; rfl⟩)
variable {k : Nat}
theorem c_taleUpper (hq : hat as h q (ob 0 [.ref a, .ref b, .ref c, .int (nI n), .int L])) (hc : hat as h c (aI Γ 31 lt)) (hn : n ≤ 30) (hk : k ≤ n) : Det Γ l mX0_taleUpper rX0_taleUpper [.ref q, .int (nI k)] as h (some (.long (lt (n - k)).toInt64)) h := by
  refine Con.of (by decide +kernel) rfl rfl (Nat.le_of_ble_eq_true rfl) ?_
  refine q_aload_n dX0_taleUpper_0 rfl rfl ?_
  refine q_get dX0_taleUpper_1 fX0_taleUpper_18 (hq) rfl ?_
  refine q_aload_n dX0_taleUpper_4 rfl rfl ?_
  refine q_get dX0_taleUpper_5 fX0_taleUpper_21 (hq) rfl ?_
  refine q_iload_n dX0_taleUpper_8 rfl rfl ?_
  refine q_isub dX0_taleUpper_9 ?_
  rw [pk_sub hk]
  refine q_iald dX0_taleUpper_10 (hc) (in_nI (show n - k < 31 by omega) (by omega)) ?_
  refine q_i2l dX0_taleUpper_11 ?_
  exact q_lret dX0_taleUpper_12 rfl (Nat.zero_le _) (Nat.zero_le _) (⟨by rw [nI_clamp (by omega)], rfl, rfl⟩)
theorem c_taleLower (hq : hat as h q (ob 0 [.ref a, .ref b, .ref c, .int (nI n), .int L])) (hk : k ≤ n) : Det Γ l mX0_taleLower rX0_taleLower [.ref q, .int (nI k)] as h (some (.long (nI (n - k)).toInt64)) h := by
  refine Con.of (by decide +kernel) rfl rfl (Nat.le_of_ble_eq_true rfl) ?_
  refine q_aload_n dX0_taleLower_0 rfl rfl ?_
  refine q_get dX0_taleLower_1 fX0_taleLower_21 (hq) rfl ?_
  refine q_iload_n dX0_taleLower_4 rfl rfl ?_
  refine q_isub dX0_taleLower_5 ?_
  refine q_i2l dX0_taleLower_6 ?_
  exact q_lret dX0_taleLower_7 rfl (Nat.zero_le _) (Nat.zero_le _) (⟨by rw [pk_sub hk], rfl, rfl⟩)
theorem c_lookUpper (hq : hat as h q (ob 0 [.ref a, .ref b, .ref c, .int (nI n), .int L])) (hb : hat as h b (aI Γ 31 hv)) (hk : k ≤ 30) : Det Γ l mX0_lookUpper rX0_lookUpper [.ref q, .int (nI k)] as h (some (.long (10 * hv k - L * nI k).toInt64)) h := by
  refine Con.of (by decide +kernel) rfl rfl (Nat.le_of_ble_eq_true rfl) ?_
  refine q_bipush (v := 10) dX0_lookUpper_0 rfl ?_
  refine q_aload_n dX0_lookUpper_2 rfl rfl ?_
  refine q_get dX0_lookUpper_3 fX0_lookUpper_15 (hq) rfl ?_
  refine q_iload_n dX0_lookUpper_6 rfl rfl ?_
  refine q_iald dX0_lookUpper_7 (hb) (in_nI (show k < 31 by omega) (by omega)) ?_
  refine q_imul dX0_lookUpper_8 ?_
  refine q_aload_n dX0_lookUpper_9 rfl rfl ?_
  refine q_get dX0_lookUpper_10 fX0_lookUpper_25 (hq) rfl ?_
  refine q_iload_n dX0_lookUpper_13 rfl rfl ?_
  refine q_imul dX0_lookUpper_14 ?_
  refine q_isub dX0_lookUpper_15 ?_
  refine q_i2l dX0_lookUpper_16 ?_
  exact q_lret dX0_lookUpper_17 rfl (Nat.zero_le _) (Nat.zero_le _) (⟨by rw [nI_clamp (by omega)], rfl, rfl⟩)
theorem c_lookLower {x : Nat} {v : Value} : Det Γ l mX0_lookLower rX0_lookLower [.ref q, .int (nI k)] as h (some (.long (10 * nI k).toInt64)) h := by
  refine Con.of (by decide +kernel) rfl rfl (Nat.le_of_ble_eq_true rfl) ?_
  refine q_bipush (v := 10) dX0_lookLower_0 rfl ?_
  refine q_iload_n dX0_lookLower_2 rfl rfl ?_
  refine q_imul dX0_lookLower_3 ?_
  refine q_i2l dX0_lookLower_4 ?_
  exact q_lret dX0_lookLower_5 rfl (Nat.zero_le _) (Nat.zero_le _) (⟨rfl, rfl, rfl⟩)
theorem c_lookOverTale (hq : hat as h q (ob 0 [.ref a, .ref b, .ref c, .int (nI n), .int L])) (hb : hat as h b (aI Γ 31 hv)) (hc : hat as h c (aI Γ 31 lt)) (hn : n ≤ 30) (hk : k < n) : Det Γ l mX0_lookOverTale rX0_lookOverTale [.ref q, .int (nI k)] as h (some (.long (lovT hv lt n L k))) h := by
  refine Con.of (by decide +kernel) rfl rfl (Nat.le_of_ble_eq_true rfl) ?_
  refine q_aload_n dX0_lookOverTale_0 rfl rfl ?_
  refine q_iload_n dX0_lookOverTale_1 rfl rfl ?_
  refine q_iconst (v := 1) dX0_lookOverTale_2 rfl ?_
  refine q_iadd dX0_lookOverTale_3 ?_
  rw [nI_s]
  refine q_callVd dX0_lookOverTale_4 wX0_lookOverTale_37 (c_lookUpper hq hb (show k + 1 ≤ 30 by omega)) (hq) ⟨_, _, rfl⟩ rfl rfl (Nat.le_of_ble_eq_true rfl) ⟨⟨Nat.le_of_ble_eq_true rfl, Nat.le_of_ble_eq_true rfl⟩, Nat.le_of_ble_eq_true rfl, Nat.le_of_ble_eq_true rfl⟩ ?_
  refine q_aload_n dX0_lookOverTale_7 rfl rfl ?_
  refine q_iload_n dX0_lookOverTale_8 rfl rfl ?_
  refine q_callVd dX0_lookOverTale_9 wX0_lookOverTale_41 (c_taleLower hq (show k ≤ n by omega)) (hq) ⟨_, _, rfl⟩ rfl rfl (Nat.le_of_ble_eq_true rfl) ⟨⟨Nat.le_of_ble_eq_true rfl, Nat.le_of_ble_eq_true rfl⟩, Nat.le_of_ble_eq_true rfl, Nat.le_of_ble_eq_true rfl⟩ ?_
  refine q_lmul dX0_lookOverTale_12 ?_
  refine q_aload_n dX0_lookOverTale_13 rfl rfl ?_
  refine q_iload_n dX0_lookOverTale_14 rfl rfl ?_
  refine q_callVd dX0_lookOverTale_15 wX0_lookOverTale_44 (c_taleUpper hq hc hn (show k ≤ n by omega)) (hq) ⟨_, _, rfl⟩ rfl rfl (Nat.le_of_ble_eq_true rfl) ⟨⟨Nat.le_of_ble_eq_true rfl, Nat.le_of_ble_eq_true rfl⟩, Nat.le_of_ble_eq_true rfl, Nat.le_of_ble_eq_true rfl⟩ ?_
  refine q_aload_n dX0_lookOverTale_18 rfl rfl ?_
  refine q_iload_n dX0_lookOverTale_19 rfl rfl ?_
  refine q_iconst (v := 1) dX0_lookOverTale_20 rfl ?_
  refine q_iadd dX0_lookOverTale_21 ?_
  rw [nI_s]
  refine q_callVd dX0_lookOverTale_22 wX0_lookOverTale_47 (c_lookLower (k := k + 1) (x := 0) (v := .null)) (hq) ⟨_, _, rfl⟩ rfl rfl (Nat.le_of_ble_eq_true rfl) ⟨⟨Nat.le_of_ble_eq_true rfl, Nat.le_of_ble_eq_true rfl⟩, Nat.le_of_ble_eq_true rfl, Nat.le_of_ble_eq_true rfl⟩ ?_
  refine q_lmul dX0_lookOverTale_25 ?_
  refine q_lsub dX0_lookOverTale_26 ?_
  exact q_lret dX0_lookOverTale_27 rfl (Nat.zero_le _) (Nat.zero_le _) (⟨rfl, rfl, rfl⟩)
end

