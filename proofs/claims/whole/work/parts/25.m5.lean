/-! THE REFERENCE (X9): run, grains, least terms -/
/-- purses within bounds -/
def bnd (f : Nat → Int32) : Prop := ∀ k, k < 80 → ¬ f k < 0 ∧ f k ≤ 99
theorem fstW_pos {f : Nat → Int32} {p k : Nat} (hk : k < 900) : ∀ d w, w + d < 900 → fstW f p d w = nI k → 0 < f (p * 10 + k) := by
  intro d
  induction d with
  | zero => intro w _ e; exact absurd e.symm (nI_m9 (by omega))
  | succ d ih =>
    intro w hw e
    simp only [fstW] at e
    by_cases h : f (p * 10 + w) ≤ 0
    · rw [if_pos h] at e
      exact ih (w + 1) (by omega) e
    · rw [if_neg h] at e
      have := (nI_eq (by omega) (by omega)).mp e
      subst this
      exact Int32.not_le.mp h
theorem lstW_pos {f : Nat → Int32} {p j : Nat} (hj : j < 900) : ∀ k, k < 900 → lstW f p k = nI j → 0 < f (p * 10 + j) := by
  intro k
  induction k with
  | zero => intro _ e; exact absurd e.symm (nI_m9 (by omega))
  | succ k ih =>
    intro hk e
    simp only [lstW] at e
    by_cases h : f (p * 10 + k) ≤ 0
    · rw [if_pos h] at e
      exact ih (by omega) e
    · rw [if_neg h] at e
      have := (nI_eq (by omega) (by omega)).mp e
      subst this
      exact Int32.not_le.mp h
theorem mWt_pos {w x y f : Nat → Int32} {n lim : Nat} {lot : Int32} (hl : lim ≤ 9) (h : ¬ mWt w x y f n lim lot = -9) : 0 < f (mPay n lot * 10 + mWk w x y f n lim lot) := by
  obtain ⟨h1, h2⟩ := (mWt_in (w := w) (x := x) (y := y) (f := f) (n := n) (lot := lot) hl).resolve_left h
  generalize mWk w x y f n lim lot = k at h1 h2
  unfold mWt wtp at h2
  have hm : (if mLook w x n lot then lim else 9) ≤ 9 := by split <;> omega
  split at h2
  · exact fstW_pos (by omega) _ _ (by omega) h2
  · exact lstW_pos (by omega) _ (by omega) h2
theorem mF_bnd {w x y f : Nat → Int32} {n lim : Nat} {lot : Int32} (hl : lim ≤ 9) (hn : 2 ≤ n) (hn8 : n ≤ 8) (hf : bnd f) : bnd (mF w x y f n lim lot) := by
  unfold mF
  by_cases hg : mGoB w x y f n lim lot = true
  · rw [if_pos hg]
    unfold mGoB at hg
    rw [Bool.and_eq_true, decide_eq_true_eq, decide_eq_true_eq] at hg
    have hk := ((mWt_in (w := w) (x := x) (y := y) (f := f) (n := n) (lot := lot) hl).resolve_left hg.1).1
    have h1 := mPay_lt (lot := lot) hn
    have h2 := mTak_lt (lot := lot) hn
    exact moveF_le hf (by omega) (by omega) (mWt_pos hl hg.1) hg.2
  · rw [if_neg hg]
    exact hf
theorem mF_zro {w x y f : Nat → Int32} {n lim : Nat} {lot : Int32} (hl : lim ≤ 9) (hn : 2 ≤ n) (hf : zro n f) : zro n (mF w x y f n lim lot) := by
  unfold mF
  by_cases hg : mGoB w x y f n lim lot = true
  · rw [if_pos hg]
    unfold mGoB at hg
    rw [Bool.and_eq_true, decide_eq_true_eq, decide_eq_true_eq] at hg
    have hk := ((mWt_in (w := w) (x := x) (y := y) (f := f) (n := n) (lot := lot) hl).resolve_left hg.1).1
    have h1 := mPay_lt (lot := lot) hn
    have h2 := mTak_lt (lot := lot) hn
    intro p hp hp8 j hj
    unfold moveF
    rw [pk_un (by omega), pk_un (by omega)]
    exact hf p hp hp8 j hj
  · rw [if_neg hg]
    exact hf
theorem run_ok {w x y : Nat → Int32} {n lim : Nat} {s : msT} (hl : lim ≤ 9) (hn : 2 ≤ n) (hn8 : n ≤ 8) (hf : bnd s.2.1) (hz : zro n s.2.1) : ∀ k, bnd (runS w x y n lim s k).1.2.1 ∧ zro n (runS w x y n lim s k).1.2.1 := by
  intro k
  induction k with
  | zero => exact ⟨hf, hz⟩
  | succ k ih => exact ⟨mF_bnd hl hn hn8 ih.1, mF_zro hl hn ih.2⟩
section
variable {Γ : gT} {l : Launch} {as : List Nat} {h : aH} {m : Nat} {tc : Int64} {r : Nat → Nat} {z : Nat → Int32} {n lim : Nat} {f u w x y lo mt : Nat → Int32} {W : Nat → Nat}
theorem nH_l {s : msT} (hm : hat as h m (mo tc r z)) (hlo : hat as h (r 14) (aI Γ 3 lo)) (hf : hat as h (r 13) (aI Γ 240 f)) (hmt : hat as h (r 18) (aI Γ 4 mt)) : hat as (nH Γ m tc r z lo mt h s) (r 14) (aI Γ 3 (upd lo 0 s.1)) := ⟨hlo.1, by unfold nH; rw [hset_ne (hat_oa hm hlo).symm, hset_ne (hat_nl hlo hmt (by decide)), hset_ne (hat_nl hlo hf (by decide)), hset_eq]⟩
theorem nH_f {s : msT} (hm : hat as h m (mo tc r z)) (hf : hat as h (r 13) (aI Γ 240 f)) (hmt : hat as h (r 18) (aI Γ 4 mt)) : hat as (nH Γ m tc r z lo mt h s) (r 13) (aI Γ 240 s.2.1) := ⟨hf.1, by unfold nH; rw [hset_ne (hat_oa hm hf).symm, hset_ne (hat_nl hf hmt (by decide)), hset_eq]⟩
theorem nH_t {s : msT} (hm : hat as h m (mo tc r z)) (hmt : hat as h (r 18) (aI Γ 4 mt)) : hat as (nH Γ m tc r z lo mt h s) (r 18) (aI Γ 4 (mtF mt s)) := ⟨hmt.1, by unfold nH; rw [hset_ne (hat_oa hm hmt).symm, hset_eq]⟩
theorem nH_m {s : msT} (hm : hat as h m (mo tc r z)) : hat as (nH Γ m tc r z lo mt h s) m (mo tc r (upd z 19 s.2.2.2.2.2.2)) := ⟨hm.1, by unfold nH; rw [hset_eq]⟩
theorem nH_o {s : msT} {j N : Nat} {g : Nat → Int32} (hm : hat as h m (mo tc r z)) (hlo : hat as h (r 14) (aI Γ 3 lo)) (hf : hat as h (r 13) (aI Γ 240 f)) (hmt : hat as h (r 18) (aI Γ 4 mt)) (hj : hat as h j (aI Γ N g)) (h1 : N ≠ 3) (h2 : N ≠ 240) (h3 : N ≠ 4) : hat as (nH Γ m tc r z lo mt h s) j (aI Γ N g) := ⟨hj.1, by unfold nH; rw [hset_ne (hat_oa hm hj).symm, hset_ne (hat_nl hj hmt h3), hset_ne (hat_nl hj hf h2), hset_ne (hat_nl hj hlo h1)]; exact hj.2⟩
theorem mtF_4 (mt : Nat → Int32) (s : msT) : mtF mt s 0 = s.2.2.1 ∧ mtF mt s 1 = s.2.2.2.1 ∧ mtF mt s 2 = s.2.2.2.2.1 ∧ mtF mt s 3 = s.2.2.2.2.2.1 := ⟨rfl, rfl, rfl, rfl⟩
theorem mtF_mtF (mt : Nat → Int32) (s s' : msT) : mtF (mtF mt s) s' = mtF mt s' := by
  funext j
  unfold mtF
  by_cases h3 : j = 3
  · rw [h3, pk_us, pk_us]
  · rw [pk_un h3, pk_un h3]
    by_cases h2 : j = 2
    · rw [h2, pk_us, pk_us]
    · rw [pk_un h2, pk_un h2]
      by_cases h1 : j = 1
      · rw [h1, pk_us, pk_us]
      · rw [pk_un h1, pk_un h1]
        by_cases h0 : j = 0
        · rw [h0, pk_us, pk_us]
        · rw [pk_un h0, pk_un h0, pk_un h3, pk_un h2, pk_un h1, pk_un h0]
theorem nH_nH {s s' : msT} (hm : hat as h m (mo tc r z)) (hlo : hat as h (r 14) (aI Γ 3 lo)) (hf : hat as h (r 13) (aI Γ 240 f)) (hmt : hat as h (r 18) (aI Γ 4 mt)) : nH Γ m tc r (upd z 19 s.2.2.2.2.2.2) (upd lo 0 s.1) (mtF mt s) (nH Γ m tc r z lo mt h s) s' = nH Γ m tc r z lo mt h s' := by
  unfold nH
  rw [upd_upd, upd_upd, mtF_mtF]
  funext j
  by_cases a1 : j = m
  · rw [a1, hset_eq, hset_eq]
  · rw [hset_ne a1, hset_ne a1]
    by_cases a2 : j = r 18
    · rw [a2, hset_eq, hset_eq]
    · rw [hset_ne a2, hset_ne a2]
      by_cases a3 : j = r 13
      · rw [a3, hset_eq, hset_eq]
      · rw [hset_ne a3, hset_ne a3]
        by_cases a4 : j = r 14
        · rw [a4, hset_eq, hset_eq]
        · rw [hset_ne a4, hset_ne a1, hset_ne a2, hset_ne a3, hset_ne a4, hset_ne a4]
theorem n_run {q : Nat} (hq0 : 1 ≤ q) (hq : q ≤ 500) (hn : z 3 = nI n) (hn2 : 2 ≤ n) (hn8 : n ≤ 8) (hlim : lim ≤ 9) (hu0 : u 0 = nI lim) (hM : hat as h m (mo tc r z)) (hlo : hat as h (r 14) (aI Γ 3 lo)) (hf : hat as h (r 13) (aI Γ 240 f)) (hmt : hat as h (r 18) (aI Γ 4 mt)) (hw : hat as h (r 4) (aI Γ 16 w)) (hx : hat as h (r 5) (aI Γ 16 x)) (hy : hat as h (r 6) (aI Γ 16 y)) (hu : hat as h (r 17) (aI Γ 6 u)) (hpay : ∀ p, p < n → y p = 0 ∨ y p = 1) (hb : bnd f) (hz : zro n f) : Det Γ l mX9_run rX9_run [.ref m, .int (nI q)] as h (some (.int (runS w x y n lim (lo 0, f, mt 0, mt 1, mt 2, mt 3, z 19) q).2)) (nH Γ m tc r z lo mt h (runS w x y n lim (lo 0, f, mt 0, mt 1, mt 2, mt 3, z 19) q).1) := by
  have key : ∀ (d c : Nat) (v2 v3 : Int32) (ls : List (Nat × Value)) (h' : aH), c + d = q → v2 = (runS w x y n lim (lo 0, f, mt 0, mt 1, mt 2, mt 3, z 19) c).2 → v3 = nI c → h' = nH Γ m tc r z lo mt h (runS w x y n lim (lo 0, f, mt 0, mt 1, mt 2, mt 3, z 19) c).1 → lin ls [(0, .ref m), (1, .int (nI q)), (2, .int v2), (3, .int v3)] → V Γ l mX9_run rX9_run (Zm Γ rX9_run (qD (some (.int (runS w x y n lim (lo 0, f, mt 0, mt 1, mt 2, mt 3, z 19) q).2)) as (nH Γ m tc r z lo mt h (runS w x y n lim (lo 0, f, mt 0, mt 1, mt 2, mt 3, z 19) q).1))) 0 0 29 ls [] as h' := by
    intro d
    induction d with
    | zero =>
      intro c v2 v3 ls h' hc e v e' hl
      subst e v e'
      refine V.at ?_ hl
      refine q_iload_n dX9_run_29 rfl rfl ?_
      refine q_iload_n dX9_run_30 rfl rfl ?_
      refine q_icmp_ge 57 dX9_run_31 (by decide) (fun _ => ?_) (fun z => absurd (nI_le (by omega) (by omega)) z)
      refine q_iload_n dX9_run_57 rfl rfl ?_
      exact q_iret dX9_run_58 rfl (Nat.zero_le _) (Nat.zero_le _) (⟨by rw [show c = q by omega], rfl, by rw [show c = q by omega]⟩)
    | succ d ih =>
      intro c v2 v3 ls h' hc e v e' hl
      subst e v e'
      refine V.at ?_ hl
      generalize hs : (runS w x y n lim (lo 0, f, mt 0, mt 1, mt 2, mt 3, z 19) c).1 = s
      have hbs : bnd s.2.1 := by rw [← hs]; exact (run_ok (s := (lo 0, f, mt 0, mt 1, mt 2, mt 3, z 19)) hlim hn2 hn8 hb hz c).1
      have hstep : (runS w x y n lim (lo 0, f, mt 0, mt 1, mt 2, mt 3, z 19) (c + 1)).1 = mSt w x y n lim s := by rw [← hs]; rfl
      have hstep2 : (runS w x y n lim (lo 0, f, mt 0, mt 1, mt 2, mt 3, z 19) (c + 1)).2 = if mPaid w x y s.2.1 n lim s.1 = -9 then (runS w x y n lim (lo 0, f, mt 0, mt 1, mt 2, mt 3, z 19) c).2 else (runS w x y n lim (lo 0, f, mt 0, mt 1, mt 2, mt 3, z 19) c).2 + 1 := by rw [← hs]; rfl
      have call := n_meetOnce (l := l) (Γ := Γ) (z := upd z 19 s.2.2.2.2.2.2) (u := u) (w := w) (x := x) (y := y) hn hn2 hn8 hlim hu0 (nH_m (s := s) (Γ := Γ) (lo := lo) (mt := mt) hM) (nH_l hM hlo hf hmt) (nH_f hM hf hmt) (nH_t hM hmt) (nH_o hM hlo hf hmt hw (by decide) (by decide) (by decide)) (nH_o hM hlo hf hmt hx (by decide) (by decide) (by decide)) (nH_o hM hlo hf hmt hy (by decide) (by decide) (by decide)) (nH_o hM hlo hf hmt hu (by decide) (by decide) (by decide)) hpay (fun j hj => (hbs j hj).2)
      rw [nH_nH hM hlo hf hmt, show (upd lo 0 s.1 0, s.2.1, mtF mt s 0, mtF mt s 1, mtF mt s 2, mtF mt s 3, upd z 19 s.2.2.2.2.2.2 19) = s from rfl, show upd lo 0 s.1 0 = s.1 from rfl] at call
      refine q_iload_n dX9_run_29 rfl rfl ?_
      refine q_iload_n dX9_run_30 rfl rfl ?_
      refine q_icmp_ge 57 dX9_run_31 (by decide) (fun z => absurd z (nI_ge (by omega) (by omega))) (fun _ => ?_)
      refine q_iload_n dX9_run_34 rfl rfl ?_
      refine q_aload_n dX9_run_35 rfl rfl ?_
      refine q_callVd dX9_run_36 wX9_run_143 (call) (nH_m hM) ⟨_, _, rfl⟩ rfl rfl (Nat.le_of_ble_eq_true rfl) ⟨⟨Nat.le_of_ble_eq_true rfl, Nat.le_of_ble_eq_true rfl⟩, Nat.le_of_ble_eq_true rfl, Nat.le_of_ble_eq_true rfl⟩ ?_
      refine q_bipush (v := (-9)) dX9_run_39 rfl ?_
      refine q_icmp_ne 48 dX9_run_41 (by decide) (fun cA => ?_) (fun cA => ?_)
      · refine q_iconst (v := 1) dX9_run_48 rfl ?_
        refine q_iadd dX9_run_49 ?_
        refine q_istore_n dX9_run_50 rfl (by decide) ?_
        refine q_iinc1 dX9_run_51 rfl (by decide) ?_
        refine q_goto 29 dX9_run_54 (by decide) ?_
        exact ih (c + 1) _ _ _ _ (by omega) (by rw [hstep2]; first | rw [if_neg cA] | (rw [if_pos cA]; exact Int32.add_zero _)) (nI_s c) (by rw [hstep]) ⟨rfl, rfl, rfl, rfl, trivial⟩
      · refine q_iconst (v := 0) dX9_run_44 rfl ?_
        refine q_goto 49 dX9_run_45 (by decide) ?_
        refine q_iadd dX9_run_49 ?_
        refine q_istore_n dX9_run_50 rfl (by decide) ?_
        refine q_iinc1 dX9_run_51 rfl (by decide) ?_
        refine q_goto 29 dX9_run_54 (by decide) ?_
        exact ih (c + 1) _ _ _ _ (by omega) (by rw [hstep2]; first | rw [if_neg cA] | (rw [if_pos cA]; exact Int32.add_zero _)) (nI_s c) (by rw [hstep]) ⟨rfl, rfl, rfl, rfl, trivial⟩
  refine Con.of (by decide +kernel) rfl rfl (Nat.le_of_ble_eq_true rfl) ?_
  refine q_iload_n dX9_run_0 rfl rfl ?_
  refine q_i2l dX9_run_1 ?_
  refine q_lconst (v := 1) dX9_run_2 rfl ?_
  refine q_ldc2 (v := 500) dX9_run_3 (by decide +kernel) ?_
  refine q_callSd dX9_run_6 wX9_run_60 (n_in) rfl rfl (Nat.le_of_ble_eq_true rfl) ⟨⟨Nat.le_of_ble_eq_true rfl, Nat.le_of_ble_eq_true rfl⟩, Nat.le_of_ble_eq_true rfl, Nat.le_of_ble_eq_true rfl⟩ ?_
  refine q_if_ne 14 dX9_run_9 (by decide) (fun _ => ?_) (fun z => absurd z (by rw [inB_nI (a := 1) (b := 500) (by decide) (by decide) hq0 hq (by omega)]; decide))
  refine q_aload_n dX9_run_14 rfl rfl ?_
  refine q_get dX9_run_15 fX9_run_111 (hM) rfl ?_
  refine q_iconst (v := 2) dX9_run_18 rfl ?_
  refine q_icmp_ge 25 dX9_run_19 (by decide) (fun _ => ?_) (fun z => absurd (by rw [hn]; exact nI_le (a := 2) hn2 (by omega)) z)
  refine q_iconst (v := 0) dX9_run_25 rfl ?_
  refine q_istore_n dX9_run_26 rfl (by decide) ?_
  refine q_iconst (v := 0) dX9_run_27 rfl ?_
  refine q_istore_n dX9_run_28 rfl (by decide) ?_
  exact key q 0 _ _ _ _ (by omega) rfl rfl (by unfold nH; dsimp only [runS]; rw [show upd lo 0 (lo 0) = lo from by funext j; by_cases e : j = 0; rw [e, pk_us]; rw [pk_un e], show upd z 19 (z 19) = z from by funext j; by_cases e : j = 19; rw [e, pk_us]; rw [pk_un e], show mtF mt (lo 0, f, mt 0, mt 1, mt 2, mt 3, z 19) = mt from by funext j; unfold mtF; by_cases e3 : j = 3; rw [e3, pk_us]; rw [pk_un e3]; by_cases e2 : j = 2; rw [e2, pk_us]; rw [pk_un e2]; by_cases e1 : j = 1; rw [e1, pk_us]; rw [pk_un e1]; by_cases e0 : j = 0; rw [e0, pk_us]; rw [pk_un e0], hset_same hlo.2, hset_same hf.2, hset_same hmt.2, hset_same hM.2]) ⟨rfl, rfl, rfl, rfl, trivial⟩
theorem n_grains {t : Nat} {b : Bool} {wt : Nat → Nat} (hb : wt = if b then wUp else wDn) (ht : t < 1000) (hM : hat as h m (mo tc r z)) (hn : z 3 = nI n) (hn8 : n ≤ 8) (hf : hat as h (r 13) (aI Γ 240 f)) (hz : zro n f) (hW : ∀ j, j < 10 → pWt f j = nI (W j) ∧ W j < 1000) : Det Γ l mX9_grains rX9_grains [.ref m, .int (nI t), .int (bI b)] as h (some (.int (nI (gG W wt t 10)))) h := by
  have hwt : ∀ i, i < 10 → wt i < 10 := fun i hi => by rw [hb]; cases b; exact (wDn_ok i hi).1; exact (wUp_ok i hi).1
  have key : ∀ (d k : Nat) (v3 v4 v5 : Int32) (ls : List (Nat × Value)), k + d = 10 → v3 = nI (t - cB W wt k) → v4 = nI (gG W wt t k) → v5 = nI k → lin ls [(0, .ref m), (1, .int (nI t)), (2, .int (bI b)), (3, .int v3), (4, .int v4), (5, .int v5)] → V Γ l mX9_grains rX9_grains (Zm Γ rX9_grains (qD (some (.int (nI (gG W wt t 10)))) as h)) 0 0 8 ls [] as h := by
    intro d
    induction d with
    | zero =>
      intro k v3 v4 v5 ls hk e3 e4 e5 hl
      subst e3 e4 e5
      refine V.at ?_ hl
      refine q_iload dX9_grains_8 rfl ?_
      refine q_bipush (v := 10) dX9_grains_10 rfl ?_
      refine q_icmp_ge 77 dX9_grains_12 (by decide) (fun _ => ?_) (fun z => absurd (ge_c 10 rfl (by omega) (by omega)) z)
      refine q_iload dX9_grains_77 rfl ?_
      exact q_iret dX9_grains_79 rfl (Nat.zero_le _) (Nat.zero_le _) (⟨by rw [show k = 10 by omega], rfl, rfl⟩)
    | succ d ih =>
      intro k v3 v4 v5 ls hk e3 e4 e5 hl
      subst e3 e4 e5
      have hk10 : k < 10 := by omega
      have hw := hwt k hk10
      have hWk := hW (wt k) hw
      have fin : ∀ v7 : Int32, v7 = nI (min (W (wt k)) (t - cB W wt k)) → V Γ l mX9_grains rX9_grains (Zm Γ rX9_grains (qD (some (.int (nI (gG W wt t 10)))) as h)) 0 0 51 [(0, .ref m), (1, .int (nI t)), (2, .int (bI b)), (3, .int (nI (t - cB W wt k))), (4, .int (nI (gG W wt t k))), (5, .int (nI k)), (6, .int (nI (wt k)))] [.int v7] as h := by
        intro v7 e7
        subst e7
        refine q_istore dX9_grains_51 (by decide) ?_
        refine q_iload dX9_grains_53 rfl ?_
        refine q_iload dX9_grains_55 rfl ?_
        refine q_bipush (v := 10) dX9_grains_57 rfl ?_
        refine q_iload dX9_grains_59 rfl ?_
        refine q_isub dX9_grains_61 ?_
        refine q_imul dX9_grains_62 ?_
        refine q_iadd dX9_grains_63 ?_
        refine q_istore dX9_grains_64 (by decide) ?_
        refine q_iload_n dX9_grains_66 rfl rfl ?_
        refine q_iload dX9_grains_67 rfl ?_
        refine q_isub dX9_grains_69 ?_
        refine q_istore_n dX9_grains_70 rfl (by decide) ?_
        refine q_iinc1 dX9_grains_71 rfl (by decide) ?_
        refine q_goto 8 dX9_grains_74 (by decide) ?_
        exact ih (k + 1) _ _ _ _ (by omega) (by rw [pk_sub (by omega)]; simp only [cB]; congr 1; omega) (by rw [show (10 : Int32) = nI 10 from rfl, pk_sub (by omega), pk_mul, nI_add]; rfl) (nI_s k) ⟨rfl, rfl, rfl, rfl, rfl, rfl, trivial⟩
      have mid : ∀ v6 : Int32, v6 = nI (wt k) → V Γ l mX9_grains rX9_grains (Zm Γ rX9_grains (qD (some (.int (nI (gG W wt t 10)))) as h)) 0 0 29 [(0, .ref m), (1, .int (nI t)), (2, .int (bI b)), (3, .int (nI (t - cB W wt k))), (4, .int (nI (gG W wt t k))), (5, .int (nI k))] [.int v6] as h := by
        intro v6 e6
        subst e6
        refine q_istore dX9_grains_29 (by decide) ?_
        refine q_aload_n dX9_grains_31 rfl rfl ?_
        refine q_iload dX9_grains_32 rfl ?_
        refine q_callVd dX9_grains_34 wX9_grains_131 (n_ofAll hw hM hn hn8 hf hz) (hM) ⟨_, _, rfl⟩ rfl rfl (Nat.le_of_ble_eq_true rfl) ⟨⟨Nat.le_of_ble_eq_true rfl, Nat.le_of_ble_eq_true rfl⟩, Nat.le_of_ble_eq_true rfl, Nat.le_of_ble_eq_true rfl⟩ ?_
        refine q_iload_n dX9_grains_37 rfl rfl ?_
        rw [hWk.1]
        refine q_icmp_ge 50 dX9_grains_38 (by decide) (fun cA => ?_) (fun cA => ?_)
        · refine q_iload_n dX9_grains_50 rfl rfl ?_
          exact V.at (fin _ (by rw [Nat.min_eq_right ((nI_leI (by omega) (by omega)).mp cA)])) ⟨rfl, rfl, rfl, rfl, rfl, rfl, rfl, trivial⟩
        · refine q_aload_n dX9_grains_41 rfl rfl ?_
          refine q_iload dX9_grains_42 rfl ?_
          refine q_callVd dX9_grains_44 wX9_grains_131 (n_ofAll hw hM hn hn8 hf hz) (hM) ⟨_, _, rfl⟩ rfl rfl (Nat.le_of_ble_eq_true rfl) ⟨⟨Nat.le_of_ble_eq_true rfl, Nat.le_of_ble_eq_true rfl⟩, Nat.le_of_ble_eq_true rfl, Nat.le_of_ble_eq_true rfl⟩ ?_
          refine q_goto 51 dX9_grains_47 (by decide) ?_
          exact V.at (fin _ (by rw [hWk.1, Nat.min_eq_left (Nat.le_of_lt ((nI_ltI (by omega) (by omega)).mp (Int32.not_le.mp cA)))])) ⟨rfl, rfl, rfl, rfl, rfl, rfl, rfl, trivial⟩
      refine V.at ?_ hl
      refine q_iload dX9_grains_8 rfl ?_
      refine q_bipush (v := 10) dX9_grains_10 rfl ?_
      refine q_icmp_ge 77 dX9_grains_12 (by decide) (fun z => absurd z (lt_c 10 rfl (by omega) (by omega))) (fun _ => ?_)
      refine q_iload_n dX9_grains_15 rfl rfl ?_
      refine q_if_eq 24 dX9_grains_16 (by decide) (fun cB1 => ?_) (fun cB1 => ?_)
      · refine q_bipush (v := 9) dX9_grains_24 rfl ?_
        refine q_iload dX9_grains_26 rfl ?_
        refine q_isub dX9_grains_28 ?_
        exact V.at (mid _ (by rw [hb, bI_0.mp cB1]; show (9 : Int32) - nI k = nI (9 - k); exact pk_sub (a := 9) (by omega))) ⟨rfl, rfl, rfl, rfl, rfl, rfl, trivial⟩
      · refine q_iload dX9_grains_19 rfl ?_
        refine q_goto 29 dX9_grains_21 (by decide) ?_
        exact V.at (mid _ (by rw [hb, bI_n.mp cB1]; rfl)) ⟨rfl, rfl, rfl, rfl, rfl, rfl, trivial⟩
  refine Con.of (by decide +kernel) rfl rfl (Nat.le_of_ble_eq_true rfl) ?_
  refine q_iload_n dX9_grains_0 rfl rfl ?_
  refine q_istore_n dX9_grains_1 rfl (by decide) ?_
  refine q_iconst (v := 0) dX9_grains_2 rfl ?_
  refine q_istore dX9_grains_3 (by decide) ?_
  refine q_iconst (v := 0) dX9_grains_5 rfl ?_
  refine q_istore dX9_grains_6 (by decide) ?_
  exact key 10 0 _ _ _ _ (by omega) rfl rfl rfl ⟨rfl, rfl, rfl, rfl, rfl, rfl, trivial⟩
theorem n_lookUp {k : Nat} (hk : k < 1000) (hM : hat as h m (mo tc r z)) (hn : z 3 = nI n) (hn8 : n ≤ 8) (hf : hat as h (r 13) (aI Γ 240 f)) (hz : zro n f) (hW : ∀ j, j < 10 → pWt f j = nI (W j) ∧ W j < 1000) (hu : hat as h (r 17) (aI Γ 6 u)) : Det Γ l mX9_lookUp rX9_lookUp [.ref m, .int (nI k)] as h (some (.int (lkU W (u 1) k))) h := by
  refine Con.of (by decide +kernel) rfl rfl (Nat.le_of_ble_eq_true rfl) ?_
  refine q_bipush (v := 10) dX9_lookUp_0 rfl ?_
  refine q_aload_n dX9_lookUp_2 rfl rfl ?_
  refine q_iload_n dX9_lookUp_3 rfl rfl ?_
  refine q_iconst (v := 1) dX9_lookUp_4 rfl ?_
  refine q_callVd dX9_lookUp_5 wX9_lookUp_150 (n_grains (b := true) (W := W) rfl hk hM hn hn8 hf hz hW) (hM) ⟨_, _, rfl⟩ rfl rfl (Nat.le_of_ble_eq_true rfl) ⟨⟨Nat.le_of_ble_eq_true rfl, Nat.le_of_ble_eq_true rfl⟩, Nat.le_of_ble_eq_true rfl, Nat.le_of_ble_eq_true rfl⟩ ?_
  refine q_imul dX9_lookUp_8 ?_
  refine q_aload_n dX9_lookUp_9 rfl rfl ?_
  refine q_get dX9_lookUp_10 fX9_lookUp_39 (hM) rfl ?_
  refine q_iconst (v := 1) dX9_lookUp_13 rfl ?_
  refine q_iald dX9_lookUp_14 (hu) (in_nI (k := 1) (by omega) (by omega)) ?_
  refine q_iload_n dX9_lookUp_15 rfl rfl ?_
  refine q_imul dX9_lookUp_16 ?_
  refine q_isub dX9_lookUp_17 ?_
  exact q_iret dX9_lookUp_18 rfl (Nat.zero_le _) (Nat.zero_le _) (⟨rfl, rfl, rfl⟩)
theorem n_taleUp {t k : Nat} (ht : t < 1000) (hk : k ≤ t) (hM : hat as h m (mo tc r z)) (hn : z 3 = nI n) (hn8 : n ≤ 8) (hf : hat as h (r 13) (aI Γ 240 f)) (hz : zro n f) (hW : ∀ j, j < 10 → pWt f j = nI (W j) ∧ W j < 1000) : Det Γ l mX9_taleUp rX9_taleUp [.ref m, .int (nI t), .int (nI k)] as h (some (.int (tlU W t k))) h := by
  refine Con.of (by decide +kernel) rfl rfl (Nat.le_of_ble_eq_true rfl) ?_
  refine q_bipush (v := 10) dX9_taleUp_0 rfl ?_
  refine q_aload_n dX9_taleUp_2 rfl rfl ?_
  refine q_iload_n dX9_taleUp_3 rfl rfl ?_
  refine q_iload_n dX9_taleUp_4 rfl rfl ?_
  refine q_isub dX9_taleUp_5 ?_
  refine q_iconst (v := 0) dX9_taleUp_6 rfl ?_
  rw [pk_sub hk]
  refine q_callVd dX9_taleUp_7 wX9_taleUp_150 (n_grains (b := false) (W := W) rfl (by omega) hM hn hn8 hf hz hW) (hM) ⟨_, _, rfl⟩ rfl rfl (Nat.le_of_ble_eq_true rfl) ⟨⟨Nat.le_of_ble_eq_true rfl, Nat.le_of_ble_eq_true rfl⟩, Nat.le_of_ble_eq_true rfl, Nat.le_of_ble_eq_true rfl⟩ ?_
  refine q_imul dX9_taleUp_10 ?_
  exact q_iret dX9_taleUp_11 rfl (Nat.zero_le _) (Nat.zero_le _) (⟨rfl, rfl, rfl⟩)
theorem n_common {up : Int64} {a b : Nat} (hup : (if 0 < up then up else -up) = lN a) (ha : a < 2 ^ 63) (hb : b < 2 ^ 63) : Det Γ l mX9_common rX9_common [.long up, .long (lN b)] as h (some (.long (lN (Nat.gcd a b)))) h := by
  have key : ∀ (b' a' : Nat) (v4 v6 : Int64) (ls : List (Nat × Value)), a' < 2 ^ 63 → b' < 2 ^ 63 → Nat.gcd a b = Nat.gcd a' b' → v4 = lN a' → v6 = lN b' → lin ls [(4, .long v4), (6, .long v6)] → V Γ l mX9_common rX9_common (Zm Γ rX9_common (qD (some (.long (lN (Nat.gcd a b)))) as h)) 0 0 17 ls [] as h := by
    intro b'
    induction b' using Nat.strongRecOn with
    | ind b' ih =>
      intro a' v4 v6 ls h1 h2 h4 e4 e6 hl
      subst e4 e6
      refine V.at ?_ hl
      refine q_lload dX9_common_17 rfl ?_
      refine q_lconst (v := 0) dX9_common_19 rfl ?_
      refine q_lcmp dX9_common_20 ?_
      refine q_if_eq 42 dX9_common_21 (by decide) (fun cE => ?_) (fun cE => ?_)
      · have hb0 : b' = 0 := (pk_lEQ (b := 0) h2 (by omega)).mp (lgc0 cE)
        refine q_lload dX9_common_42 rfl ?_
        exact q_lret dX9_common_44 rfl (Nat.zero_le _) (Nat.zero_le _) (⟨by rw [h4, hb0, Nat.gcd_zero_right], rfl, rfl⟩)
      · have hb0 : b' ≠ 0 := by
          intro e
          subst e
          exact cE rfl
        refine q_lload dX9_common_24 rfl ?_
        refine q_lload dX9_common_26 rfl ?_
        refine q_lrem dX9_common_28 ((fun e => hb0 ((pk_lEQ (b := 0) h2 (by omega)).mp e))) ?_
        refine q_lstore dX9_common_29 (by decide) ?_
        refine q_lload dX9_common_31 rfl ?_
        refine q_lstore dX9_common_33 (by decide) ?_
        refine q_lload dX9_common_35 rfl ?_
        refine q_lstore dX9_common_37 (by decide) ?_
        refine q_goto 17 dX9_common_39 (by decide) ?_
        exact ih (a' % b') (Nat.mod_lt _ (by omega)) b' _ _ _ h2 (Nat.lt_of_le_of_lt (Nat.mod_le _ _) h1) (by rw [h4, Nat.gcd_comm b' (a' % b'), ← Nat.gcd_rec, Nat.gcd_comm]) rfl (pk_lRem h1 (by omega) h2) ⟨rfl, rfl, trivial⟩
  refine Con.of (by decide +kernel) rfl rfl (Nat.le_of_ble_eq_true rfl) ?_
  refine q_lload_n dX9_common_0 rfl rfl ?_
  refine q_lconst (v := 0) dX9_common_1 rfl ?_
  refine q_lcmp dX9_common_2 ?_
  refine q_if_ge 11 dX9_common_3 (by decide) (fun cA => ?_) (fun cA => ?_)
  · refine q_lload_n dX9_common_11 rfl rfl ?_
    refine q_lstore dX9_common_12 (by decide) ?_
    refine q_lload_n dX9_common_14 rfl rfl ?_
    refine q_lstore dX9_common_15 (by decide) ?_
    first
    | exact key b a _ _ _ ha hb rfl (by rw [← hup, if_neg (fun e => cA ((lg_cmp_ge _ _).mpr (Int64.le_of_lt e)))]) rfl ⟨rfl, rfl, trivial⟩
    | exact key b a _ _ _ ha hb rfl (by rw [← hup]; have h0 := (lg_cmp_ge _ _).mp cA; by_cases e : 0 < up; rw [if_pos e]; rw [if_neg e]; have e2 : up = 0 := Int64.le_antisymm (Int64.not_lt.mp e) h0; rw [e2]; rfl) rfl ⟨rfl, rfl, trivial⟩
  · refine q_lload_n dX9_common_6 rfl rfl ?_
    refine q_lneg dX9_common_7 ?_
    refine q_goto 12 dX9_common_8 (by decide) ?_
    refine q_lstore dX9_common_12 (by decide) ?_
    refine q_lload_n dX9_common_14 rfl rfl ?_
    refine q_lstore dX9_common_15 (by decide) ?_
    first
    | exact key b a _ _ _ ha hb rfl (by rw [← hup, if_neg (fun e => cA ((lg_cmp_ge _ _).mpr (Int64.le_of_lt e)))]) rfl ⟨rfl, rfl, trivial⟩
    | exact key b a _ _ _ ha hb rfl (by rw [← hup]; have h0 := (lg_cmp_ge _ _).mp cA; by_cases e : 0 < up; rw [if_pos e]; rw [if_neg e]; have e2 : up = 0 := Int64.le_antisymm (Int64.not_lt.mp e) h0; rw [e2]; rfl) rfl ⟨rfl, rfl, trivial⟩
theorem n_inLeast {up : Int64} {a b : Nat} {wh : Int32} (hup : (if 0 < up then up else -up) = lN a) (ha : a < 2 ^ 63) (hb : b < 2 ^ 63) (hb0 : 0 < b) : Det Γ l mX9_inLeast rX9_inLeast [.long up, .long (lN b), .int wh] as h (some (.long ((if wh = 0 then up else lN b) / lN (Nat.gcd a b)))) h := by
  have hg : 0 < Nat.gcd a b := Nat.gcd_pos_of_pos_right _ hb0
  have hg2 : Nat.gcd a b < 2 ^ 63 := Nat.lt_of_le_of_lt (Nat.gcd_le_right _ hb0) hb
  have hne : ¬ lN (Nat.gcd a b) = 0 := fun e => absurd ((pk_lEQ (b := 0) hg2 (by omega)).mp e) (by omega)
  refine Con.of (by decide +kernel) rfl rfl (Nat.le_of_ble_eq_true rfl) ?_
  refine q_lload_n dX9_inLeast_0 rfl rfl ?_
  refine q_lload_n dX9_inLeast_1 rfl rfl ?_
  refine q_callSd dX9_inLeast_2 wX9_inLeast_154 (n_common hup ha hb) rfl rfl (Nat.le_of_ble_eq_true rfl) ⟨⟨Nat.le_of_ble_eq_true rfl, Nat.le_of_ble_eq_true rfl⟩, Nat.le_of_ble_eq_true rfl, Nat.le_of_ble_eq_true rfl⟩ ?_
  refine q_lstore dX9_inLeast_5 (by decide) ?_
  refine q_iload dX9_inLeast_7 rfl ?_
  refine q_if_ne 19 dX9_inLeast_9 (by decide) (fun cW => ?_) (fun cW => ?_)
  · refine q_lload_n dX9_inLeast_19 rfl rfl ?_
    refine q_lload dX9_inLeast_20 rfl ?_
    refine q_ldiv dX9_inLeast_22 (hne) ?_
    exact q_lret dX9_inLeast_23 rfl (Nat.zero_le _) (Nat.zero_le _) (⟨by first | rw [if_neg cW] | rw [if_pos cW], rfl, rfl⟩)
  · refine q_lload_n dX9_inLeast_12 rfl rfl ?_
    refine q_lload dX9_inLeast_13 rfl ?_
    refine q_ldiv dX9_inLeast_15 (hne) ?_
    refine q_goto 23 dX9_inLeast_16 (by decide) ?_
    exact q_lret dX9_inLeast_23 rfl (Nat.zero_le _) (Nat.zero_le _) (⟨by first | rw [if_neg cW] | rw [if_pos cW], rfl, rfl⟩)
end

