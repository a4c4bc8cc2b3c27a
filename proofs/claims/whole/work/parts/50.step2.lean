/-! STEPS: meetings, days -/
section
variable {w x y w' x' y' f : Nat → Int32} {n lim : Nat} {lot : Int32}
theorem mLook_c (hn : 2 ≤ n) (hw : agr n w w') (hx : agr n x x') : mLook w x n lot = mLook w' x' n lot := by
  unfold mLook
  rw [hw _ (mTak_lt hn), hx _ (mTak_lt hn)]
theorem mLot_c (hn : 2 ≤ n) (hw : agr n w w') : mLot w n lot = mLot w' n lot := by
  unfold mLot
  rw [hw _ (mTak_lt hn)]
theorem mWt_c (hn : 2 ≤ n) (hw : agr n w w') (hx : agr n x x') (hy : agr n y y') : mWt w x y f n lim lot = mWt w' x' y' f n lim lot := by
  unfold mWt
  rw [mLook_c hn hw hx, hy _ (mPay_lt hn)]
theorem mWk_c (hn : 2 ≤ n) (hw : agr n w w') (hx : agr n x x') (hy : agr n y y') : mWk w x y f n lim lot = mWk w' x' y' f n lim lot := by
  unfold mWk
  rw [mWt_c hn hw hx hy]
theorem mGoB_c (hn : 2 ≤ n) (hw : agr n w w') (hx : agr n x x') (hy : agr n y y') : mGoB w x y f n lim lot = mGoB w' x' y' f n lim lot := by
  unfold mGoB
  rw [mWt_c hn hw hx hy, mWk_c hn hw hx hy]
theorem mSt_c (hn : 2 ≤ n) (hw : agr n w w') (hx : agr n x x') (hy : agr n y y') (s : msT) : mSt w x y n lim s = mSt w' x' y' n lim s := by
  unfold mSt mPaid mF
  rw [mLot_c hn hw, mLook_c hn hw hx, mWt_c hn hw hx hy, mWk_c hn hw hx hy, mGoB_c hn hw hx hy]
theorem runS_c (hn : 2 ≤ n) (hw : agr n w w') (hx : agr n x x') (hy : agr n y y') (s : msT) : ∀ k, runS w x y n lim s k = runS w' x' y' n lim s k
  | 0 => rfl
  | k + 1 => by
    show (mSt w x y n lim (runS w x y n lim s k).1, _) = (mSt w' x' y' n lim (runS w' x' y' n lim s k).1, _)
    rw [runS_c hn hw hx hy s k, mSt_c hn hw hx hy]
theorem mF_hi (hl : lim ≤ 9) (hn : 2 ≤ n) (hn8 : n ≤ 8) {j : Nat} (hj : 80 ≤ j) : mF w x y f n lim lot j = f j := by
  unfold mF
  by_cases c : mGoB w x y f n lim lot = true
  · rw [if_pos c]
    unfold mGoB at c
    rw [Bool.and_eq_true, decide_eq_true_eq] at c
    have h1 := mPay_lt (lot := lot) hn
    have h2 := mTak_lt (lot := lot) hn
    have h3 : mWk w x y f n lim lot < 10 := by
      rcases mWt_in (w := w) (x := x) (y := y) (f := f) (n := n) (lot := lot) hl with e | e
      · exact absurd e c.1
      · exact e.1
    unfold moveF
    rw [pk_un (by omega), pk_un (by omega)]
  · rw [if_neg c]
theorem run_hi {s : msT} (hl : lim ≤ 9) (hn : 2 ≤ n) (hn8 : n ≤ 8) {j : Nat} (hj : 80 ≤ j) : ∀ k, (runS w x y n lim s k).1.2.1 j = s.2.1 j
  | 0 => rfl
  | k + 1 => by
    show mF w x y (runS w x y n lim s k).1.2.1 n lim (runS w x y n lim s k).1.1 j = _
    rw [mF_hi hl hn hn8 hj, run_hi hl hn hn8 hj k]
end
theorem img_hi {n o : Nat} {F F' g : Nat → Int32} {c : Int32} (ho : 80 ≤ o) (h : ∀ j, 80 ≤ j → F' j = F j) (hi : img n F g c o) : img n F' g c o := ⟨fun i hi' => by rw [h _ (by omega)]; exact hi.1 i hi', hi.2⟩
section
variable {Γ : gT} {l : Launch} {as : List Nat} {A : Nat → Nat} {h : aH} {φ : fT} {z : Nat → Int32} {ν : Nat → Nat} {d3 d4 : Int32} {tc : Int64} {gw : Nat → Int64}
abbrev mHA (Γ : gT) (A : Nat → Nat) (φ : fT) (tc : Int64) (h : aH) (s : msT) : aH := mH Γ (A 0) (A 1) (A 3) (A 5) (A 7) (A 9) (A 10) (A 14) (A 16) (A 23) (A 28) (A 4) (φ 41 0) tc h s
theorem meet_IL (hI : IL as A h (CL Γ A φ z ν d3 d4 tc gw)) (s : msT) : IL as A (mHA Γ A φ tc h s) ((((CL Γ A φ z ν d3 d4 tc gw).set 0 (xo (A 1) (A 3) (A 5) (A 7) (A 9) (A 10) (A 14) (A 16) (A 23) (A 28) s.1 (φ 41 0) tc)).set 4 (aI Γ 80 s.2.1)).set 9 (ob 3 [.int s.2.2.1, .int s.2.2.2.1, .int s.2.2.2.2.1, .int s.2.2.2.2.2.1, .int s.2.2.2.2.2.2])) :=
  ((hI.set 0 (xo (A 1) (A 3) (A 5) (A 7) (A 9) (A 10) (A 14) (A 16) (A 23) (A 28) s.1 (φ 41 0) tc) rfl).set 4 (aI Γ 80 s.2.1) rfl).set 9 (ob 3 [.int s.2.2.1, .int s.2.2.2.1, .int s.2.2.2.2.1, .int s.2.2.2.2.2.1, .int s.2.2.2.2.2.2]) rfl
theorem meet_inv (hI : IL as A h (CL Γ A φ z ν d3 d4 tc gw)) (hR : REL φ z ν) {s : msT} (hb : bnd s.2.1) (hz : zro (ν 6) s.2.1) (hh : ∀ j, 80 ≤ j → s.2.1 j = φ 4 j) : INV Γ as (A 0) (A 33) (nH Γ (A 33) tc (rA A) z (φ 40) (φ 44) (mHA Γ A φ tc h s) s) := by
  obtain ⟨⟨r1, r5, r6, z2, z3⟩, ⟨tu, lw, bn, zr, yr, tx⟩, ag, i0, i1⟩ := hR
  have hI1 := meet_IL hI s
  have hI2 := (((hI1.set 40 (aI Γ 3 (upd (φ 40) 0 s.1)) rfl).set 39 (aI Γ 240 s.2.1) rfl).set 44 (aI Γ 4 (mtF (φ 44) s)) rfl).set 33 (mo tc (rA A) (upd z 19 s.2.2.2.2.2.2)) rfl
  exact INV.of (φ := upφ (upφ (upφ φ 40 (upd (φ 40) 0 s.1)) 4 s.2.1) 44 (mtF (φ 44) s)) (z := upd z 19 s.2.2.2.2.2.2) (ν := ν) (d3 := d3) (d4 := d4) (tc := tc) (gw := gw) (hI2.l rfl) ⟨⟨r1, r5, r6, z2, z3⟩, ⟨tu, lw, hb, hz, yr, tx⟩, ag, img_hi (by omega) hh i0, img_hi (by omega) hh i1⟩
theorem s_meet (hI : IL as A h (CL Γ A φ z ν d3 d4 tc gw)) (hR : REL φ z ν) : STEP Γ l mX8_meet rX8_meet mX9_meet rX9_meet [] as (A 0) (A 33) h := by
  obtain ⟨⟨r1, r5, r6, z2, z3⟩, ⟨tu, lw, bn, zr, yr, tx⟩, ⟨a24, a25, a26, a27, py⟩, i0, i1⟩ := id hR
  by_cases hn : ν 6 < 2
  · exact STEP.same hI hR (c_meet_few hn (K0 hI) (K23 hI)) (n_meet_few (K33 hI) z3 hn)
  · have hn : 2 ≤ ν 6 := by omega
    obtain ⟨⟨lim, hl, el⟩, -⟩ := tun_n tu
    have c8 := c_meet (l := l) hn r6 hl (K0 hI) (K3 hI) (K4 hI) (K7 hI) (K8 hI) el (K9 hI) (K23 hI) (K24 hI) (K25 hI) (K26 hI)
    rw [mSt_c hn a24 a25 a26] at c8
    have hI1 := meet_IL hI (mSt (φ 35) (φ 36) (φ 37) (ν 6) lim (φ 40 0, φ 4, φ 44 0, φ 44 1, φ 44 2, φ 44 3, z 19))
    have c9 := n_meet (l := l) z3 hn r6 hl el (hI1.at 33 rfl) (hI1.at 40 rfl) (hI1.at 39 rfl) (hI1.at 44 rfl) (hI1.at 35 rfl) (hI1.at 36 rfl) (hI1.at 37 rfl) (hI1.at 43 rfl) (fun p hp => by rw [← a26 p hp]; exact py p hp) (fun j hj => (bn j hj).2)
    exact STEP.of hI1 c8 c9 (meet_inv hI hR (mF_bnd hl hn r6 bn) (mF_zro hl hn zr) (fun j hj => mF_hi hl hn r6 hj))
theorem s_run {q : Int32} (hI : IL as A h (CL Γ A φ z ν d3 d4 tc gw)) (hR : REL φ z ν) : STEP Γ l mX8_run rX8_run mX9_run rX9_run [.int q] as (A 0) (A 33) h := by
  obtain ⟨⟨r1, r5, r6, z2, z3⟩, ⟨tu, lw, bn, zr, yr, tx⟩, ⟨a24, a25, a26, a27, py⟩, i0, i1⟩ := id hR
  rcases rng1 q 500 (by omega) with hb | ⟨m, hm0, hm, rfl⟩
  · exact STEP.same hI hR (c_run_bad hb) (n_run_bad hb)
  · by_cases hn : ν 6 < 2
    · exact STEP.same hI hR (c_run_few hm0 hm hn (K0 hI) (K23 hI)) (n_run_few hm0 hm (K33 hI) z3 hn)
    · have hn : 2 ≤ ν 6 := by omega
      obtain ⟨⟨lim, hl, el⟩, -⟩ := tun_n tu
      have c8 := c_run (l := l) hm0 hm hn r6 hl (K0 hI) (K3 hI) (K4 hI) (K7 hI) (K8 hI) el (K9 hI) (K23 hI) (K24 hI) (K25 hI) (K26 hI) (hI.ne 8 4 rfl rfl rfl) (hI.ne 24 4 rfl rfl rfl) (hI.ne 25 4 rfl rfl rfl) (hI.ne 26 4 rfl rfl rfl)
      rw [runS_c hn a24 a25 a26] at c8
      have hI1 := meet_IL hI (runS (φ 35) (φ 36) (φ 37) (ν 6) lim (φ 40 0, φ 4, φ 44 0, φ 44 1, φ 44 2, φ 44 3, z 19) m).1
      have c9 := n_run (l := l) hm0 hm z3 hn r6 hl el (hI1.at 33 rfl) (hI1.at 40 rfl) (hI1.at 39 rfl) (hI1.at 44 rfl) (hI1.at 35 rfl) (hI1.at 36 rfl) (hI1.at 37 rfl) (hI1.at 43 rfl) (fun p hp => by rw [← a26 p hp]; exact py p hp) bn zr
      have ho := run_ok (w := φ 35) (x := φ 36) (y := φ 37) (s := (φ 40 0, φ 4, φ 44 0, φ 44 1, φ 44 2, φ 44 3, z 19)) hl hn r6 bn zr m
      exact STEP.of hI1 c8 c9 (meet_inv hI hR ho.1 ho.2 (fun j hj => run_hi hl hn r6 hj m))
/-! days -/
abbrev layA (Γ : gT) (A : Nat → Nat) (φ : fT) (n : Nat) (h : aH) : aH := layH Γ (A 10) (A 11) (A 12) (A 13) n (φ 8 1) (φ 4) (φ 11) (φ 12) (φ 13) (Wf (φ 4)) h
abbrev φL (φ : fT) (n : Nat) : fT := upφ (upφ (upφ φ 11 (fillF (pWt (φ 4)) (φ 11) 10)) 12 (hvL (Wf (φ 4)) n (φ 12))) 13 (ltL (Wf (φ 4)) n (φ 13))
theorem lay_IL (hI : IL as A h (CL Γ A φ z ν d3 d4 tc gw)) (n : Nat) : IL as A (layA Γ A φ n h) (CL Γ A (φL φ n) z ν (nI n) (φ 8 1) tc gw) :=
  ((((hI.set 10 (ob 0 [.ref (A 11), .ref (A 12), .ref (A 13), .int (nI n), .int (φ 8 1)]) rfl).set 11 (aI Γ 10 (fillF (pWt (φ 4)) (φ 11) 10)) rfl).set 12 (aI Γ 31 (hvL (Wf (φ 4)) n (φ 12))) rfl).set 13 (aI Γ 31 (ltL (Wf (φ 4)) n (φ 13))) rfl).l rfl
theorem dyR_in {all p q : Int32} (hd : dyR all p q = 0) : ∃ n k : Nat, 1 ≤ n ∧ n ≤ 30 ∧ k ≤ n ∧ p = nI n ∧ q = nI k ∧ p ≤ all := by
  unfold dyR at hd
  by_cases c : p < 1 ∨ 30 < p ∨ q < 0 ∨ p < q
  · rw [if_pos c] at hd; exact absurd hd (by decide)
  · rw [if_neg c] at hd
    by_cases c2 : p ≤ all
    · rcases rng1 p 30 (by omega) with hb | ⟨n, h1, h2, rfl⟩
      · exact absurd (hb.elim Or.inl (fun e => Or.inr (Or.inl e))) c
      · obtain ⟨k, hk, rfl⟩ := nI_of (x := q) (fun e => c (Or.inr (Or.inr (Or.inl e))))
        have hkn : k ≤ n := by
          apply Classical.byContradiction
          intro hc
          exact c (Or.inr (Or.inr (Or.inr (nI_lt (by omega) hk))))
        exact ⟨n, k, h1, h2, hkn, rfl, rfl, c2⟩
    · rw [if_neg c2] at hd; exact absurd hd (by decide)
theorem day_n {n : Nat} (bn : bnd (φ 4)) (h2 : n ≤ 30) (h4 : nI n ≤ pAll (φ 4)) : n ≤ sN (Wf (φ 4)) 10 := by
  have h := sN_W bn
  rw [pAll_W bn, nI_leI (by omega) (by omega)] at h4
  exact h4
theorem s_rests {q : Int32} (hI : IL as A h (CL Γ A φ z ν d3 d4 tc gw)) (hR : REL φ z ν) : STEP Γ l mX8_rests rX8_rests mX9_rests rX9_rests [.int q] as (A 0) (A 33) h := by
  obtain ⟨⟨r1, r5, r6, z2, z3⟩, ⟨tu, lw, bn, zr, yr, tx⟩, ag, i0, i1⟩ := id hR
  by_cases hd : dyR (pAll (φ 4)) q 0 = 0
  · obtain ⟨n, k, h1, h2, h3, rfl, -, h4⟩ := dyR_in hd
    obtain ⟨-, ⟨L, hL, eL⟩, -⟩ := tun_n tu
    have hs := day_n bn h2 h4
    have c8 := c_rests (l := l) (K0 hI) (K3 hI) (K4 hI) (K7 hI) (K8 hI) (K10 hI) (K11 hI) (K12 hI) (K13 hI) (hI.ne 12 13 rfl rfl rfl) (Wf_W bn) h1 h2 h4
    have e : rsS (dUp (hvL (Wf (φ 4)) n (φ 12)) (ltL (Wf (φ 4)) n (φ 13)) n (φ 8 1)) (dDn (hvL (Wf (φ 4)) n (φ 12)) (ltL (Wf (φ 4)) n (φ 13)) n (φ 8 1)) (n + 1) = rsS (nUp (Wf (φ 4)) (φ 8 1) n) (nDn (Wf (φ 4)) (φ 8 1) n) (n + 1) := by
      rw [eL]
      exact rs_c _ (fun k hk => ⟨day_up h2 hs hL, day_dn h2 hs hL (by omega)⟩)
    rw [e] at c8
    have hI1 := lay_IL hI n
    exact STEP.of hI1 c8 (n_rests h1 h2 h4 (K33 hI1) z3 r6 (hI1.at 39 rfl) zr (Wf_W bn) (hI1.at 43 rfl)) (INV.of hI1 hR)
  · exact STEP.same hI hR (c_rests_no hd (K0 hI) (K3 hI) (K4 hI)) (n_rests_no hd (K33 hI) z3 r6 (K39 hI) zr)
theorem s_goes {q k : Int32} (hI : IL as A h (CL Γ A φ z ν d3 d4 tc gw)) (hR : REL φ z ν) : STEP Γ l mX8_goes rX8_goes mX9_goes rX9_goes [.int q, .int k] as (A 0) (A 33) h := by
  obtain ⟨⟨r1, r5, r6, z2, z3⟩, ⟨tu, lw, bn, zr, yr, tx⟩, ag, i0, i1⟩ := id hR
  by_cases hd : dyR (pAll (φ 4)) q k = 0
  · obtain ⟨n, k, h1, h2, h3, rfl, rfl, h4⟩ := dyR_in hd
    obtain ⟨-, ⟨L, hL, eL⟩, -⟩ := tun_n tu
    have hs := day_n bn h2 h4
    have c8 := c_goes (l := l) (K0 hI) (K3 hI) (K4 hI) (K7 hI) (K8 hI) (K10 hI) (K11 hI) (K12 hI) (K13 hI) (hI.ne 12 13 rfl rfl rfl) (Wf_W bn) h1 h2 h4 h3
    have e : enS (dUp (hvL (Wf (φ 4)) n (φ 12)) (ltL (Wf (φ 4)) n (φ 13)) n (φ 8 1)) (dDn (hvL (Wf (φ 4)) n (φ 12)) (ltL (Wf (φ 4)) n (φ 13)) n (φ 8 1)) n k = enS (nUp (Wf (φ 4)) (φ 8 1) n) (nDn (Wf (φ 4)) (φ 8 1) n) n k := by
      rw [eL]
      exact en_c (n := n) (fun k hk => dUp_lt hk) (fun k hk => ⟨day_up h2 hs hL, day_dn h2 hs hL hk⟩) n k h3
    rw [e] at c8
    have hI1 := lay_IL hI n
    exact STEP.of hI1 c8 (n_goes h1 h2 h3 h4 (K33 hI1) z3 r6 (hI1.at 39 rfl) zr (Wf_W bn) (hI1.at 43 rfl)) (INV.of hI1 hR)
  · exact STEP.same hI hR (c_goes_no hd (K0 hI) (K3 hI) (K4 hI)) (n_goes_no hd (K33 hI) z3 r6 (K39 hI) zr)
theorem s_tip {q : Int32} (hI : IL as A h (CL Γ A φ z ν d3 d4 tc gw)) (hR : REL φ z ν) : STEP Γ l mX8_tip rX8_tip mX9_tip rX9_tip [.int q] as (A 0) (A 33) h := by
  obtain ⟨⟨r1, r5, r6, z2, z3⟩, ⟨tu, lw, bn, zr, yr, tx⟩, ag, i0, i1⟩ := id hR
  by_cases hd : dyR (pAll (φ 4)) q 0 = 0
  · obtain ⟨n, k, h1, h2, h3, rfl, -, h4⟩ := dyR_in hd
    obtain ⟨-, ⟨L, hL, eL⟩, -⟩ := tun_n tu
    have hs := day_n bn h2 h4
    have c8 := c_tip (l := l) (K0 hI) (K3 hI) (K4 hI) (K7 hI) (K8 hI) (K10 hI) (K11 hI) (K12 hI) (K13 hI) (hI.ne 12 13 rfl rfl rfl) (Wf_W bn) h1 h2 h4
    have e : tiS (dUp (hvL (Wf (φ 4)) n (φ 12)) (ltL (Wf (φ 4)) n (φ 13)) n (φ 8 1)) (dDn (hvL (Wf (φ 4)) n (φ 12)) (ltL (Wf (φ 4)) n (φ 13)) n (φ 8 1)) n (n + 1) 0 = tiS (nUp (Wf (φ 4)) (φ 8 1) n) (nDn (Wf (φ 4)) (φ 8 1) n) n (n + 1) 0 := by
      rw [eL]
      exact ti_c (n := n) (fun k hk => dUp_lt hk) (fun k hk => ⟨day_up h2 hs hL, day_dn h2 hs hL hk⟩) (n + 1) 0 (by omega)
    rw [e] at c8
    have hI1 := lay_IL hI n
    exact STEP.of hI1 c8 (n_tip h1 h2 h4 (K33 hI1) z3 r6 (hI1.at 39 rfl) zr (Wf_W bn) (hI1.at 43 rfl)) (INV.of hI1 hR)
  · exact STEP.same hI hR (c_tip_no hd (K0 hI) (K3 hI) (K4 hI)) (n_tip_no hd (K33 hI) z3 r6 (K39 hI) zr)
theorem s_out {q k : Int32} (hI : IL as A h (CL Γ A φ z ν d3 d4 tc gw)) (hR : REL φ z ν) : STEP Γ l mX8_out rX8_out mX9_out rX9_out [.int q, .int k] as (A 0) (A 33) h := by
  obtain ⟨⟨r1, r5, r6, z2, z3⟩, ⟨tu, lw, bn, zr, yr, tx⟩, ag, i0, i1⟩ := id hR
  by_cases hd : dyR (pAll (φ 4)) q k = 0
  · obtain ⟨n, k, h1, h2, h3, rfl, rfl, h4⟩ := dyR_in hd
    have hs := day_n bn h2 h4
    have hA := sN_W bn
    have c8 := c_out (l := l) (K0 hI) (K3 hI) (K4 hI) (K7 hI) (K8 hI) (K10 hI) (K11 hI) (K12 hI) (K13 hI) (hI.ne 12 13 rfl rfl rfl) (Wf_W bn) h1 h2 h4 h3
    rw [day_out hs (by omega) h3] at c8
    have hI1 := lay_IL hI n
    exact STEP.of hI1 c8 (n_out h1 h2 h3 (pAll_W bn) (by omega) hs (K33 hI1) z3 r6 (hI1.at 39 rfl) zr (Wf_W bn)) (INV.of hI1 hR)
  · exact STEP.same hI hR (c_out_no hd (K0 hI) (K3 hI) (K4 hI)) (n_out_no hd (K33 hI) z3 r6 (K39 hI) zr)
theorem s_gain {p q a b : Int32} (hI : IL as A h (CL Γ A φ z ν d3 d4 tc gw)) (hR : REL φ z ν) : STEP Γ l mX8_gain rX8_gain mX9_gain rX9_gain [.int p, .int q, .int a, .int b] as (A 0) (A 33) h := by
  obtain ⟨⟨r1, r5, r6, z2, z3⟩, ⟨tu, lw, bn, zr, yr, tx⟩, ag, i0, i1⟩ := id hR
  by_cases hd : dyR (pAll (φ 4)) p q = 0
  · rcases isUL_c a with ⟨-, hb⟩ | ⟨-, -, -, j, hj, ea⟩
    · exact STEP.same hI hR (c_gain_no (hb.elim Or.inl (fun e => Or.inr (Or.inl e))) (K0 hI) (K3 hI) (K4 hI)) (n_gain_no (hb.elim Or.inl (fun e => Or.inr (Or.inl e))) (K33 hI) z3 r6 (K39 hI) zr)
    · rcases isUL_c b with ⟨hb, -⟩ | ⟨hb, -⟩
      · exact STEP.same hI hR (c_gain_no (Or.inr (Or.inr (Or.inl hb))) (K0 hI) (K3 hI) (K4 hI)) (n_gain_no (Or.inr (Or.inr (Or.inl hb))) (K33 hI) z3 r6 (K39 hI) zr)
      · obtain ⟨n, k, h1, h2, h3, rfl, rfl, h4⟩ := dyR_in hd
        obtain ⟨-, ⟨L, hL, eL⟩, -⟩ := tun_n tu
        have hs := day_n bn h2 h4
        have hI1 := lay_IL hI n
        have hg3 := gG300 (W := Wf (φ 4)) (wt := wDn) (t := n - k) (by omega) 10
        rcases (show j = 0 ∨ j = 1 by omega) with rfl | rfl
        · have ea : a = 0 := ea
          subst ea
          have c8 := c_gain_tale (l := l) (g := gG (Wf (φ 4)) wDn (n - k) 10) (K0 hI) (K3 hI) (K4 hI) (K7 hI) (K8 hI) (K10 hI) (K11 hI) (K12 hI) (K13 hI) (hI.ne 12 13 rfl rfl rfl) (Wf_W bn) h1 h2 h4 h3 hb (by rw [lt_at hs (by omega), nI_l (by omega)]) (by omega) (stp200 (by omega))
          have e : (if k = n then (-1000000000000000000 : Int64) else (if b = 0 then lN (gG (Wf (φ 4)) wDn (n - k) 10) else lN (n - k)) / lN (Nat.gcd (gG (Wf (φ 4)) wDn (n - k) 10) (n - k))) = (if k = n then -1000000000000000000 else (if b = 0 then lN (10 * gG (Wf (φ 4)) wDn (n - k) 10) else lN (10 * (n - k))) / lN (Nat.gcd (10 * gG (Wf (φ 4)) wDn (n - k) 10) (10 * (n - k)))) := by
            by_cases c : k = n
            · rw [if_pos c, if_pos c]
            · rw [if_neg c, if_neg c, gcd10 (by omega) (by omega) (by omega)]
          rw [e] at c8
          exact STEP.of hI1 c8 (n_gain_tale h1 h2 h3 h4 hb (by omega) (K33 hI1) z3 r6 (hI1.at 39 rfl) zr (Wf_W bn)) (INV.of hI1 hR)
        · have ea : a = 1 := ea
          subst ea
          obtain ⟨g, hg, eg⟩ := lk_abs (W := Wf (φ 4)) (k := k) (by omega) hL
          have ek : 10 * hvL (Wf (φ 4)) n (φ 12) k - φ 8 1 * nI k = lkU (Wf (φ 4)) (φ 8 1) k := by
            unfold lkU
            rw [hv_at hs h3]
          rw [← eL] at eg
          have c8 := c_gain_look (l := l) (g := g) (K0 hI) (K3 hI) (K4 hI) (K7 hI) (K8 hI) (K10 hI) (K11 hI) (K12 hI) (K13 hI) (hI.ne 12 13 rfl rfl rfl) (Wf_W bn) h1 h2 h4 h3 hb (by rw [ek]; exact eg) hg (stp200 (by omega))
          rw [ek] at c8
          exact STEP.of hI1 c8 (n_gain_look h1 h2 h3 h4 hb eg hg (K33 hI1) z3 r6 (hI1.at 39 rfl) zr (Wf_W bn) (hI1.at 43 rfl)) (INV.of hI1 hR)
  · exact STEP.same hI hR (c_gain_no (Or.inr (Or.inr (Or.inr hd))) (K0 hI) (K3 hI) (K4 hI)) (n_gain_no (Or.inr (Or.inr (Or.inr hd))) (K33 hI) z3 r6 (K39 hI) zr)
end

