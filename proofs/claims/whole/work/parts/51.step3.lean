/-! STEPS: clips, years, changers, laws, first days -/
theorem yr_ok {f : Nat → Int32} {n yy wr : Nat} (hb : bnd f) (hz : zro n f) : ∀ k, bnd (yrS f yy wr k) ∧ zro n (yrS f yy wr k) ∧ ∀ j, 80 ≤ j → yrS f yy wr k j = f j
  | 0 => ⟨hb, hz, fun _ _ => rfl⟩
  | k + 1 => by
    obtain ⟨h1, h2, h3⟩ := yr_ok (yy := yy) (wr := wr) hb hz k
    unfold yrS
    by_cases c : (yy + k + 1) % wr = 0
    · rw [if_pos c]
      exact ⟨bnd_wear h1, zro_wear h2, fun j hj => by rw [wearA_hi hj]; exact h3 j hj⟩
    · rw [if_neg c]
      exact ⟨h1, h2, h3⟩
section
variable {o o' : Nat → Int32} {n : Nat}
theorem afS_c {num t : Int32} : ∀ m, (∀ p, p < m → o p = o' p) → afS o num t m = afS o' num t m
  | 0, _ => rfl
  | m + 1, h => by
    show (if num < o m then afS o num t m else afS o num t m ||| (1 <<< (nI m &&& 31))) = (if num < o' m then afS o' num t m else afS o' num t m ||| (1 <<< (nI m &&& 31)))
    rw [h m (by omega), afS_c m (fun p hp => h p (by omega))]
theorem afR_c (ho : agr n o o') (t : Int32) : afR o n t = afR o' n t := afS_c n ho
theorem takS_c (ho : agr n o o') (t : Int32) : ∀ k, takS o n t k = takS o' n t k
  | 0 => rfl
  | k + 1 => by
    show afR o n (takS o n t k) = afR o' n (takS o' n t k)
    rw [takS_c ho t k, afR_c ho]
theorem takF_c (ho : agr n o o') (s : Int32) : takF o n s = takF o' n s := takS_c ho _ 8
theorem rndS_c (ho : agr n o o') : ∀ d k t, rndS o n d k t = rndS o' n d k t
  | 0, _, _ => rfl
  | d + 1, k, t => by
    show (if afR o n t = t then nI k else rndS o n d (k + 1) (afR o n t)) = (if afR o' n t = t then nI k else rndS o' n d (k + 1) (afR o' n t))
    rw [afR_c ho, rndS_c ho d]
theorem rndF_c (ho : agr n o o') (s : Int32) : rndF o n s = rndF o' n s := rndS_c ho 8 0 _
theorem lsS_c (ho : agr n o o') : ∀ k, lsS o n k = lsS o' n k
  | 0 => rfl
  | k + 1 => by
    show (if bcI (nI k) < bcI (lsS o n k) ∧ takF o n (nI k) = evI n then nI k else lsS o n k) = (if bcI (nI k) < bcI (lsS o' n k) ∧ takF o' n (nI k) = evI n then nI k else lsS o' n k)
    rw [lsS_c ho k, takF_c ho]
end
theorem add_l (tc : Int64) (a b c : Nat) (h : a + b = c) : tc + lN a + lN b = tc + lN c := by rw [Int64.add_assoc, lN_add, h]
theorem lb_eq (tc : Int64) : lbT tc 0 = tc + lN 1 ∧ lbT tc 1 = tc + lN 10 + lN 1 ∧ lbT tc 2 = tc + lN 100 + lN 1 ∧ lbT tc 3 = tc + lN 1000 + lN 100 + lN 1 ∧ lbT tc 4 = tc + lN 10000 + lN 1 ∧ lbT tc 5 = tc + lN 100000 + lN 10000 + lN 1 ∧ lbT tc 6 = tc + lN 1000000 + lN 1 := ⟨rfl, rfl, rfl, rfl, rfl, rfl, rfl⟩
theorem ml_eq (tc : Int64) : mlT tc 0 = tc + lN 1 ∧ mlT tc 1 = tc + lN 11 ∧ mlT tc 2 = tc + lN 101 ∧ mlT tc 3 = tc + lN 1101 ∧ mlT tc 4 = tc + lN 10001 ∧ mlT tc 5 = tc + lN 110001 ∧ mlT tc 6 = tc + lN 1000001 := ⟨rfl, rfl, rfl, rfl, rfl, rfl, rfl⟩
theorem lb_ml (tc : Int64) : ∀ j, j < 7 → lbT tc j = mlT tc j := by
  intro j hj
  obtain ⟨a0, a1, a2, a3, a4, a5, a6⟩ := lb_eq tc
  obtain ⟨b0, b1, b2, b3, b4, b5, b6⟩ := ml_eq tc
  rcases (show j = 0 ∨ j = 1 ∨ j = 2 ∨ j = 3 ∨ j = 4 ∨ j = 5 ∨ j = 6 by omega) with e | e | e | e | e | e | e
  · rw [e, a0, b0]
  · rw [e, a1, b1, add_l tc 10 1 11 (by omega)]
  · rw [e, a2, b2, add_l tc 100 1 101 (by omega)]
  · rw [e, a3, b3, add_l tc 1000 100 1100 (by omega), add_l tc 1100 1 1101 (by omega)]
  · rw [e, a4, b4, add_l tc 10000 1 10001 (by omega)]
  · rw [e, a5, b5, add_l tc 100000 10000 110000 (by omega), add_l tc 110000 1 110001 (by omega)]
  · rw [e, a6, b6, add_l tc 1000000 1 1000001 (by omega)]
theorem STEP.con {Γ : gT} {l : Launch} {μ : mT} {R : Room} {μ' : mT} {R' : Room} {ar : List Value} {as : List Nat} {X m : Nat} {h : aH} {v : Value} {Q : qT} (c8 : Con Γ l μ R (.ref X :: ar) as h Q) (k : ∀ r as1 h1, Q r as1 h1 → as1 = as ∧ r = some v ∧ (∃ fs, hat as h1 m (ob 9 fs)) ∧ Con Γ l μ' R' (.ref m :: ar) as h1 (fun r' as2 h2 => as2 = as ∧ r' = some v ∧ INV Γ as X m h2)) (hv : vOK μ.2.2.2.2.1 v := by exact True.intro) : STEP Γ l μ R μ' R' ar as X m h := ⟨v, hv, c8.post k⟩
theorem Det.inv {Γ : gT} {l : Launch} {μ : mT} {R : Room} {av : List Value} {as : List Nat} {X m : Nat} {h h2 : aH} {v : Value} (c9 : Det Γ l μ R av as h (some v) h2) (hi : INV Γ as X m h2) : Con Γ l μ R av as h (fun r' as2 h2 => as2 = as ∧ r' = some v ∧ INV Γ as X m h2) := c9.post (fun r as' h' q => by
  obtain ⟨rfl, rfl, rfl⟩ := q
  exact ⟨rfl, rfl, hi⟩)
section
variable {Γ : gT} {l : Launch} {as : List Nat} {A : Nat → Nat} {h : aH} {φ : fT} {z : Nat → Int32} {ν : Nat → Nat} {d3 d4 : Int32} {tc : Int64} {gw : Nat → Int64}
theorem s_clip {p q : Int32} (hI : IL as A h (CL Γ A φ z ν d3 d4 tc gw)) (hR : REL φ z ν) : STEP Γ l mX8_clip rX8_clip mX9_clip rX9_clip [.int p, .int q] as (A 0) (A 33) h := by
  obtain ⟨⟨r1, r5, r6, z2, z3⟩, ⟨tu, lw, bn, zr, yr, tx⟩, ag, i0, i1⟩ := id hR
  rcases isW_c p with hb | ⟨k, hk, rfl⟩
  · exact STEP.same hI hR (c_clip_bad (Or.inl hb)) (n_clip_bad (Or.inl hb))
  · have hI1 := (hI.set 45 (aJ Γ 10 (gwF (φ 8) gw 9)) rfl).set 46 (aZ Γ 10 (gcF (φ 8) (φ 46) 9)) rfl
    have hi : INV Γ as (A 0) (A 33) (hset (hset h (A 45) (aJ Γ 10 (gwF (φ 8) gw 9))) (A 46) (aZ Γ 10 (gcF (φ 8) (φ 46) 9))) := INV.of (φ := upφ φ 46 (gcF (φ 8) (φ 46) 9)) (z := z) (ν := ν) (d3 := d3) (d4 := d4) (tc := tc) (gw := gwF (φ 8) gw 9) (hI1.l rfl) hR
    rcases rng q 2 (by omega) with hb | ⟨j, hj, rfl⟩
    · refine STEP.same hI hR (c_clip_bad (Or.inr ⟨fun e => ?_, ?_⟩)) (n_clip_bad (Or.inr hb.2.1))
      · have h2 : ((2 : Int32).toInt) = 2 := by decide
        have hb := hb.2.2
        rw [e, h2] at hb
        omega
      · rcases isUL_c q with ⟨e, -⟩ | ⟨-, -, -, j, hj, rfl⟩
        · exact e
        · have hb := hb.2.2
          rw [nI_toInt (by omega)] at hb
          omega
    · by_cases c : j = 2
      · subst c
        exact STEP.of hI (c_clip_until hk (K0 hI) (K7 hI) (K8 hI)) (n_clip_until hk (K33 hI) (K43 hI) (K45 hI) (K46 hI)) hi
      · have hu : isUL (nI j) = true := by
          rcases (show j = 0 ∨ j = 1 by omega) with rfl | rfl <;> decide
        obtain ⟨a, b, e1, e2, e3, e4, e5⟩ := clip_a tu hk
        exact STEP.of hI (c_clip hk hu (K0 hI) (K7 hI) (K8 hI) e1 e2 e3 e4 e5 (stp200 e5)) (n_clip hk hu (K33 hI) (K43 hI) (K45 hI) (K46 hI) e1 e2 e3 e4 e5) hi
theorem s_year {q : Int32} (hI : IL as A h (CL Γ A φ z ν d3 d4 tc gw)) (hR : REL φ z ν) : STEP Γ l mX8_year rX8_year mX9_year rX9_year [.int q] as (A 0) (A 33) h := by
  obtain ⟨⟨r1, r5, r6, z2, z3⟩, ⟨tu, lw, bn, zr, yr, tx⟩, ag, i0, i1⟩ := id hR
  rcases rng1 q 50 (by omega) with hb | ⟨m, hm0, hm, rfl⟩
  · exact STEP.same hI hR (c_year_bad hb) (n_year_bad hb)
  · obtain ⟨yy, hy, ey⟩ := yr 0 (by omega)
    have hX := K0 hI
    rw [ey] at hX
    by_cases hl : 1000 < yy + m
    · exact STEP.same hI hR (c_year_late hm0 hm hy hl hX) (n_year_late hm0 hm hy hl (K33 hI) (K41 hI) ey)
    · obtain ⟨-, -, -, -, -, ⟨wr, hw0, hw1, ew⟩⟩ := tun_n tu
      have ho := yr_ok (yy := yy) (wr := wr) bn zr m
      have hI1 := (hI.set 0 (xo (A 1) (A 3) (A 5) (A 7) (A 9) (A 10) (A 14) (A 16) (A 23) (A 28) (φ 40 0) (nI (yy + m)) tc) rfl).set 4 (aI Γ 80 (yrS (φ 4) yy wr m)) rfl
      have hI2 := (hI1.set 41 (aI Γ 3 (upd (φ 41) 0 (nI (yy + m)))) rfl).set 39 (aI Γ 240 (yrS (φ 4) yy wr m)) rfl
      exact STEP.of hI1 (c_year hm0 hm (by omega) ew hw0 hw1 hX (K3 hI) (K4 hI) (K7 hI) (K8 hI)) (n_year hm0 hm (by omega) hw0 hw1 ew (hI1.at 33 rfl) (hI1.at 39 rfl) (hI1.at 43 rfl) (hI1.at 41 rfl) ey) (INV.of (φ := upφ (upφ φ 41 (upd (φ 41) 0 (nI (yy + m)))) 4 (yrS (φ 4) yy wr m)) (z := z) (ν := ν) (d3 := d3) (d4 := d4) (tc := tc) (gw := gw) (hI2.l rfl) ⟨⟨r1, r5, r6, z2, z3⟩, ⟨tu, lw, ho.1, ho.2.1, fun j hj => by
        show ∃ y, y ≤ 1000 ∧ upd (φ 41) 0 (nI (yy + m)) j = nI y
        by_cases e : j = 0
        · subst e; rw [pk_us]; exact ⟨yy + m, by omega, rfl⟩
        · rw [pk_un e]; exact yr j hj, tx⟩, ag, img_hi (by omega) ho.2.2 i0, img_hi (by omega) ho.2.2 i1⟩)
theorem s_mean {q : Int32} (hI : IL as A h (CL Γ A φ z ν d3 d4 tc gw)) (hR : REL φ z ν) : STEP Γ l mX8_mean rX8_mean mX9_mean rX9_mean [.int q] as (A 0) (A 33) h := by
  obtain ⟨⟨r1, r5, r6, z2, z3⟩, ⟨tu, lw, bn, zr, yr, tx⟩, ag, i0, i1⟩ := id hR
  rcases isUL_c q with ⟨hb, -⟩ | ⟨hq, -⟩
  · exact STEP.same hI hR (c_mean_no (Or.inl hb) (K0 hI) (K3 hI) (K4 hI)) (n_mean_no (Or.inl hb) (K33 hI) z3 r6 (K39 hI) zr)
  · by_cases ha : pAll (φ 4) = 0
    · exact STEP.same hI hR (c_mean_no (Or.inr ha) (K0 hI) (K3 hI) (K4 hI)) (n_mean_no (Or.inr ha) (K33 hI) z3 r6 (K39 hI) zr)
    · have h1 := sN_W bn
      have h2 := grN_le bn
      have h3 : 0 < sN (Wf (φ 4)) 10 := by
        obtain ⟨j, hj, hn⟩ := (all_ne bn).mp ha
        exact all_pos bn hj hn
      exact STEP.same hI hR (c_mean hq (pGr_W bn) (pAll_W bn) (by omega) h3 (by omega) (stp200 (by omega)) (K0 hI) (K3 hI) (K4 hI)) (n_mean hq (pGr_W bn) (pAll_W bn) (by omega) h3 (by omega) (K33 hI) z3 r6 (K39 hI) zr)
theorem s_shabby {q : Int32} (hI : IL as A h (CL Γ A φ z ν d3 d4 tc gw)) (hR : REL φ z ν) : STEP Γ l mX8_shabby rX8_shabby mX9_shabby rX9_shabby [.int q] as (A 0) (A 33) h := by
  obtain ⟨⟨r1, r5, r6, z2, z3⟩, ⟨tu, lw, bn, zr, yr, tx⟩, ag, i0, i1⟩ := id hR
  rcases rng q 100 (by omega) with hb | ⟨k, hk, rfl⟩
  · exact STEP.same hI hR (c_shabby_bad hb.2.1) (n_shabby_bad hb.2.1)
  · have hk0 : ¬ nI k < 0 := nI_pos (by omega)
    have hk1 : nI k ≤ 100 := nI_le (b := 100) (by omega) (by omega)
    by_cases ha : pAll (φ 4) = 0
    · exact STEP.same hI hR (c_shabby_none hk0 hk1 (Or.inr ha) (K0 hI) (K3 hI) (K4 hI)) (n_shabby_none hk0 hk1 ha (K33 hI) z3 r6 (K39 hI) zr)
    · obtain ⟨yy, hy, ey⟩ := yr 0 (by omega)
      obtain ⟨-, -, -, -, -, ⟨wr, hw0, hw1, ew⟩⟩ := tun_n tu
      have hX := K0 hI
      rw [ey] at hX
      by_cases hk10 : k < 10
      · have c9 := n_shabby (l := l) hk0 hk1 ha hy hw0 hw1 ew (K33 hI) z3 r6 (K39 hI) zr (K43 hI) (K41 hI) ey (K47 hI)
        rw [sh_none hk10 1001 0 (φ 4) bn ha] at c9
        have hI1 := hI.set 47 (aI Γ 80 (fillF (φ 4) (φ 47) 80)) rfl
        exact STEP.of hI (c_shabby_none hk0 hk1 (Or.inl (nI_lt (b := 10) hk10 (by omega))) (K0 hI) (K3 hI) (K4 hI)) c9 (INV.of (φ := upφ φ 47 (fillF (φ 4) (φ 47) 80)) (z := z) (ν := ν) (d3 := d3) (d4 := d4) (tc := tc) (gw := gw) (hI1.l rfl) hR)
      · have c8 := c_shabby (l := l) hk0 hk1 (fun e => hk10 ((nI_ltI (a := k) (b := 10) (by omega) (by omega)).mp e)) ha hy ew hw0 hw1 hX (K3 hI) (K4 hI) (K7 hI) (K8 hI) (K5 hI) (K6 hI) (hI.ne 4 6 rfl rfl rfl)
        rw [sh_all] at c8
        refine STEP.con (v := .int (shN (nI k) yy wr 1001 0 (φ 4))) c8 (fun r as1 h1 hq => ?_)
        obtain ⟨rfl, rfl, g', rfl⟩ := hq
        have hI1 := hI.set 6 (aI Γ 80 g') rfl
        have hI2 := hI1.set 47 (aI Γ 80 (fillF (φ 4) (φ 47) 80)) rfl
        exact ⟨rfl, rfl, ⟨_, hI1.at 33 rfl⟩, Det.inv (n_shabby hk0 hk1 ha hy hw0 hw1 ew (hI1.at 33 rfl) z3 r6 (hI1.at 39 rfl) zr (hI1.at 43 rfl) (hI1.at 41 rfl) ey (hI1.at 47 rfl)) (INV.of (φ := upφ (upφ φ 6 g') 47 (fillF (φ 4) (φ 47) 80)) (z := z) (ν := ν) (d3 := d3) (d4 := d4) (tc := tc) (gw := gw) (hI2.l rfl) hR)⟩
theorem s_changer {p c q : Int32} (hI : IL as A h (CL Γ A φ z ν d3 d4 tc gw)) (hR : REL φ z ν) : STEP Γ l mX8_changer rX8_changer mX9_changer rX9_changer [.int p, .int c, .int q] as (A 0) (A 33) h := by
  obtain ⟨⟨r1, r5, r6, z2, z3⟩, ⟨tu, lw, bn, zr, yr, tx⟩, ag, i0, i1⟩ := id hR
  rcases isP_c p r6 with hb | ⟨k, hk, rfl⟩
  · exact STEP.same hI hR (c_changer_bad (Or.inl hb) (K0 hI) (K23 hI)) (n_changer_bad (Or.inl hb) (K33 hI) z3 r6)
  · rcases isC_c c with ⟨hb, hb'⟩ | ⟨hc, hc0, hc9⟩
    · exact STEP.same hI hR (c_changer_bad (Or.inr (hb'.elim Or.inl (fun e => Or.inr (Or.inl e)))) (K0 hI) (K23 hI)) (n_changer_bad (Or.inr (Or.inl hb)) (K33 hI) z3 r6)
    · rcases isUL_c q with ⟨hb, hb'⟩ | ⟨hq, hq0, hq1, -⟩
      · exact STEP.same hI hR (c_changer_bad (Or.inr (Or.inr (Or.inr hb'))) (K0 hI) (K23 hI)) (n_changer_bad (Or.inr (Or.inr hb)) (K33 hI) z3 r6)
      · have c8 := c_changer (l := l) hk r6 hc0 (Int32.not_lt.mpr hc9) hq0 hq1 (K0 hI) (K23 hI) (K3 hI) (K4 hI) (K7 hI) (K8 hI)
        obtain ⟨c', hc', ec⟩ := nI_of2 (M := 99) (n := 99) (by decide) hc0 hc9
        rw [ch_eq (by rw [ec]; exact hm_pos (by omega) bn hc') 10] at c8
        exact STEP.same hI hR c8 (n_changer hk r6 hc hq (K33 hI) z3 (K39 hI) (K43 hI))
theorem s_cheapest {a b q : Int32} (hI : IL as A h (CL Γ A φ z ν d3 d4 tc gw)) (hR : REL φ z ν) : STEP Γ l mX8_cheapest rX8_cheapest mX9_cheapest rX9_cheapest [.int a, .int b, .int q] as (A 0) (A 33) h := by
  obtain ⟨⟨r1, r5, r6, z2, z3⟩, ⟨tu, lw, bn, zr, yr, tx⟩, ag, i0, i1⟩ := id hR
  rcases rng a 999 (by omega) with hb | ⟨a, ha, rfl⟩
  · exact STEP.same hI hR (c_cheapest_bad (hb.2.1.elim Or.inl (fun e => Or.inr (Or.inl e)))) (n_cheapest_bad (Or.inl hb.2.1))
  · rcases rng b 999 (by omega) with hb | ⟨b, hb, rfl⟩
    · exact STEP.same hI hR (c_cheapest_bad (Or.inr (Or.inr (hb.2.1.elim Or.inl (fun e => Or.inr (Or.inl e)))))) (n_cheapest_bad (Or.inr (Or.inl hb.2.1)))
    · rcases isUL_c q with ⟨-, hb'⟩ | ⟨hq, hq0, hq1, -⟩
      · exact STEP.same hI hR (c_cheapest_bad (Or.inr (Or.inr (Or.inr (Or.inr hb'))))) (n_cheapest_bad (Or.inr (Or.inr hb')))
      · obtain ⟨-, ⟨u1, h1, e1⟩, ⟨u2, h2, e2⟩, -⟩ := tun_n tu
        have c8 := c_cheapest (l := l) (nI_pos (n := a) (by omega)) (Int32.not_lt.mpr (nI_le (b := 999) (by omega) (by omega))) (nI_pos (n := b) (by omega)) (Int32.not_lt.mpr (nI_le (b := 999) (by omega) (by omega))) hq0 hq1 (K0 hI) (K7 hI) (K8 hI) (K14 hI) (K15 hI)
        have e : (xCh (φ 15) (φ 8 1 - nI a) (nI b - φ 8 2) 512).1 = mCh (φ 15) (φ 8 1) (φ 8 2) (nI a) (nI b) 512 := by
          rw [e1, e2]
          exact (ch_all lw h1 h2 (by omega) (by omega) 512 (by omega)).1
        rw [e] at c8
        exact STEP.same hI hR c8 (n_cheapest (by omega) (by omega) hq (K33 hI) (K43 hI) (K48 hI))
theorem s_first {s q : Int32} (hI : IL as A h (CL Γ A φ z ν d3 d4 tc gw)) (hR : REL φ z ν) : STEP Γ l mX8_first rX8_first mX9_first rX9_first [.int s, .int q] as (A 0) (A 33) h := by
  obtain ⟨⟨r1, r5, r6, z2, z3⟩, ⟨tu, lw, bn, zr, yr, tx⟩, ⟨a24, a25, a26, a27, py⟩, i0, i1⟩ := id hR
  rcases rng s 255 (by omega) with hb | ⟨s, hs, rfl⟩
  · exact STEP.same hI hR (c_first_bad (hb.2.1.elim Or.inl (fun e => Or.inr (Or.inl e)))) (n_first_bad (Or.inl hb.2.1))
  · rcases isUL_c q with ⟨-, hb'⟩ | ⟨hq, hq0, hq1, -⟩
    · exact STEP.same hI hR (c_first_bad (Or.inr (Or.inr hb'))) (n_first_bad (Or.inr hb'))
    · obtain ⟨d, h1, h2, h3, h4⟩ := first_ok (o := φ 38) r6 hs
      have hs1 : nI s ≤ 255 := nI_le (b := 255) (by omega) (by omega)
      have c8 := c_first (l := l) (nI_pos (n := s) (by omega)) (Int32.not_lt.mpr hs1) hq0 hq1 r6 (K0 hI) (K23 hI) (K27 hI)
      rw [takF_c a27, rndF_c a27, h4, ← h3] at c8
      have hI1 := hI.set 33 (mo tc (rA A) (upd z 24 (nI d))) rfl
      exact STEP.of hI c8 (n_first (nI_pos (n := s) (by omega)) hs1 hq r6 (K33 hI) z3 (K38 hI) h1 h2) (INV.of (φ := φ) (z := upd z 24 (nI d)) (ν := ν) (d3 := d3) (d4 := d4) (tc := tc) (gw := gw) (hI1.l rfl) ⟨⟨r1, r5, r6, z2, z3⟩, ⟨tu, lw, bn, zr, yr, tx⟩, ⟨a24, a25, a26, a27, py⟩, i0, i1⟩)
theorem s_seeds {q : Int32} (hI : IL as A h (CL Γ A φ z ν d3 d4 tc gw)) (hR : REL φ z ν) : STEP Γ l mX8_seeds rX8_seeds mX9_seeds rX9_seeds [.int q] as (A 0) (A 33) h := by
  obtain ⟨⟨r1, r5, r6, z2, z3⟩, ⟨tu, lw, bn, zr, yr, tx⟩, ⟨a24, a25, a26, a27, py⟩, i0, i1⟩ := id hR
  rcases isUL_c q with ⟨hb, hb'⟩ | ⟨hq, hq0, hq1, j, hj, ej⟩
  · exact STEP.same hI hR (c_seeds_bad hb') (n_seeds_bad hb)
  · have hE := ev_n (ν 6) r6
    obtain ⟨S, hS, e1, e2, e3⟩ := seeds_ok (o := φ 38) r6
    have c8 := c_seeds (l := l) hq0 hq1 r6 hE.1 hE.2 (K0 hI) (K23 hI) (K27 hI)
    rw [lsS_c a27, e1] at c8
    have c9 := n_seeds (l := l) (F := fun k => takF (φ 38) (ν 6) (nI k)) hE.1 hE.2 hq r6 (K33 hI) z3 (K38 hI) (fun j hj => by
      obtain ⟨d, h1, h2, h3, -⟩ := first_ok (o := φ 38) r6 (show j < 256 by omega)
      exact ⟨d, h1, h2, h3⟩)
    rw [e2] at c9
    have ev : (if q = 0 then bcI (nI S) else nI S) = (if q = 1 then nI S else bsS (nI S) 8) := by
      rw [e3, ej]
      rcases (show j = 0 ∨ j = 1 by omega) with rfl | rfl
      · rw [if_pos (show nI 0 = 0 from rfl), if_neg (by decide)]
      · rw [if_neg (by decide), if_pos (show nI 1 = 1 from rfl)]
    rw [ev] at c8
    refine STEP.con (v := .int (if q = 1 then nI S else bsS (nI S) 8)) c8 (fun r as1 h1 hq => ?_)
    obtain ⟨rfl, rfl, rfl⟩ := hq
    refine ⟨rfl, rfl, ⟨_, K33 hI⟩, c9.post (fun r as2 h2 hq => ?_)⟩
    obtain ⟨rfl, rfl, v, rfl⟩ := hq
    have hI1 := hI.set 33 (mo tc (rA A) (upd z 24 v)) rfl
    exact ⟨rfl, rfl, INV.of (φ := φ) (z := upd z 24 v) (ν := ν) (d3 := d3) (d4 := d4) (tc := tc) (gw := gw) (hI1.l rfl) ⟨⟨r1, r5, r6, z2, z3⟩, ⟨tu, lw, bn, zr, yr, tx⟩, ⟨a24, a25, a26, a27, py⟩, i0, i1⟩⟩
theorem s_labour {q p : Int32} (hI : IL as A h (CL Γ A φ z ν d3 d4 tc gw)) (hR : REL φ z ν) : STEP Γ l mX8_labour rX8_labour mX9_labour rX9_labour [.int q, .int p] as (A 0) (A 33) h := by
  obtain ⟨⟨r1, r5, r6, z2, z3⟩, ⟨tu, lw, bn, zr, yr, tx⟩, ⟨a24, a25, a26, a27, py⟩, i0, i1⟩ := id hR
  rcases isP_c p r6 with hb | ⟨k, hk, rfl⟩
  · exact STEP.same hI hR (c_labour_bad (Or.inl hb) (K0 hI) (K23 hI)) (n_labour_bad (Or.inr hb) (K33 hI) z3 r6)
  · rcases rng q 6 (by omega) with hb | ⟨j, hj, rfl⟩
    · exact STEP.same hI hR (c_labour_bad (Or.inr hb.2.2) (K0 hI) (K23 hI)) (n_labour_bad (Or.inl hb.2.1) (K33 hI) z3 r6)
    · obtain ⟨⟨lim, hl, el⟩, -⟩ := tun_n tu
      have c8 := c_labour (l := l) hk r6 hj hl el (K0 hI) (K23 hI) (K25 hI) (K27 hI) (K3 hI) (K4 hI) (K7 hI) (K8 hI)
      have e : lbA (φ 4) (φ 8) (φ 25) (φ 27) lim k j = lbA (φ 4) (φ 8) (φ 36) (φ 38) lim k j := by
        rcases (show j = 0 ∨ j = 1 ∨ j = 2 ∨ j = 3 ∨ j = 4 ∨ j = 5 ∨ j = 6 by omega) with rfl | rfl | rfl | rfl | rfl | rfl | rfl
        · rfl
        · rfl
        · rfl
        · show φ 25 k * _ / 10 = φ 36 k * _ / 10
          rw [a25 k hk]
        · rfl
        · rfl
        · show pCo (φ 4) k + φ 27 k = pCo (φ 4) k + φ 38 k
          rw [a27 k hk]
      rw [e, lb_ml tc j hj] at c8
      have hI1 := hI.set 0 (xo (A 1) (A 3) (A 5) (A 7) (A 9) (A 10) (A 14) (A 16) (A 23) (A 28) (φ 40 0) (φ 41 0) (mlT tc j)) rfl
      have hI2 := hI1.set 33 (mo (mlT tc j) (rA A) z) rfl
      exact STEP.of hI1 c8 (n_labour hk r6 hj hl el (hI1.at 33 rfl) z3 (hI1.at 39 rfl) (hI1.at 43 rfl) (hI1.at 36 rfl) (hI1.at 38 rfl)) (INV.of (φ := φ) (z := z) (ν := ν) (d3 := d3) (d4 := d4) (tc := mlT tc j) (gw := gw) (hI2.l rfl) hR)
end

