/-! STEPS: both sides called, one answer, the law's world again -/
theorem Con.eqv {Γ : gT} {l : Launch} {μ : mT} {R : Room} {Q : qT} {av : List Value} {as : List Nat} {h h0 : aH} (he : eqv as h h0) (k : Con Γ l μ R av as h0 Q) : Con Γ l μ R av as h Q := by
  intro p e a1 a2 a3 s m args below a4 a5 a6 a7
  exact k p e a1 a2 a3 s m args below a4 a5 ⟨a6.1, ⟨a6.2.1.1, he.P a6.2.1.2.1, a6.2.1.2.2⟩, a6.2.2⟩ a7
theorem STEP.in {Γ : gT} {l : Launch} {μ : mT} {R : Room} {μ' : mT} {R' : Room} {ar : List Value} {as : List Nat} {X m : Nat} {h : aH} (hi : INV Γ as X m h)
    (k : ∀ (h0 : aH) (A : Nat → Nat) (φ : fT) (z : Nat → Int32) (ν : Nat → Nat) (d3 d4 : Int32) (tc : Int64) (gw : Nat → Int64), IL as A h0 (CL Γ A φ z ν d3 d4 tc gw) → REL φ z ν → STEP Γ l μ R μ' R' ar as (A 0) (A 33) h0) : STEP Γ l μ R μ' R' ar as X m h := by
  obtain ⟨h0, he, A, φ, z, ν, d3, d4, tc, gw, rfl, rfl, hI, hR⟩ := hi
  obtain ⟨v, hv, c⟩ := k h0 A φ z ν d3 d4 tc gw hI hR
  exact ⟨v, hv, c.eqv he⟩
theorem i32_lt {a b : Int32} : a < b ↔ a.toInt < b.toInt := Int32.lt_iff_toInt_lt
theorem i32_le {a b : Int32} : a ≤ b ↔ a.toInt ≤ b.toInt := Int32.le_iff_toInt_le
theorem rng (q : Int32) (N : Nat) (hN : N + 1 < 2 ^ 31) : ((q < 0 ∨ nI (N + 1) ≤ q) ∧ (q < 0 ∨ nI N < q) ∧ (q.toInt < 0 ∨ (N : Int) < q.toInt)) ∨ ∃ j, j < N + 1 ∧ q = nI j := by
  rcases pk_ix q (n := N + 1) hN with h | h | h
  · have h' := i32_lt.mp h
    exact Or.inl ⟨Or.inl h, Or.inl h, Or.inl h'⟩
  · have h' := i32_le.mp h
    rw [nI_toInt hN] at h'
    exact Or.inl ⟨Or.inr h, Or.inr (i32_lt.mpr (by rw [nI_toInt (by omega)]; omega)), Or.inr (by omega)⟩
  · exact Or.inr h
theorem rng1 (q : Int32) (N : Nat) (hN : N + 1 < 2 ^ 31) : (q < 1 ∨ nI N < q) ∨ ∃ j, 1 ≤ j ∧ j ≤ N ∧ q = nI j := by
  rcases rng q N hN with h | ⟨j, hj, rfl⟩
  · rcases h.2.1 with h | h
    · exact Or.inl (Or.inl (Int32.lt_trans h (by decide)))
    · exact Or.inl (Or.inr h)
  · by_cases c : 1 ≤ j
    · exact Or.inr ⟨j, c, by omega, rfl⟩
    · exact Or.inl (Or.inl (show nI j < nI 1 from nI_lt (by omega) (by omega)))
theorem isP_c {n : Nat} (p : Int32) (hn : n ≤ 8) : isP n p = false ∨ ∃ k, k < n ∧ p = nI k := by
  rcases pk_ix p (n := n) (by omega) with h | h | h
  · exact Or.inl (by unfold isP; rw [decide_eq_false (fun q => q h), Bool.false_and])
  · exact Or.inl (by unfold isP; rw [decide_eq_false (p := ¬ nI n ≤ p) (fun q => q h), Bool.and_false])
  · exact Or.inr h
theorem isW_c (p : Int32) : isW p = false ∨ ∃ k, k < 10 ∧ p = nI k := by
  rcases pk_ix p (n := 10) (by omega) with h | h | h
  · exact Or.inl (by unfold isW; rw [decide_eq_false (fun q => q h), Bool.false_and])
  · exact Or.inl (by unfold isW; rw [decide_eq_false (p := ¬ (10 : Int32) ≤ p) (fun q => q h), Bool.and_false])
  · exact Or.inr h
theorem isC_c (c : Int32) : (isC c = false ∧ (c < 0 ∨ 99 < c)) ∨ (isC c = true ∧ ¬ c < 0 ∧ c ≤ 99) := by
  unfold isC
  by_cases h1 : c < 0
  · exact Or.inl ⟨by rw [decide_eq_false (Int32.not_le.mpr h1), Bool.false_and], Or.inl h1⟩
  · by_cases h2 : 99 < c
    · exact Or.inl ⟨by rw [decide_eq_false (p := c ≤ 99) (Int32.not_le.mpr h2), Bool.and_false], Or.inr h2⟩
    · exact Or.inr ⟨by rw [decide_eq_true (Int32.not_lt.mp h1), decide_eq_true (Int32.not_lt.mp h2)]; rfl, h1, Int32.not_lt.mp h2⟩
theorem isUL_c (q : Int32) : (isUL q = false ∧ (q < 0 ∨ 1 < q)) ∨ (isUL q = true ∧ ¬ q < 0 ∧ q ≤ 1 ∧ ∃ j, j < 2 ∧ q = nI j) := by
  rcases rng q 1 (by omega) with h | ⟨j, hj, rfl⟩
  · refine Or.inl ⟨?_, h.2.1⟩
    unfold isUL
    rw [Bool.or_eq_false_iff]
    have h0 : ((0 : Int32).toInt) = 0 := by decide
    have h1 : ((1 : Int32).toInt) = 1 := by decide
    exact ⟨decide_eq_false (fun e => by rw [e, h0] at h; omega), decide_eq_false (fun e => by rw [e, h1] at h; omega)⟩
  · refine Or.inr ⟨?_, nI_pos (by omega), nI_le (b := 1) (by omega) (by omega), j, hj, rfl⟩
    rcases (show j = 0 ∨ j = 1 by omega) with rfl | rfl <;> decide
section
variable {Γ : gT} {l : Launch} {as : List Nat} {A : Nat → Nat} {h : aH} {φ : fT} {z : Nat → Int32} {ν : Nat → Nat} {d3 d4 : Int32} {tc : Int64} {gw : Nat → Int64}
theorem STEP.same {μ : mT} {R : Room} {μ' : mT} {R' : Room} {ar : List Value} {v : Value} (hI : IL as A h (CL Γ A φ z ν d3 d4 tc gw)) (hR : REL φ z ν) (c8 : Det Γ l μ R (.ref (A 0) :: ar) as h (some v) h) (c9 : Det Γ l μ' R' (.ref (A 33) :: ar) as h (some v) h) (hv : vOK μ.2.2.2.2.1 v := by exact True.intro) : STEP Γ l μ R μ' R' ar as (A 0) (A 33) h := STEP.of hI c8 c9 (INV.of hI hR) hv
theorem s_clear (hI : IL as A h (CL Γ A φ z ν d3 d4 tc gw)) (hR : REL φ z ν) : STEP Γ l mX8_clear rX8_clear mX9_clear rX9_clear [] as (A 0) (A 33) h := by
  obtain ⟨⟨r1, r5, r6, z2, z3⟩, ⟨tu, lw, bn, zr, yr, tx⟩, ag, i0, i1⟩ := hR
  have hI1 := hI.set 1 (tq (A 2) 0 (ν 2) (ν 3) (ν 4) (ν 5)) rfl
  have hI2 := hI1.set 33 (mo tc (rA A) (upd z 2 0)) rfl
  have c9 := n_clear (Γ := Γ) (l := l) (hI1.at 33 rfl)
  rw [z2] at c9
  exact STEP.of hI1 (c_clear (K0 hI) (K1 hI)) c9 (INV.of (φ := φ) (z := upd z 2 0) (ν := upν ν 1 0) (d3 := d3) (d4 := d4) (tc := tc) (gw := gw) (hI2.l rfl) ⟨⟨Nat.zero_le _, r5, r6, nI_0.symm, z3⟩, ⟨tu, lw, bn, zr, yr, ⟨fun _ => 0, fun j hj => absurd hj (Nat.not_lt_zero j)⟩⟩, ag, i0, i1⟩)
theorem s_type {v : Int64} {q : Int32} (hI : IL as A h (CL Γ A φ z ν d3 d4 tc gw)) (hR : REL φ z ν) : STEP Γ l mX8_type rX8_type mX9_type rX9_type [.long v, .int q] as (A 0) (A 33) h := by
  rcases rng1 q 8 (by omega) with hb | ⟨m, hm0, hm, rfl⟩
  · exact STEP.same hI hR (c_type_bad hb) (n_type_bad hb)
  · by_cases hf : 300 < ν 1 + m
    · exact STEP.same hI hR (c_type_full hm0 hm (K0 hI) (K1 hI) hR.1.1 hf) (n_type_full hm0 hm (K33 hI) hR.1.2.2.2.1 hR.1.1 hf)
    · obtain ⟨⟨r1, r5, r6, z2, z3⟩, ⟨tu, lw, bn, zr, yr, tx⟩, ag, i0, i1⟩ := hR
      have hI1 := hI.set 2 (aI Γ 300 (tyX (φ 2) (ν 1) v m m)) rfl
      have hI2 := hI1.set 1 (tq (A 2) (ν 1 + m) (ν 2) (ν 3) (ν 4) (ν 5)) rfl
      have hI3 := hI2.set 34 (aB Γ 300 (tyM (φ 34) (ν 1) v m m)) rfl
      have hI4 := hI3.set 33 (mo tc (rA A) (upd z 2 (nI (ν 1 + m)))) rfl
      exact STEP.of hI2 (c_type hm0 hm (K0 hI) (K1 hI) (K2 hI) (by omega)) (n_type hm0 hm (hI2.at 33 rfl) (hI2.at 34 rfl) z2 (by omega)) (INV.of (φ := upφ (upφ φ 2 (tyX (φ 2) (ν 1) v m m)) 34 (tyM (φ 34) (ν 1) v m m)) (z := upd z 2 (nI (ν 1 + m))) (ν := upν ν 1 (ν 1 + m)) (d3 := d3) (d4 := d4) (tc := tc) (gw := gw) (hI4.l rfl) ⟨⟨show ν 1 + m ≤ 300 by omega, r5, r6, rfl, z3⟩, ⟨tu, lw, bn, zr, yr, txt_ty hm tx⟩, ag, i0, i1⟩)
theorem s_person {p q : Int32} (hI : IL as A h (CL Γ A φ z ν d3 d4 tc gw)) (hR : REL φ z ν) : STEP Γ l mX8_person rX8_person mX9_person rX9_person [.int p, .int q] as (A 0) (A 33) h := by
  obtain ⟨⟨r1, r5, r6, z2, z3⟩, ⟨tu, lw, bn, zr, yr, tx⟩, ⟨a24, a25, a26, a27, py⟩, i0, i1⟩ := id hR
  rcases isP_c p r6 with hb | ⟨k, hk, rfl⟩
  · exact STEP.same hI hR (c_person_bad (Or.inl hb) (K0 hI) (K23 hI)) (n_person_bad (Or.inl hb) (K33 hI) z3 r6)
  · rcases rng q 4 (by omega) with hb | ⟨j, hj, rfl⟩
    · exact STEP.same hI hR (c_person_bad (Or.inr hb.2.2) (K0 hI) (K23 hI)) (n_person_bad (Or.inr hb.2.2) (K33 hI) z3 r6)
    · have e : prs (φ 24) (φ 25) (φ 26) (φ 27) (φ 4) k j = prs (φ 35) (φ 36) (φ 37) (φ 38) (φ 4) k j := by
        rcases (show j = 0 ∨ j = 1 ∨ j = 2 ∨ j = 3 ∨ j = 4 by omega) with rfl | rfl | rfl | rfl | rfl
        · exact a24 k hk
        · exact a25 k hk
        · exact a26 k hk
        · exact a27 k hk
        · rfl
      have c8 := c_person (l := l) hk r6 hj (K0 hI) (K23 hI) (K24 hI) (K25 hI) (K26 hI) (K27 hI) (K3 hI) (K4 hI)
      rw [e] at c8
      exact STEP.same hI hR c8 (n_person hk r6 hj (K33 hI) z3 (K35 hI) (K36 hI) (K37 hI) (K38 hI) (K39 hI))
theorem img_upd {n k o : Nat} {F g : Nat → Int32} {c x : Int32} (hk : k < 80) (ho : 80 ≤ o) (hi : img n F g c o) : img n (upd F k x) g c o := ⟨fun i hi' => by rw [pk_un (by omega)]; exact hi.1 i hi', hi.2⟩
theorem s_purse {p q c : Int32} (hI : IL as A h (CL Γ A φ z ν d3 d4 tc gw)) (hR : REL φ z ν) : STEP Γ l mX8_purse rX8_purse mX9_purse rX9_purse [.int p, .int q, .int c] as (A 0) (A 33) h := by
  obtain ⟨⟨r1, r5, r6, z2, z3⟩, ⟨tu, lw, bn, zr, yr, tx⟩, ag, i0, i1⟩ := id hR
  rcases isP_c p r6 with hb | ⟨k, hk, rfl⟩
  · exact STEP.same hI hR (c_purse_bad (Or.inl hb) (K0 hI) (K23 hI)) (n_purse_bad (Or.inl hb) (K33 hI) z3 r6)
  · rcases isW_c q with hb | ⟨j, hj, rfl⟩
    · exact STEP.same hI hR (c_purse_bad (Or.inr (Or.inl hb)) (K0 hI) (K23 hI)) (n_purse_bad (Or.inr (Or.inl hb)) (K33 hI) z3 r6)
    · rcases isC_c c with ⟨hb, hb'⟩ | ⟨hc, hc0, hc9⟩
      · exact STEP.same hI hR (c_purse_bad (Or.inr (Or.inr hb')) (K0 hI) (K23 hI)) (n_purse_bad (Or.inr (Or.inr hb)) (K33 hI) z3 r6)
      · have hI1 := hI.set 4 (aI Γ 80 (upd (φ 4) (k * 10 + j) c)) rfl
        have hI2 := hI1.set 39 (aI Γ 240 (upd (φ 4) (k * 10 + j) c)) rfl
        exact STEP.of hI1 (c_purse hk r6 hj hc0 hc9 (K0 hI) (K23 hI) (K3 hI) (K4 hI)) (n_purse hk r6 hj hc (hI1.at 33 rfl) z3 (hI1.at 39 rfl)) (INV.of (φ := upφ φ 4 (upd (φ 4) (k * 10 + j) c)) (z := z) (ν := ν) (d3 := d3) (d4 := d4) (tc := tc) (gw := gw) (hI2.l rfl) ⟨⟨r1, r5, r6, z2, z3⟩, ⟨tu, lw, fun i hi => by
          show ¬ upd (φ 4) (k * 10 + j) c i < 0 ∧ upd (φ 4) (k * 10 + j) c i ≤ 99
          by_cases e : i = k * 10 + j
          · subst e; rw [pk_us]; exact ⟨hc0, hc9⟩
          · rw [pk_un e]; exact bn i hi, fun p' h1 h2 w hw => by
          show upd (φ 4) (k * 10 + j) c (p' * 10 + w) = 0
          rw [pk_un (by omega)]
          exact zr p' h1 h2 w hw, yr, tx⟩, ag, img_upd (by omega) (by omega) i0, img_upd (by omega) (by omega) i1⟩)
theorem s_coins {p q : Int32} (hI : IL as A h (CL Γ A φ z ν d3 d4 tc gw)) (hR : REL φ z ν) : STEP Γ l mX8_coins rX8_coins mX9_coins rX9_coins [.int p, .int q] as (A 0) (A 33) h := by
  obtain ⟨⟨r1, r5, r6, z2, z3⟩, ⟨tu, lw, bn, zr, yr, tx⟩, ag, i0, i1⟩ := id hR
  rcases isW_c q with hb | ⟨j, hj, rfl⟩
  · exact STEP.same hI hR (c_coins_bad (Or.inl hb) (K0 hI) (K23 hI)) (n_coins_bad (Or.inl hb) (K33 hI) z3 r6)
  · by_cases hp : p = -1
    · subst hp
      exact STEP.same hI hR (c_coins_all hj (K0 hI) (K3 hI) (K4 hI)) (n_coins_all hj (K33 hI) z3 r6 (K39 hI) zr)
    · rcases isP_c p r6 with hb | ⟨k, hk, rfl⟩
      · exact STEP.same hI hR (c_coins_bad (Or.inr ⟨hp, hb⟩) (K0 hI) (K23 hI)) (n_coins_bad (Or.inr ⟨hp, hb⟩) (K33 hI) z3 r6)
      · exact STEP.same hI hR (c_coins hk r6 hj (K0 hI) (K23 hI) (K3 hI) (K4 hI)) (n_coins hk r6 hj (K33 hI) z3 (K39 hI))
theorem s_tune {p q : Int32} (hI : IL as A h (CL Γ A φ z ν d3 d4 tc gw)) (hR : REL φ z ν) : STEP Γ l mX8_tune rX8_tune mX9_tune rX9_tune [.int p, .int q] as (A 0) (A 33) h := by
  obtain ⟨⟨r1, r5, r6, z2, z3⟩, ⟨tu, lw, bn, zr, yr, tx⟩, ag, i0, i1⟩ := id hR
  rcases rng p 5 (by omega) with hb | ⟨j, hj, rfl⟩
  · exact STEP.same hI hR (c_tune_bad hb.1 (K0 hI) (K7 hI) (K8 hI)) (n_tune_bad hb.2.1)
  · by_cases c : tuL j ≤ q ∧ q ≤ tuM j
    · have hI1 := hI.set 8 (aI Γ 6 (upd (φ 8) j q)) rfl
      have hI2 := hI1.set 43 (aI Γ 6 (upd (φ 8) j q)) rfl
      have c8 := c_tune (l := l) (q := q) hj (K0 hI) (K7 hI) (K8 hI)
      have c9 := n_tune (l := l) (q := q) hj (hI1.at 33 rfl) (hI1.at 43 rfl)
      rw [if_pos c, if_pos c] at c8 c9
      exact STEP.of hI1 c8 c9 (INV.of (φ := upφ φ 8 (upd (φ 8) j q)) (z := z) (ν := ν) (d3 := d3) (d4 := d4) (tc := tc) (gw := gw) (hI2.l rfl) ⟨⟨r1, r5, r6, z2, z3⟩, ⟨fun i hi => by
        show tuL i ≤ upd (φ 8) j q i ∧ upd (φ 8) j q i ≤ tuM i
        by_cases e : i = j
        · subst e; rw [pk_us]; exact c
        · rw [pk_un e]; exact tu i hi, lw, bn, zr, yr, tx⟩, ag, i0, i1⟩)
    · have c8 := c_tune (l := l) (q := q) hj (K0 hI) (K7 hI) (K8 hI)
      have c9 := n_tune (l := l) (q := q) hj (K33 hI) (K43 hI)
      rw [if_neg c, if_neg c] at c8 c9
      exact STEP.same hI hR c8 c9
theorem s_lot {q : Int32} (hI : IL as A h (CL Γ A φ z ν d3 d4 tc gw)) (hR : REL φ z ν) : STEP Γ l mX8_lot rX8_lot mX9_lot rX9_lot [.int q] as (A 0) (A 33) h := by
  have hI1 := hI.set 0 (xo (A 1) (A 3) (A 5) (A 7) (A 9) (A 10) (A 14) (A 16) (A 23) (A 28) q (φ 41 0) tc) rfl
  have hI2 := hI1.set 40 (aI Γ 3 (upd (φ 40) 0 q)) rfl
  exact STEP.of hI1 (c_lot (K0 hI)) (n_lot (hI1.at 33 rfl) (hI1.at 40 rfl)) (INV.of (φ := upφ φ 40 (upd (φ 40) 0 q)) (z := z) (ν := ν) (d3 := d3) (d4 := d4) (tc := tc) (gw := gw) (hI2.l rfl) hR)
theorem s_met {q : Int32} (hI : IL as A h (CL Γ A φ z ν d3 d4 tc gw)) (hR : REL φ z ν) : STEP Γ l mX8_met rX8_met mX9_met rX9_met [.int q] as (A 0) (A 33) h := by
  rcases rng q 3 (by omega) with hb | ⟨j, hj, rfl⟩
  · exact STEP.same hI hR (c_met_bad hb.2.2) (n_met_bad hb.2.1)
  · have e : ([φ 44 0, φ 44 1, φ 44 2, φ 44 3] : List Int32).getD j 0 = φ 44 j := by
      rcases (show j = 0 ∨ j = 1 ∨ j = 2 ∨ j = 3 by omega) with rfl | rfl | rfl | rfl <;> rfl
    have c8 := c_met (Γ := Γ) (l := l) hj (K0 hI) (K9 hI)
    rw [e] at c8
    exact STEP.same hI hR c8 (n_met hj (K33 hI) (K44 hI))
theorem s_trace (hI : IL as A h (CL Γ A φ z ν d3 d4 tc gw)) (hR : REL φ z ν) : STEP Γ l mX8_trace rX8_trace mX9_trace rX9_trace [] as (A 0) (A 33) h := STEP.same hI hR (c_trace (K0 hI)) (n_trace (K33 hI))
theorem s_count {q : Int32} (hI : IL as A h (CL Γ A φ z ν d3 d4 tc gw)) (hR : REL φ z ν) : STEP Γ l mX8_count rX8_count mX9_count rX9_count [.int q] as (A 0) (A 33) h := by
  obtain ⟨⟨r1, r5, r6, z2, z3⟩, ⟨tu, lw, bn, zr, yr, tx⟩, ag, i0, i1⟩ := id hR
  rcases rng q 5 (by omega) with hb | ⟨j, hj, rfl⟩
  · exact STEP.same hI hR (c_count_bad hb.2.2) (n_count_bad hb.2.2)
  · have c9 := n_count (l := l) hj (K33 hI) z3 r6 (K39 hI) zr (K41 hI)
    rw [z2] at c9
    exact STEP.same hI hR (c_count hj (K0 hI) (K23 hI) (K3 hI) (K4 hI) (K1 hI) (K9 hI)) c9
theorem s_law {p q c : Int32} (hI : IL as A h (CL Γ A φ z ν d3 d4 tc gw)) (hR : REL φ z ν) : STEP Γ l mX8_law rX8_law mX9_law rX9_law [.int p, .int q, .int c] as (A 0) (A 33) h := by
  obtain ⟨⟨r1, r5, r6, z2, z3⟩, ⟨tu, lw, bn, zr, yr, tx⟩, ag, i0, i1⟩ := id hR
  rcases rng p 8 (by omega) with hb | ⟨k, hk, rfl⟩
  · exact STEP.same hI hR (c_law_bad (hb.1.elim Or.inl (fun e => Or.inr (Or.inl e))) (K0 hI) (K14 hI)) (n_law_bad (Or.inl hb.2.1))
  · rcases rng q 2 (by omega) with hb | ⟨j, hj, rfl⟩
    · exact STEP.same hI hR (c_law_bad (Or.inr (Or.inr (hb.1.elim Or.inl (fun e => Or.inr (Or.inl e))))) (K0 hI) (K14 hI)) (n_law_bad (Or.inr (Or.inl hb.2.1)))
    · rcases isC_c c with ⟨hb, hb'⟩ | ⟨hc, hc0, hc9⟩
      · exact STEP.same hI hR (c_law_bad (Or.inr (Or.inr (Or.inr (Or.inr hb')))) (K0 hI) (K14 hI)) (n_law_bad (Or.inr (Or.inr hb')))
      · have hI1 := hI.set 15 (aI Γ 27 (upd (φ 15) (k * 3 + j) c)) rfl
        have hI2 := hI1.set 48 (aI Γ 27 (upd (φ 15) (k * 3 + j) c)) rfl
        exact STEP.of hI1 (c_law hk hj hc0 hc9 (K0 hI) (K14 hI) (K15 hI)) (n_law hk hj hc (hI1.at 33 rfl) (hI1.at 48 rfl)) (INV.of (φ := upφ φ 15 (upd (φ 15) (k * 3 + j) c)) (z := z) (ν := ν) (d3 := d3) (d4 := d4) (tc := tc) (gw := gw) (hI2.l rfl) ⟨⟨r1, r5, r6, z2, z3⟩, ⟨tu, fun i hi => by
          show ¬ upd (φ 15) (k * 3 + j) c i < 0 ∧ upd (φ 15) (k * 3 + j) c i ≤ 99
          by_cases e : i = k * 3 + j
          · subst e; rw [pk_us]; exact ⟨hc0, hc9⟩
          · rw [pk_un e]; exact lw i hi, bn, zr, yr, tx⟩, ag, i0, i1⟩)
end

