/-! STEPS: images -/
theorem cp_lo {f : Nat → Int32} {a b i : Nat} (hb : 0 < b) (hi : i < 80) : cpF f a b 80 i = f i := if_neg (by omega)
theorem cp_in {f : Nat → Int32} {a b i : Nat} (hi : i < 80) : cpF f a b 80 (80 * b + i) = f (80 * a + i) := by
  unfold cpF
  rw [if_pos (by omega), Nat.add_sub_cancel_left]
theorem cp_0in {f : Nat → Int32} {a i : Nat} (hi : i < 80) : cpF f a 0 80 i = f (80 * a + i) := by
  unfold cpF
  rw [if_pos (by omega), Nat.mul_zero, Nat.sub_zero]
theorem cp_out {f : Nat → Int32} {a b i : Nat} (h : i < 80 * b ∨ 80 * b + 80 ≤ i) : cpF f a b 80 i = f i := if_neg (by omega)
section
variable {Γ : gT} {l : Launch} {as : List Nat} {A : Nat → Nat} {h : aH} {φ : fT} {z : Nat → Int32} {ν : Nat → Nat} {d3 d4 : Int32} {tc : Int64} {gw : Nat → Int64}
theorem s_keep0 (hI : IL as A h (CL Γ A φ z ν d3 d4 tc gw)) (hR : REL φ z ν) : STEP Γ l mX8_keep rX8_keep mX9_keep rX9_keep [.int (nI 0)] as (A 0) (A 33) h := by
  obtain ⟨⟨r1, r5, r6, z2, z3⟩, ⟨tu, lw, bn, zr, yr, tx⟩, ag, i0, i1⟩ := id hR
  have e8 : eq8 (φ 4) (cpF (φ 4) 0 (1 + 0) 80) := fun i hi => (cp_lo (by omega) hi).symm
  have c8 := c_keep (l := l) (j := 0) (ij := A 17) (ip := A 18) (ir := A 19) (gi := gI A) (by omega) rfl (K0 hI) (K16 hI) (K17 hI) (K18 hI) (K19 hI) (K3 hI) (K4 hI) (hI.ne 4 19 rfl rfl rfl)
  have hI1 := (hI.set 19 (aI Γ 80 (va_cpy (φ 4) (φ 19) 0 0 80)) rfl).set 17 (ob 1 [.ref (A 18), .int (φ 40 0), .int (φ 41 0), .int 1]) rfl
  have c9 := n_keep (l := l) (j := 0) (by omega) r6 (hI1.at 33 rfl) z3 (hI1.at 39 rfl) (hI1.at 40 rfl) (hI1.at 41 rfl) (hI.ne 40 41 rfl rfl rfl) (hI1.at 42 rfl) (zro_c e8 zr)
  rw [← pAll_c e8] at c9
  have hI2 := (((hI1.set 39 (aI Γ 240 (cpF (φ 4) 0 (1 + 0) 80)) rfl).set 40 (aI Γ 3 (upd (φ 40) (1 + 0) (φ 40 0))) rfl).set 41 (aI Γ 3 (upd (φ 41) (1 + 0) (φ 41 0))) rfl).set 42 (aZ Γ 2 (upd (φ 42) 0 1)) rfl
  have hI3 := hI2.set 4 (aI Γ 80 (cpF (φ 4) 0 (1 + 0) 80)) rfl
  have hg : eq8 (φ 4) (va_cpy (φ 4) (φ 19) 0 0 80) := fun i hi => (cpy_c i hi).symm
  refine STEP.of hI1 c8 c9 ⟨_, eqv_I (hI2.at 4 rfl).2 e8, A, upφ (upφ (upφ (upφ (upφ φ 19 (va_cpy (φ 4) (φ 19) 0 0 80)) 4 (cpF (φ 4) 0 (1 + 0) 80)) 40 (upd (φ 40) (1 + 0) (φ 40 0))) 41 (upd (φ 41) (1 + 0) (φ 41 0))) 42 (upd (φ 42) 0 1), z, ν, d3, d4, tc, gw, rfl, rfl, hI3.l rfl, ⟨⟨r1, r5, r6, z2, z3⟩, ⟨tu, lw, bnd_c e8 bn, zro_c e8 zr, ?_, tx⟩, ag, ?_, ?_⟩⟩
  · intro i hi
    show ∃ y, y ≤ 1000 ∧ upd (φ 41) (1 + 0) (φ 41 0) i = nI y
    by_cases e : i = 1 + 0
    · rw [e, pk_us]; exact yr 0 (by omega)
    · rw [pk_un e]; exact yr i hi
  · exact ⟨fun i hi => by
      show (cpF (φ 4) 0 (1 + 0) 80) (80 + i) = (va_cpy (φ 4) (φ 19) 0 0 80) i
      rw [cp_in (b := 1) hi, cpy_c i hi, Nat.mul_zero, Nat.zero_add], Or.inr ⟨rfl, bnd_c hg bn, zro_c hg zr⟩⟩
  · exact ⟨fun i hi => by
      show (cpF (φ 4) 0 (1 + 0) 80) (160 + i) = φ 22 i
      rw [cp_out (by omega)]
      exact i1.1 i hi, i1.2⟩
theorem s_keep1 (hI : IL as A h (CL Γ A φ z ν d3 d4 tc gw)) (hR : REL φ z ν) : STEP Γ l mX8_keep rX8_keep mX9_keep rX9_keep [.int (nI 1)] as (A 0) (A 33) h := by
  obtain ⟨⟨r1, r5, r6, z2, z3⟩, ⟨tu, lw, bn, zr, yr, tx⟩, ag, i0, i1⟩ := id hR
  have e8 : eq8 (φ 4) (cpF (φ 4) 0 (1 + 1) 80) := fun i hi => (cp_lo (by omega) hi).symm
  have c8 := c_keep (l := l) (j := 1) (ij := A 20) (ip := A 21) (ir := A 22) (gi := gI A) (by omega) rfl (K0 hI) (K16 hI) (K20 hI) (K21 hI) (K22 hI) (K3 hI) (K4 hI) (hI.ne 4 22 rfl rfl rfl)
  have hI1 := (hI.set 22 (aI Γ 80 (va_cpy (φ 4) (φ 22) 0 0 80)) rfl).set 20 (ob 1 [.ref (A 21), .int (φ 40 0), .int (φ 41 0), .int 1]) rfl
  have c9 := n_keep (l := l) (j := 1) (by omega) r6 (hI1.at 33 rfl) z3 (hI1.at 39 rfl) (hI1.at 40 rfl) (hI1.at 41 rfl) (hI.ne 40 41 rfl rfl rfl) (hI1.at 42 rfl) (zro_c e8 zr)
  rw [← pAll_c e8] at c9
  have hI2 := (((hI1.set 39 (aI Γ 240 (cpF (φ 4) 0 (1 + 1) 80)) rfl).set 40 (aI Γ 3 (upd (φ 40) (1 + 1) (φ 40 0))) rfl).set 41 (aI Γ 3 (upd (φ 41) (1 + 1) (φ 41 0))) rfl).set 42 (aZ Γ 2 (upd (φ 42) 1 1)) rfl
  have hI3 := hI2.set 4 (aI Γ 80 (cpF (φ 4) 0 (1 + 1) 80)) rfl
  have hg : eq8 (φ 4) (va_cpy (φ 4) (φ 22) 0 0 80) := fun i hi => (cpy_c i hi).symm
  refine STEP.of hI1 c8 c9 ⟨_, eqv_I (hI2.at 4 rfl).2 e8, A, upφ (upφ (upφ (upφ (upφ φ 22 (va_cpy (φ 4) (φ 22) 0 0 80)) 4 (cpF (φ 4) 0 (1 + 1) 80)) 40 (upd (φ 40) (1 + 1) (φ 40 0))) 41 (upd (φ 41) (1 + 1) (φ 41 0))) 42 (upd (φ 42) 1 1), z, ν, d3, d4, tc, gw, rfl, rfl, hI3.l rfl, ⟨⟨r1, r5, r6, z2, z3⟩, ⟨tu, lw, bnd_c e8 bn, zro_c e8 zr, ?_, tx⟩, ag, ?_, ?_⟩⟩
  · intro i hi
    show ∃ y, y ≤ 1000 ∧ upd (φ 41) (1 + 1) (φ 41 0) i = nI y
    by_cases e : i = 1 + 1
    · rw [e, pk_us]; exact yr 0 (by omega)
    · rw [pk_un e]; exact yr i hi
  · exact ⟨fun i hi => by
      show (cpF (φ 4) 0 (1 + 1) 80) (80 + i) = φ 19 i
      rw [cp_out (by omega)]
      exact i0.1 i hi, i0.2⟩
  · exact ⟨fun i hi => by
      show (cpF (φ 4) 0 (1 + 1) 80) (160 + i) = (va_cpy (φ 4) (φ 22) 0 0 80) i
      rw [cp_in (b := 2) hi, cpy_c i hi, Nat.mul_zero, Nat.zero_add], Or.inr ⟨rfl, bnd_c hg bn, zro_c hg zr⟩⟩
theorem s_back0 (hI : IL as A h (CL Γ A φ z ν d3 d4 tc gw)) (hR : REL φ z ν) : STEP Γ l mX8_back rX8_back mX9_back rX9_back [.int (nI 0)] as (A 0) (A 33) h := by
  obtain ⟨⟨r1, r5, r6, z2, z3⟩, ⟨tu, lw, bn, zr, yr, tx⟩, ag, i0, i1⟩ := id hR
  have hij := K17 hI
  rcases i0.2 with ek | ⟨ek, gb, gz⟩
  · rw [ek] at hij
    exact STEP.same hI hR (c_back_none (j := 0) (gi := gI A) (by omega) rfl (K0 hI) (K16 hI) hij) (n_back_none (by omega) (K33 hI) (K42 hI) ek)
  · rw [ek] at hij
    have eg : eq8 (φ 19) (cpF (φ 4) (1 + 0) 0 80) := fun i hi => by
      rw [cp_0in hi]
      exact (i0.1 i hi).symm
    have e8 : eq8 (va_cpy (φ 19) (φ 4) 0 0 80) (cpF (φ 4) (1 + 0) 0 80) := fun i hi => by rw [cpy_c i hi]; exact eg i hi
    have c8 := c_back (l := l) (j := 0) (gi := gI A) (by omega) rfl (K0 hI) (K16 hI) hij (K18 hI) (K19 hI) (K3 hI) (K4 hI)
    have hI1 := (hI.set 4 (aI Γ 80 (va_cpy (φ 19) (φ 4) 0 0 80)) rfl).set 0 (xo (A 1) (A 3) (A 5) (A 7) (A 9) (A 10) (A 14) (A 16) (A 23) (A 28) (φ 40 1) (φ 41 1) tc) rfl
    have c9 := n_back (l := l) (j := 0) (by omega) r6 (hI1.at 33 rfl) z3 (hI1.at 39 rfl) (hI1.at 40 rfl) (hI1.at 41 rfl) (hI.ne 40 41 rfl rfl rfl) (hI1.at 42 rfl) ek (zro_c eg gz)
    rw [← pAll_c e8] at c9
    have hI2 := ((hI1.set 39 (aI Γ 240 (cpF (φ 4) (1 + 0) 0 80)) rfl).set 40 (aI Γ 3 (upd (φ 40) 0 (φ 40 (1 + 0)))) rfl).set 41 (aI Γ 3 (upd (φ 41) 0 (φ 41 (1 + 0)))) rfl
    have hI3 := hI2.set 4 (aI Γ 80 (cpF (φ 4) (1 + 0) 0 80)) rfl
    refine STEP.of hI1 c8 c9 ⟨_, eqv_I (hI2.at 4 rfl).2 e8, A, upφ (upφ (upφ φ 4 (cpF (φ 4) (1 + 0) 0 80)) 40 (upd (φ 40) 0 (φ 40 (1 + 0)))) 41 (upd (φ 41) 0 (φ 41 (1 + 0))), z, ν, d3, d4, tc, gw, rfl, rfl, hI3.l rfl, ⟨⟨r1, r5, r6, z2, z3⟩, ⟨tu, lw, bnd_c eg gb, zro_c eg gz, ?_, tx⟩, ag, img_hi (by omega) (fun i hi => cp_out (by omega)) i0, img_hi (by omega) (fun i hi => cp_out (by omega)) i1⟩⟩
    intro i hi
    show ∃ y, y ≤ 1000 ∧ upd (φ 41) 0 (φ 41 (1 + 0)) i = nI y
    by_cases e : i = 0
    · rw [e, pk_us]; exact yr (1 + 0) (by omega)
    · rw [pk_un e]; exact yr i hi
theorem s_back1 (hI : IL as A h (CL Γ A φ z ν d3 d4 tc gw)) (hR : REL φ z ν) : STEP Γ l mX8_back rX8_back mX9_back rX9_back [.int (nI 1)] as (A 0) (A 33) h := by
  obtain ⟨⟨r1, r5, r6, z2, z3⟩, ⟨tu, lw, bn, zr, yr, tx⟩, ag, i0, i1⟩ := id hR
  have hij := K20 hI
  rcases i1.2 with ek | ⟨ek, gb, gz⟩
  · rw [ek] at hij
    exact STEP.same hI hR (c_back_none (j := 1) (gi := gI A) (by omega) rfl (K0 hI) (K16 hI) hij) (n_back_none (by omega) (K33 hI) (K42 hI) ek)
  · rw [ek] at hij
    have eg : eq8 (φ 22) (cpF (φ 4) (1 + 1) 0 80) := fun i hi => by
      rw [cp_0in hi]
      exact (i1.1 i hi).symm
    have e8 : eq8 (va_cpy (φ 22) (φ 4) 0 0 80) (cpF (φ 4) (1 + 1) 0 80) := fun i hi => by rw [cpy_c i hi]; exact eg i hi
    have c8 := c_back (l := l) (j := 1) (gi := gI A) (by omega) rfl (K0 hI) (K16 hI) hij (K21 hI) (K22 hI) (K3 hI) (K4 hI)
    have hI1 := (hI.set 4 (aI Γ 80 (va_cpy (φ 22) (φ 4) 0 0 80)) rfl).set 0 (xo (A 1) (A 3) (A 5) (A 7) (A 9) (A 10) (A 14) (A 16) (A 23) (A 28) (φ 40 2) (φ 41 2) tc) rfl
    have c9 := n_back (l := l) (j := 1) (by omega) r6 (hI1.at 33 rfl) z3 (hI1.at 39 rfl) (hI1.at 40 rfl) (hI1.at 41 rfl) (hI.ne 40 41 rfl rfl rfl) (hI1.at 42 rfl) ek (zro_c eg gz)
    rw [← pAll_c e8] at c9
    have hI2 := ((hI1.set 39 (aI Γ 240 (cpF (φ 4) (1 + 1) 0 80)) rfl).set 40 (aI Γ 3 (upd (φ 40) 0 (φ 40 (1 + 1)))) rfl).set 41 (aI Γ 3 (upd (φ 41) 0 (φ 41 (1 + 1)))) rfl
    have hI3 := hI2.set 4 (aI Γ 80 (cpF (φ 4) (1 + 1) 0 80)) rfl
    refine STEP.of hI1 c8 c9 ⟨_, eqv_I (hI2.at 4 rfl).2 e8, A, upφ (upφ (upφ φ 4 (cpF (φ 4) (1 + 1) 0 80)) 40 (upd (φ 40) 0 (φ 40 (1 + 1)))) 41 (upd (φ 41) 0 (φ 41 (1 + 1))), z, ν, d3, d4, tc, gw, rfl, rfl, hI3.l rfl, ⟨⟨r1, r5, r6, z2, z3⟩, ⟨tu, lw, bnd_c eg gb, zro_c eg gz, ?_, tx⟩, ag, img_hi (by omega) (fun i hi => cp_out (by omega)) i0, img_hi (by omega) (fun i hi => cp_out (by omega)) i1⟩⟩
    intro i hi
    show ∃ y, y ≤ 1000 ∧ upd (φ 41) 0 (φ 41 (1 + 1)) i = nI y
    by_cases e : i = 0
    · rw [e, pk_us]; exact yr (1 + 1) (by omega)
    · rw [pk_un e]; exact yr i hi
theorem s_keep {q : Int32} (hI : IL as A h (CL Γ A φ z ν d3 d4 tc gw)) (hR : REL φ z ν) : STEP Γ l mX8_keep rX8_keep mX9_keep rX9_keep [.int q] as (A 0) (A 33) h := by
  rcases isUL_c q with ⟨hb, -⟩ | ⟨-, -, -, j, hj, rfl⟩
  · rw [← isIm_UL] at hb
    exact STEP.same hI hR (c_keep_bad hb) (n_keep_bad hb)
  · rcases (show j = 0 ∨ j = 1 by omega) with rfl | rfl
    · exact s_keep0 hI hR
    · exact s_keep1 hI hR
theorem s_back {q : Int32} (hI : IL as A h (CL Γ A φ z ν d3 d4 tc gw)) (hR : REL φ z ν) : STEP Γ l mX8_back rX8_back mX9_back rX9_back [.int q] as (A 0) (A 33) h := by
  rcases isUL_c q with ⟨hb, -⟩ | ⟨-, -, -, j, hj, rfl⟩
  · rw [← isIm_UL] at hb
    exact STEP.same hI hR (c_back_bad hb) (n_back_bad hb)
  · rcases (show j = 0 ∨ j = 1 by omega) with rfl | rfl
    · exact s_back0 hI hR
    · exact s_back1 hI hR
end

