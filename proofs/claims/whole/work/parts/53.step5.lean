/-! STEPS: town -/
theorem N8_self {Γ : gT} {m : Nat} {r : Nat → Nat} {tc : Int64} {h : aH} {z w x y o f kp mt : Nat → Int32} (hm : h m = mo tc r z) (hw : h (r 4) = aI Γ 16 w) (hx : h (r 5) = aI Γ 16 x) (hy : h (r 6) = aI Γ 16 y) (ho : h (r 7) = aI Γ 16 o) (hf : h (r 13) = aI Γ 240 f) (hk : h (r 16) = aZ Γ 2 kp) (ht : h (r 18) = aI Γ 4 mt) : h = N8 Γ m r tc h z w x y o f kp mt := by
  funext j
  unfold N8
  by_cases e1 : j = m
  · rw [if_pos e1, e1]; exact hm
  rw [if_neg e1]
  by_cases e2 : j = r 4
  · rw [if_pos e2, e2]; exact hw
  rw [if_neg e2]
  by_cases e3 : j = r 5
  · rw [if_pos e3, e3]; exact hx
  rw [if_neg e3]
  by_cases e4 : j = r 6
  · rw [if_pos e4, e4]; exact hy
  rw [if_neg e4]
  by_cases e5 : j = r 7
  · rw [if_pos e5, e5]; exact ho
  rw [if_neg e5]
  by_cases e6 : j = r 13
  · rw [if_pos e6, e6]; exact hf
  rw [if_neg e6]
  by_cases e7 : j = r 16
  · rw [if_pos e7, e7]; exact hk
  rw [if_neg e7]
  by_cases e8 : j = r 18
  · rw [if_pos e8, e8]; exact ht
  rw [if_neg e8]
theorem N8_ch {Γ : gT} {m : Nat} {r : Nat → Nat} {tc : Int64} {h : aH} {z w x y o f kp mt : Nat → Int32} : N8 Γ m r tc h z w x y o f kp mt = hset (hset (hset (hset (hset (hset (hset (hset h (r 18) (aI Γ 4 mt)) (r 16) (aZ Γ 2 kp)) (r 13) (aI Γ 240 f)) (r 7) (aI Γ 16 o)) (r 6) (aI Γ 16 y)) (r 5) (aI Γ 16 x)) (r 4) (aI Γ 16 w)) m (mo tc r z) := rfl
theorem D9_of {as : List Nat} {A : Nat → Nat} {h : aH} {L : List va_E} (hI : IL as A h L) (hL : L.length = 49) : D9 as (A 33) (rA A) := by
  have e : ∀ i, i < 9 → A9 (A 33) (rA A) i = A (([33, 35, 36, 37, 38, 39, 42, 44, 34] : List Nat).getD i 0) := by
    intro i hi
    rcases (show i = 0 ∨ i = 1 ∨ i = 2 ∨ i = 3 ∨ i = 4 ∨ i = 5 ∨ i = 6 ∨ i = 7 ∨ i = 8 by omega) with rfl | rfl | rfl | rfl | rfl | rfl | rfl | rfl | rfl <;> rfl
  have b : ∀ i, i < 9 → ([33, 35, 36, 37, 38, 39, 42, 44, 34] : List Nat).getD i 0 < 49 := by decide
  have n : ∀ i, i < 9 → ∀ j, j < 9 → i ≠ j → ([33, 35, 36, 37, 38, 39, 42, 44, 34] : List Nat).getD i 0 ≠ ([33, 35, 36, 37, 38, 39, 42, 44, 34] : List Nat).getD j 0 := by decide
  refine ⟨fun i hi => ?_, fun i hi j hj hij => ?_⟩
  · rw [e i hi]
    exact hI.1 _ (by rw [hL]; exact b i hi)
  · rw [e i hi, e j hj]
    intro q
    exact n i hi j hj hij (hI.2.1 _ _ (by rw [hL]; exact b i hi) (by rw [hL]; exact b j hj) q)
/-- the town and the draft change places -/
def sig : List Nat := [0, 1, 2, 3, 4, 5, 6, 7, 8, 9, 10, 11, 12, 13, 14, 15, 16, 17, 18, 19, 20, 21, 22, 28, 29, 30, 31, 32, 23, 24, 25, 26, 27, 33, 34, 35, 36, 37, 38, 39, 40, 41, 42, 43, 44, 45, 46, 47, 48]
theorem sig_lt : ∀ i, i < 49 → sig.getD i 0 < 49 := by decide +kernel
theorem sig_in : ∀ i, i < 49 → ∀ j, j < 49 → sig.getD i 0 = sig.getD j 0 → i = j := by decide +kernel
theorem IL.swap {as : List Nat} {A : Nat → Nat} {h : aH} {L L' : List va_E} (H : IL as A h L) (hL : L.length = 49) (hl : L' = sig.map (fun i => L.getD i (ob 0 []))) : IL as (fun i => A (sig.getD i 0)) h L' := by
  have hl' : L'.length = 49 := by rw [hl, List.length_map]; rfl
  refine IL.perm H _ (fun i hi => ?_) (fun i j hi hj e => ?_) (fun i hi => ?_)
  · rw [hL]; exact sig_lt i (by omega)
  · exact sig_in i (by omega) j (by omega) e
  · have hs : i < sig.length := by show i < 49; omega
    have hi' : sig.getD i 0 < L.length := by rw [hL]; exact sig_lt i (by omega)
    have e : sig[i]? = some (sig.getD i 0) := by rw [List.getD_eq_getElem?_getD, List.getElem?_eq_getElem hs]; rfl
    rw [hl, List.getElem?_map, e]
    show some (L.getD (sig.getD i 0) (ob 0 [])) = _
    rw [List.getD_eq_getElem?_getD, List.getElem?_eq_getElem hi']
    rfl
theorem putA_lo {g : iT → Nat} : ∀ (L : List iT) (w : Nat → Int32) (p j : Nat), j < p → putA g w p L j = w j
  | [], _, _, _, _ => rfl
  | i :: L, w, p, j, h => by
    show putA g (upd w p (nI (g i))) (p + 1) L j = w j
    rw [putA_lo L _ (p + 1) j (by omega), pk_un (by omega)]
theorem putA_at {g : iT → Nat} : ∀ (L : List iT) (w : Nat → Int32) (p j : Nat), j < L.length → putA g w p L (p + j) = nI (g (L.getD j (0, 0, 0, 0)))
  | [], _, _, j, h => absurd h (Nat.not_lt_zero j)
  | i :: L, w, p, 0, _ => by
    show putA g (upd w p (nI (g i))) (p + 1) L (p + 0) = nI (g i)
    rw [putA_lo L _ (p + 1) (p + 0) (by omega), Nat.add_zero, pk_us]
  | i :: L, w, p, j + 1, h => by
    show putA g (upd w p (nI (g i))) (p + 1) L (p + (j + 1)) = nI (g (L.getD j (0, 0, 0, 0)))
    rw [show p + (j + 1) = (p + 1) + j by omega]
    exact putA_at L _ (p + 1) j (Nat.lt_of_succ_lt_succ h)
theorem itm2_pay {t : Nat → Nat} {len w x : Nat} {S : sT} {a : Nat × Nat × Nat × Nat × sT} (h : itm2 t len w x S = .inr a) : a.2.2.1 ≤ 1 := by
  unfold itm2 at h
  by_cases c : S.2.2.1 = 7 ∨ S.2.2.1 = 8
  · rw [if_pos c] at h
    by_cases c2 : (adv1 t len S).2.2.1 = 2 ∧ (adv1 t len S).2.2.2 ≤ 8
    · rw [if_pos c2] at h
      by_cases c3 : (adv1 t len (adv1 t len S)).2.2.1 = 3
      · rw [if_pos c3] at h
        injection h with h
        subst h
        show S.2.2.1 - 7 ≤ 1
        omega
      · rw [if_neg c3] at h; cases h
    · rw [if_neg c2] at h; cases h
  · rw [if_neg c] at h; cases h
theorem itm_pay {t : Nat → Nat} {len : Nat} {S : sT} {a : Nat × Nat × Nat × Nat × sT} (h : itm t len S = .inr a) : a.2.2.1 ≤ 1 := by
  unfold itm at h
  by_cases c : S.2.2.1 = 4 ∨ S.2.2.1 = 5 ∨ S.2.2.1 = 6
  · rw [if_pos c] at h
    by_cases c2 : S.2.2.1 = 6
    · rw [if_pos c2] at h
      by_cases c3 : (adv1 t len S).2.2.1 = 2 ∧ (adv1 t len S).2.2.2 ≤ 10
      · rw [if_pos c3] at h; exact itm2_pay h
      · rw [if_neg c3] at h; cases h
    · rw [if_neg c2] at h; exact itm2_pay h
  · rw [if_neg c] at h; cases h
theorem twn_pay {t : Nat → Nat} {len : Nat} : ∀ (d : Nat) (S : sT) (L : List iT), twnL t len d S = .inr L → ∀ j, j < L.length → (L.getD j (0, 0, 0, 0)).2.2.1 ≤ 1 := by
  intro d
  induction d with
  | zero =>
    intro S L h j hj
    unfold twnL at h
    by_cases c : S.2.2.1 = 0
    · rw [if_pos c] at h
      injection h with h
      subst h
      exact absurd hj (Nat.not_lt_zero j)
    · rw [if_neg c] at h; cases h
  | succ d ih =>
    intro S L h j hj
    unfold twnL at h
    by_cases c : S.2.2.1 = 0
    · rw [if_pos c] at h
      injection h with h
      subst h
      exact absurd hj (Nat.not_lt_zero j)
    · rw [if_neg c] at h
      cases hi : itm t len S with
      | inl f => rw [hi] at h; cases h
      | inr a =>
        obtain ⟨i0, i1, i2, i3, S'⟩ := a
        rw [hi] at h
        have hp := itm_pay hi
        cases ht : twnL t len d S' with
        | inl f =>
          simp only [ht] at h
          cases h
        | inr L' =>
          simp only [ht] at h
          injection h with h
          subst h
          match j, hj with
          | 0, _ => exact hp
          | j + 1, hj => exact ih S' L' ht j (Nat.lt_of_succ_lt_succ hj)
section
variable {Γ : gT} {l : Launch} {as : List Nat} {A : Nat → Nat} {h : aH} {φ : fT} {z : Nat → Int32} {ν : Nat → Nat} {d3 d4 : Int32} {tc : Int64} {gw : Nat → Int64}
def φM (φ : fT) (w x y o f kp mt : Nat → Int32) : fT := fun i => if i = 35 then w else if i = 36 then x else if i = 37 then y else if i = 38 then o else if i = 4 then f else if i = 42 then kp else if i = 44 then mt else φ i
/-- the arrays when town and draft have changed places -/
def φS (φ : fT) : fT := fun i => if i = 24 then φ 29 else if i = 25 then φ 30 else if i = 26 then φ 31 else if i = 27 then φ 32 else if i = 29 then φ 24 else if i = 30 then φ 25 else if i = 31 then φ 26 else if i = 32 then φ 27 else φ i
def νS (ν : Nat → Nat) : Nat → Nat := fun i => if i = 6 then ν 7 else if i = 7 then ν 6 else ν i
abbrev CT (Γ : gT) (A : Nat → Nat) (φ : fT) (z : Nat → Int32) (ν : Nat → Nat) (d3 d4 : Int32) (tc : Int64) (gw : Nat → Int64) : List va_E := [xo (A 1) (A 3) (A 5) (A 7) (A 9) (A 10) (A 14) (A 16) (A 28) (A 23) (φ 40 0) (φ 41 0) tc, tq (A 2) (ν 1) (ν 2) (ν 3) (ν 4) (ν 5), aI Γ 300 (φ 2), ob 4 [.ref (A 4)], aI Γ 80 (φ 4), ob 4 [.ref (A 6)], aI Γ 80 (φ 6), ob 7 [.ref (A 8)], aI Γ 6 (φ 8), ob 3 [.int (φ 44 0), .int (φ 44 1), .int (φ 44 2), .int (φ 44 3), .int (z 19)], ob 0 [.ref (A 11), .ref (A 12), .ref (A 13), .int d3, .int d4], aI Γ 10 (φ 11), aI Γ 31 (φ 12), aI Γ 31 (φ 13), ob 2 [.ref (A 15)], aI Γ 27 (φ 15), aO Γ 2 (gI A), ob 1 [.ref (A 18), .int (φ 40 1), .int (φ 41 1), .int (φ 42 0)], ob 4 [.ref (A 19)], aI Γ 80 (φ 19), ob 1 [.ref (A 21), .int (φ 40 2), .int (φ 41 2), .int (φ 42 1)], ob 4 [.ref (A 22)], aI Γ 80 (φ 22), twn (A 24) (A 25) (A 26) (A 27) (ν 6), aI Γ 8 (φ 24), aI Γ 8 (φ 25), aI Γ 8 (φ 26), aI Γ 8 (φ 27), twn (A 29) (A 30) (A 31) (A 32) (ν 7), aI Γ 8 (φ 29), aI Γ 8 (φ 30), aI Γ 8 (φ 31), aI Γ 8 (φ 32), mo tc (rA A) z, aB Γ 300 (φ 34), aI Γ 16 (φ 35), aI Γ 16 (φ 36), aI Γ 16 (φ 37), aI Γ 16 (φ 38), aI Γ 240 (φ 4), aI Γ 3 (φ 40), aI Γ 3 (φ 41), aZ Γ 2 (φ 42), aI Γ 6 (φ 8), aI Γ 4 (φ 44), aJ Γ 10 gw, aZ Γ 10 (φ 46), aI Γ 80 (φ 47), aI Γ 27 (φ 15)]
set_option maxHeartbeats 4000000 in
theorem CT_swap : CL Γ (fun i => A (sig.getD i 0)) (φS φ) z (νS ν) d3 d4 tc gw = sig.map (fun i => (CT Γ A φ z ν d3 d4 tc gw).getD i (ob 0 [])) := rfl
theorem IL_N8 {L : List va_E} (hI : IL as A h L) (hL : Nat.ble 49 L.length = true) {z w x y o f kp mt : Nat → Int32} : IL as A (N8 Γ (A 33) (rA A) tc h z w x y o f kp mt) ((((((((L.set 44 (aI Γ 4 mt)).set 42 (aZ Γ 2 kp)).set 39 (aI Γ 240 f)).set 38 (aI Γ 16 o)).set 37 (aI Γ 16 y)).set 36 (aI Γ 16 x)).set 35 (aI Γ 16 w)).set 33 (mo tc (rA A) z)) := by
  have hL := Nat.le_of_ble_eq_true hL
  have b : ∀ k, k < 49 → ∀ L' : List va_E, L'.length = L.length → Nat.ble (k + 1) L'.length = true := fun k hk L' e => by rw [e]; exact Nat.ble_eq_true_of_le (by omega)
  rw [N8_ch]
  exact (((((((hI.set 44 _ (b 44 (by omega) _ rfl)).set 42 _ (b 42 (by omega) _ (by simp))).set 39 _ (b 39 (by omega) _ (by simp))).set 38 _ (b 38 (by omega) _ (by simp))).set 37 _ (b 37 (by omega) _ (by simp))).set 36 _ (b 36 (by omega) _ (by simp))).set 35 _ (b 35 (by omega) _ (by simp))).set 33 _ (b 33 (by omega) _ (by simp))
theorem s_town (hI : IL as A h (CL Γ A φ z ν d3 d4 tc gw)) (hR : REL φ z ν) : STEP Γ l mX8_town rX8_town mX9_town rX9_town [] as (A 0) (A 33) h := by
  obtain ⟨⟨r1, r5, r6, z2, z3⟩, ⟨tu, lw, bn, zr, yr, ⟨t, ht⟩⟩, ⟨a24, a25, a26, a27, py⟩, i0, i1⟩ := id hR
  have c8 := c_town (l := l) (t := t) hI (fun j hj => ⟨(ht j hj).1, (ht j hj).2.2⟩) r1 r5
  have hm : ∀ j, j < ν 1 → φ 34 j = byt (t j) ∧ t j < 256 := fun j hj => ⟨(ht j hj).2.1, (ht j hj).2.2⟩
  cases hc : twnL t (ν 1) 8 (advF t (ν 1) 0 (ν 5)) with
  | inl g =>
    rw [hc] at c8
    refine STEP.con (v := .int (-10 - nI g)) c8 (fun r as1 h1 hq => ?_)
    obtain ⟨rfl, hg, rfl, S', n', w', x', y', o', hS', hI1⟩ := hq
    refine ⟨rfl, rfl, ⟨_, hI1.at 33 rfl⟩, ?_⟩
    have hN := N8_self (tc := tc) (z := z) (w := φ 35) (x := φ 36) (y := φ 37) (o := φ 38) (f := φ 4) (kp := φ 42) (mt := φ 44) (m := A 33) (r := rA A) (Γ := Γ) (hI1.at 33 rfl).2 (hI1.at 35 rfl).2 (hI1.at 36 rfl).2 (hI1.at 37 rfl).2 (hI1.at 38 rfl).2 (hI1.at 39 rfl).2 (hI1.at 42 rfl).2 (hI1.at 44 rfl).2
    have c9 := n_town (l := l) (D9_of hI1 rfl) (hI1.at 34 rfl).2 hm r1 z2 r5 (tc := tc) (z := z) (w := φ 35) (x := φ 36) (y := φ 37) (o := φ 38) (f := φ 4) (kp := φ 42) (mt := φ 44)
    rw [hc] at c9
    rw [← hN] at c9
    refine c9.post (fun r as2 h2 hq => ?_)
    obtain ⟨rfl, -, rfl, T, w2, x2, y2, o2, ⟨lo1, lo2, lo3, lo4⟩, rfl⟩ := hq
    have hI2 := IL_N8 (Γ := Γ) (tc := tc) hI1 rfl (z := mz z T) (w := w2) (x := x2) (y := y2) (o := o2) (f := φ 4) (kp := φ 42) (mt := φ 44)
    exact ⟨rfl, rfl, INV.of (φ := φM (φD φ w' x' y' o') w2 x2 y2 o2 (φ 4) (φ 42) (φ 44)) (z := mz z T) (ν := νD ν S' n') (d3 := d3) (d4 := d4) (tc := tc) (gw := gw) (hI2.l rfl) ⟨⟨r1, hS'.2.2.2, r6, z2, z3⟩, ⟨tu, lw, bn, zr, yr, ⟨t, ht⟩⟩, ⟨fun p hp => (a24 p hp).trans (lo1 p (Nat.lt_of_lt_of_le hp r6)).symm, fun p hp => (a25 p hp).trans (lo2 p (Nat.lt_of_lt_of_le hp r6)).symm, fun p hp => (a26 p hp).trans (lo3 p (Nat.lt_of_lt_of_le hp r6)).symm, fun p hp => (a27 p hp).trans (lo4 p (Nat.lt_of_lt_of_le hp r6)).symm, py⟩, i0, i1⟩⟩
  | inr L =>
    rw [hc] at c8
    refine STEP.con (v := .int (nI L.length)) c8 (fun r as1 h1 hq => ?_)
    obtain ⟨rfl, rfl, S', hS', hI1⟩ := hq
    refine ⟨rfl, rfl, ⟨_, hI1.at 33 rfl⟩, ?_⟩
    have hN := N8_self (tc := tc) (z := z) (w := φ 35) (x := φ 36) (y := φ 37) (o := φ 38) (f := φ 4) (kp := φ 42) (mt := φ 44) (m := A 33) (r := rA A) (Γ := Γ) (hI1.at 33 rfl).2 (hI1.at 35 rfl).2 (hI1.at 36 rfl).2 (hI1.at 37 rfl).2 (hI1.at 38 rfl).2 (hI1.at 39 rfl).2 (hI1.at 42 rfl).2 (hI1.at 44 rfl).2
    have c9 := n_town (l := l) (D9_of hI1 rfl) (hI1.at 34 rfl).2 hm r1 z2 r5 (tc := tc) (z := z) (w := φ 35) (x := φ 36) (y := φ 37) (o := φ 38) (f := φ 4) (kp := φ 42) (mt := φ 44)
    rw [hc] at c9
    rw [← hN] at c9
    refine c9.post (fun r as2 h2 hq => ?_)
    obtain ⟨rfl, hL8, rfl, T, w2, x2, y2, o2, hin, rfl⟩ := hq
    have hI2 := IL_N8 (Γ := Γ) (tc := tc) hI1 rfl (z := upd (upd (upd (mz z T) 3 (nI L.length)) 19 0) 2 0) (w := w2) (x := x2) (y := y2) (o := o2) (f := zeroF 80 (φ 4)) (kp := upd (upd (φ 42) 0 0) 1 0) (mt := fillF m9 (φ 44) 4)
    have hI3 : IL _ A _ (CT Γ A (φM (φD φ (putA (fun i => i.1) (φ 29) 0 L) (putA (fun i => i.2.1) (φ 30) 0 L) (putA (fun i => i.2.2.1) (φ 31) 0 L) (putA (fun i => i.2.2.2) (φ 32) 0 L)) w2 x2 y2 o2 (zeroF 80 (φ 4)) (upd (upd (φ 42) 0 0) 1 0) (fillF m9 (φ 44) 4)) (upd (upd (upd (mz z T) 3 (nI L.length)) 19 0) 2 0) (upν (νD ν S' L.length) 1 0) d3 d4 tc gw) := hI2.l rfl
    have hI4 := hI3.swap rfl CT_swap
    have pu : ∀ (g : iT → Nat) (w : Nat → Int32) (p : Nat), p < L.length → putA g w 0 L p = nI (g (L.getD p (0, 0, 0, 0))) := fun g w p hp => by
      have := putA_at (g := g) L w 0 p hp
      rw [Nat.zero_add] at this
      exact this
    refine ⟨rfl, rfl, _, eqv.rf, fun i => A (sig.getD i 0), _, _, _, _, _, _, _, rfl, rfl, hI4, ⟨⟨Nat.zero_le _, hS'.2.2.2, hL8, nI_0.symm, rfl⟩, ⟨tu, lw, fun k hk => ?_, fun p h1 h2 w hw => ?_, yr, ⟨fun _ => 0, fun j hj => absurd hj (Nat.not_lt_zero j)⟩⟩, ⟨fun p hp => ?_, fun p hp => ?_, fun p hp => ?_, fun p hp => ?_, fun p hp => ?_⟩, ⟨fun i hi => ?_, Or.inl rfl⟩, ⟨fun i hi => ?_, Or.inl rfl⟩⟩⟩
    · show ¬ zeroF 80 (φ 4) k < 0 ∧ zeroF 80 (φ 4) k ≤ 99
      unfold zeroF
      rw [if_pos hk]
      exact ⟨by decide, by decide⟩
    · show zeroF 80 (φ 4) (p * 10 + w) = 0
      exact if_pos (by omega)
    · show putA (fun i => i.1) (φ 29) 0 L p = w2 p
      rw [pu _ _ p hp]; exact (hin p hp).1.symm
    · show putA (fun i => i.2.1) (φ 30) 0 L p = x2 p
      rw [pu _ _ p hp]; exact (hin p hp).2.1.symm
    · show putA (fun i => i.2.2.1) (φ 31) 0 L p = y2 p
      rw [pu _ _ p hp]; exact (hin p hp).2.2.1.symm
    · show putA (fun i => i.2.2.2) (φ 32) 0 L p = o2 p
      rw [pu _ _ p hp]; exact (hin p hp).2.2.2.symm
    · show putA (fun i => i.2.2.1) (φ 31) 0 L p = 0 ∨ putA (fun i => i.2.2.1) (φ 31) 0 L p = 1
      rw [pu _ _ p hp]
      have h1 := twn_pay 8 _ L hc p hp
      rcases (show (L.getD p (0, 0, 0, 0)).2.2.1 = 0 ∨ (L.getD p (0, 0, 0, 0)).2.2.1 = 1 by omega) with e | e
      · exact Or.inl (by rw [e]; rfl)
      · exact Or.inr (by rw [e]; rfl)
    · show zeroF 80 (φ 4) (80 + i) = φ 19 i
      unfold zeroF
      rw [if_neg (by omega)]
      exact i0.1 i hi
    · show zeroF 80 (φ 4) (160 + i) = φ 22 i
      unfold zeroF
      rw [if_neg (by omega)]
      exact i1.1 i hi
end

