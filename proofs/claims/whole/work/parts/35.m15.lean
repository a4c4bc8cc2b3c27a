/-! THE REFERENCE'S READER AGAINST THE CLASS'S: pure -/
abbrev St : Type := sT × Option Nat
def ftI : Option Nat → Int32
  | none => -9
  | some f => nI f
def dueM (t : Nat → Nat) (len : Nat) (S : St) (b : Bool) : St := match S.2 with
  | some _ => S
  | none => if b then (nxF t len S.1.1, none) else (S.1, some S.1.2.1)
def sM (k : Nat) : Nat := if k = 0 then 0 else if k = 2 then 3 else if k = 3 then 4 else if k = 4 ∨ k = 5 ∨ k = 6 then 1 else if k = 7 ∨ k = 8 then 2 else 5
def vM (k v : Nat) : Nat := if k = 2 then v else wVa k
def RS (S S9 : sT) : Prop := S9.2.1 = S.2.1 ∧ S9.2.2.1 = sM S.2.2.1 ∧ (S.2.2.1 ≠ 1 → S9.1 = S.1 ∧ S9.2.2.2 = vM S.2.2.1 S.2.2.2)
theorem num_rel {t : Nat → Nat} {len : Nat} : ∀ d a v v', v = min 100 v' → (numM t len d a v').1 = (numS t len d a v).1 ∧ (numS t len d a v).2 = min 100 (numM t len d a v').2
  | 0, a, v, v', h => ⟨rfl, h⟩
  | d + 1, a, v, v', h => by
    simp only [numM, numS]
    by_cases e : a < len ∧ isDg (t a) = true
    · rw [if_pos e, if_pos e]
      have hd := isDg_in e.2
      refine num_rel d (a + 1) _ _ ?_
      by_cases h9 : 99 < v'
      · rw [if_pos h9]; omega
      · rw [if_neg h9]; omega
    · rw [if_neg e, if_neg e]
      exact ⟨rfl, h⟩
theorem wTok_in {t : Nat → Nat} {s e : Nat} : wTok t s e = 1 ∨ wTok t s e = 4 ∨ wTok t s e = 5 ∨ wTok t s e = 6 ∨ wTok t s e = 7 ∨ wTok t s e = 8 := by
  unfold wTok
  by_cases h0 : wIs t s e 0 = true
  · rw [if_pos h0]; omega
  · rw [if_neg h0]
    by_cases h1 : wIs t s e 1 = true
    · rw [if_pos h1]; omega
    · rw [if_neg h1]
      by_cases h2 : wIs t s e 2 = true
      · rw [if_pos h2]; omega
      · rw [if_neg h2]
        by_cases h3 : wIs t s e 3 = true
        · rw [if_pos h3]; omega
        · rw [if_neg h3]
          by_cases h4 : wIs t s e 4 = true
          · rw [if_pos h4]; omega
          · rw [if_neg h4]; omega
theorem wTok_so {t : Nat → Nat} {s e : Nat} : wSo (wTok t s e) = sM (wTok t s e) := by
  rcases wTok_in (t := t) (s := s) (e := e) with q | q | q | q | q | q <;> rw [q] <;> rfl
theorem wTok_va {t : Nat → Nat} {s e v : Nat} : wVa (wTok t s e) = vM (wTok t s e) v := by
  rcases wTok_in (t := t) (s := s) (e := e) with q | q | q | q | q | q <;> rw [q] <;> rfl
theorem isDg_Lt {c : Nat} (h : isDg c = true) : ¬ isLt c = true := by
  have := isDg_in h
  unfold isLt
  rw [decide_eq_false (by omega), Bool.false_and]
  decide
theorem nx_adv {t : Nat → Nat} {len a v : Nat} : RS (advF t len a v) (nxF t len a) := by
  unfold advF nxF nxS
  generalize skp isBl t len (len - a) a = s
  by_cases h1 : len ≤ s
  · rw [if_pos h1, if_pos h1]
    exact ⟨rfl, rfl, fun _ => ⟨rfl, rfl⟩⟩
  · rw [if_neg h1, if_neg h1]
    by_cases h2 : t s = 59
    · have q1 : ¬ isLt (t s) = true := by rw [h2]; decide
      have q2 : ¬ isDg (t s) = true := by rw [h2]; decide
      rw [if_pos h2, if_neg q1, if_neg q2, if_pos h2]
      exact ⟨rfl, rfl, fun _ => ⟨rfl, rfl⟩⟩
    · rw [if_neg h2]
      by_cases h3 : isDg (t s) = true
      · rw [if_pos h3, if_neg (isDg_Lt h3), if_pos h3]
        have nr := num_rel (t := t) (len := len) (len - s) s 0 0 rfl
        generalize hS : numS t len (len - s) s 0 = nS at nr
        generalize hN : numM t len (len - s) s 0 = nM at nr
        by_cases h4 : (t s = 48 ∧ 1 < nS.1 - s) ∨ 99 < nS.2
        · have h5 : 99 < nM.2 ∨ (t s = 48 ∧ 1 < nM.1 - s) := by rw [nr.1]; rcases h4 with q | q; exact Or.inr q; left; omega
          rw [if_pos h4, if_pos h5]
          exact ⟨rfl, rfl, fun q => absurd rfl q⟩
        · have h5 : ¬ (99 < nM.2 ∨ (t s = 48 ∧ 1 < nM.1 - s)) := by rw [nr.1]; rintro (q | q); exact h4 (Or.inr (by omega)); exact h4 (Or.inl q)
          rw [if_neg h4, if_neg h5]
          refine ⟨rfl, rfl, fun _ => ⟨nr.1, ?_⟩⟩
          show nM.2 = nS.2
          have : ¬ 99 < nM.2 := fun q => h5 (Or.inl q)
          omega
      · rw [if_neg h3]
        by_cases h4 : isLt (t s) = true
        · rw [if_pos h4, if_pos h4]
          exact ⟨rfl, wTok_so, fun _ => ⟨rfl, wTok_va⟩⟩
        · rw [if_neg h4, if_neg h4, if_neg h3, if_neg h2]
          exact ⟨rfl, rfl, fun q => absurd rfl q⟩
theorem RS_next {t : Nat → Nat} {len : Nat} {S S9 : sT} (h : RS S S9) (h1 : S.2.2.1 ≠ 1) : RS (adv1 t len S) (nxF t len S9.1) := by
  rw [(h.2.2 h1).1]
  exact nx_adv
def okS (len : Nat) (S : St) : Prop := S.1.1 ≤ len ∧ S.1.2.1 ≤ len ∧ S.1.2.2.1 ≤ 5 ∧ S.1.2.2.2 ≤ 999 ∧ (∀ f, S.2 = some f → f ≤ len)
theorem wSo_le (k : Nat) : wSo k ≤ 5 := by
  unfold wSo
  by_cases h1 : k = 4 ∨ k = 5 ∨ k = 6
  · rw [if_pos h1]; omega
  · rw [if_neg h1]
    by_cases h2 : k = 7 ∨ k = 8
    · rw [if_pos h2]; omega
    · rw [if_neg h2]; omega
theorem wVa_le (k : Nat) : wVa k ≤ 2 := by
  unfold wVa
  by_cases h1 : k = 4 ∨ k = 5 ∨ k = 6
  · rw [if_pos h1]; omega
  · rw [if_neg h1]
    by_cases h2 : k = 7 ∨ k = 8
    · rw [if_pos h2]; omega
    · rw [if_neg h2]; omega
theorem nxF_ok {t : Nat → Nat} {len a : Nat} (ha : a ≤ len) : okS len (nxF t len a, none) := by
  have hs := skp_le (p := isBl) (t := t) (len := len) (len - a) a ha
  unfold nxF nxS
  generalize skp isBl t len (len - a) a = s at hs
  by_cases h1 : len ≤ s
  · rw [if_pos h1]
    exact ⟨hs.2, hs.2, Nat.zero_le _, Nat.zero_le _, fun f q => by cases q⟩
  · rw [if_neg h1]
    by_cases h4 : isLt (t s) = true
    · rw [if_pos h4]
      have hs2 := skp_le (p := isLt) (t := t) (len := len) (len - s) s hs.2
      exact ⟨hs2.2, hs.2, wSo_le _, Nat.le_trans (wVa_le _) (by omega), fun f q => by cases q⟩
    · rw [if_neg h4]
      by_cases h3 : isDg (t s) = true
      · rw [if_pos h3]
        have hn := numM_le (t := t) (len := len) (len - s) s 0 hs.2 (by omega)
        refine ⟨hn.2.1, hs.2, ?_, hn.2.2, fun f q => by cases q⟩
        show (if _ then _ else _) ≤ 5
        split <;> omega
      · rw [if_neg h3]
        refine ⟨?_, hs.2, ?_, Nat.zero_le _, fun f q => by cases q⟩
        · show s + 1 ≤ len
          omega
        · show (if _ then _ else _) ≤ 5
          split <;> omega
theorem dueM_ok {t : Nat → Nat} {len : Nat} {S : St} {b : Bool} (h : okS len S) : okS len (dueM t len S b) := by
  obtain ⟨S0, ft⟩ := S
  cases ft with
  | some f => exact h
  | none =>
    cases b with
    | true => exact nxF_ok h.1
    | false => exact ⟨h.1, h.2.1, h.2.2.1, h.2.2.2.1, fun f q => by cases q; exact h.2.1⟩
theorem dueM_dead {t : Nat → Nat} {len f : Nat} {S : St} {b : Bool} (h : S.2 = some f) : dueM t len S b = S := by
  obtain ⟨S0, ft⟩ := S
  cases h
  rfl
theorem dueM_go {t : Nat → Nat} {len : Nat} {S : St} {b : Bool} (h : S.2 = none) (hb : b = true) : dueM t len S b = (nxF t len S.1.1, none) := by
  obtain ⟨S0, ft⟩ := S
  cases h
  rw [hb]
  rfl
theorem dueM_no {t : Nat → Nat} {len : Nat} {S : St} {b : Bool} (h : S.2 = none) (hb : b = false) : dueM t len S b = (S.1, some S.1.2.1) := by
  obtain ⟨S0, ft⟩ := S
  cases h
  rw [hb]
  rfl
/-- the pieces of one turn of town's loop -/
def mB1 (p : Nat) (S : sT) : Bool := decide (S.2.2.1 = 1) && decide (p < 8)
def mCB (S : sT) (T : St) : Bool := decide (T.2 = none) && decide (S.2.2.2 = 2)
def mB2 (T : St) : Bool := decide (T.1.2.2.1 = 3) && decide (T.1.2.2.2 ≤ 10)
def mB3 (T : St) : Bool := decide (T.1.2.2.1 = 2)
def mB4 (T : St) : Bool := decide (T.1.2.2.1 = 3) && decide (T.1.2.2.2 ≤ 8)
def mB5 (T : St) : Bool := decide (T.1.2.2.1 = 4)
def mT1 (t : Nat → Nat) (len p : Nat) (S : sT) : St := dueM t len (S, none) (mB1 p S)
def mT2 (t : Nat → Nat) (len : Nat) (c : Bool) (T : St) : St := if c then dueM t len T (mB2 T) else T
def mT3 (t : Nat → Nat) (len : Nat) (T : St) : St := dueM t len T (mB3 T)
def mT4 (t : Nat → Nat) (len : Nat) (T : St) : St := dueM t len T (mB4 T)
def mT5 (t : Nat → Nat) (len : Nat) (T : St) : St := dueM t len T (mB5 T)
def mU2 (t : Nat → Nat) (len p : Nat) (S : sT) : St := mT2 t len (mCB S (mT1 t len p S)) (mT1 t len p S)
def mU3 (t : Nat → Nat) (len p : Nat) (S : sT) : St := mT3 t len (mU2 t len p S)
def mU4 (t : Nat → Nat) (len p : Nat) (S : sT) : St := mT4 t len (mU3 t len p S)
def mU5 (t : Nat → Nat) (len p : Nat) (S : sT) : St := mT5 t len (mU4 t len p S)
def mX1 (t : Nat → Nat) (len p : Nat) (S : sT) : Nat := if mCB S (mT1 t len p S) then (mT1 t len p S).1.2.2.2 else 0
theorem dead2 {t : Nat → Nat} {len p f : Nat} {S : sT} (h : (mU2 t len p S).2 = some f) : (mU5 t len p S).2 = some f := by
  have e3 : mU3 t len p S = mU2 t len p S := dueM_dead h
  have e4 : mU4 t len p S = mU3 t len p S := dueM_dead (f := f) (by rw [e3]; exact h)
  have e5 : mU5 t len p S = mU4 t len p S := dueM_dead (f := f) (by rw [e4, e3]; exact h)
  rw [e5, e4, e3]
  exact h
theorem dead1 {t : Nat → Nat} {len p f : Nat} {S : sT} (h : (mT1 t len p S).2 = some f) : (mU5 t len p S).2 = some f := by
  refine dead2 ?_
  have hc : mCB S (mT1 t len p S) = false := by unfold mCB; rw [h]; rfl
  unfold mU2
  rw [hc]
  exact h
theorem sM_inv {k : Nat} (hk : k ≤ 8) : (sM k = 0 ↔ k = 0) ∧ (sM k = 1 ↔ (k = 4 ∨ k = 5 ∨ k = 6)) ∧ (sM k = 2 ↔ (k = 7 ∨ k = 8)) ∧ (sM k = 3 ↔ k = 2) ∧ (sM k = 4 ↔ k = 3) := by
  have : ∀ k, k < 9 → (sM k = 0 ↔ k = 0) ∧ (sM k = 1 ↔ (k = 4 ∨ k = 5 ∨ k = 6)) ∧ (sM k = 2 ↔ (k = 7 ∨ k = 8)) ∧ (sM k = 3 ↔ k = 2) ∧ (sM k = 4 ↔ k = 3) := by decide
  exact this k (by omega)
theorem tail2 {t : Nat → Nat} {len i0 i1 p : Nat} {S : sT} {S2 : sT} (hU : (mU2 t len p S).2 = none) (hR : RS S2 (mU2 t len p S).1) (h2 : sOK len S2) :
    (∀ f, itm2 t len i0 i1 S2 = .inl f → (mU5 t len p S).2 = some f) ∧
    (∀ j0 j1 j2 j3 S', itm2 t len i0 i1 S2 = .inr (j0, j1, j2, j3, S') → (mU5 t len p S).2 = none ∧ RS S' (mU5 t len p S).1 ∧ sOK len S' ∧ j0 = i0 ∧ j1 = i1 ∧ j2 = (mU2 t len p S).1.2.2.2 ∧ j3 = (mU3 t len p S).1.2.2.2) := by
  generalize hT2 : mU2 t len p S = T2 at hU hR
  have e3 : mU3 t len p S = mT3 t len T2 := by unfold mU3; rw [hT2]
  have k2 := sM_inv h2.2.2.1
  unfold itm2
  by_cases a : S2.2.2.1 = 7 ∨ S2.2.2.1 = 8
  · rw [if_pos a]
    have b3 : mB3 T2 = true := decide_eq_true (by rw [hR.2.1]; exact k2.2.2.1.mpr a)
    have f3 : mU3 t len p S = (nxF t len T2.1.1, none) := by rw [e3]; exact dueM_go hU b3
    have R3 : RS (adv1 t len S2) (nxF t len T2.1.1) := RS_next hR (by omega)
    have h3 := adv1_ok (t := t) h2
    have k3 := sM_inv h3.2.2.1
    have hv2 : T2.1.2.2.2 = S2.2.2.1 - 7 := by rw [(hR.2.2 (by omega)).2]; unfold vM wVa; rw [if_neg (by omega), if_neg (by omega), if_pos a]
    by_cases c : (adv1 t len S2).2.2.1 = 2 ∧ (adv1 t len S2).2.2.2 ≤ 8
    · rw [if_pos c]
      have hv3 : (nxF t len T2.1.1).2.2.2 = (adv1 t len S2).2.2.2 := by rw [(R3.2.2 (by omega)).2]; unfold vM; rw [if_pos c.1]
      have b4 : mB4 (mU3 t len p S) = true := by unfold mB4; rw [f3, Bool.and_eq_true]; exact ⟨decide_eq_true (by rw [R3.2.1]; exact k3.2.2.2.1.mpr c.1), decide_eq_true (by rw [hv3]; exact c.2)⟩
      have f4 : mU4 t len p S = (nxF t len (nxF t len T2.1.1).1, none) := by
        show dueM t len (mU3 t len p S) (mB4 (mU3 t len p S)) = _
        rw [dueM_go (by rw [f3]) b4, f3]
      have R4 : RS (adv1 t len (adv1 t len S2)) (nxF t len (nxF t len T2.1.1).1) := RS_next R3 (by omega)
      have h4 := adv1_ok (t := t) h3
      have k4 := sM_inv h4.2.2.1
      by_cases d : (adv1 t len (adv1 t len S2)).2.2.1 = 3
      · rw [if_pos d]
        have b5 : mB5 (mU4 t len p S) = true := by unfold mB5; rw [f4]; exact decide_eq_true (by rw [R4.2.1]; exact k4.2.2.2.2.mpr d)
        have f5 : mU5 t len p S = (nxF t len (nxF t len (nxF t len T2.1.1).1).1, none) := by
          show dueM t len (mU4 t len p S) (mB5 (mU4 t len p S)) = _
          rw [dueM_go (by rw [f4]) b5, f4]
        refine ⟨fun f q => (by cases q), fun j0 j1 j2 j3 S' q => ?_⟩
        cases q
        rw [f5, f3]
        exact ⟨rfl, RS_next R4 (by omega), adv1_ok h4, rfl, rfl, hv2.symm, hv3.symm⟩
      · rw [if_neg d]
        have b5 : mB5 (mU4 t len p S) = false := by unfold mB5; rw [f4]; exact decide_eq_false (by rw [R4.2.1]; exact fun q => d (k4.2.2.2.2.mp q))
        have f5 : mU5 t len p S = (nxF t len (nxF t len T2.1.1).1, some (nxF t len (nxF t len T2.1.1).1).2.1) := by
          show dueM t len (mU4 t len p S) (mB5 (mU4 t len p S)) = _
          rw [dueM_no (by rw [f4]) b5, f4]
        refine ⟨fun f q => ?_, fun j0 j1 j2 j3 S' q => by cases q⟩
        cases q
        rw [f5, R4.1]
    · rw [if_neg c]
      have b4 : mB4 (mU3 t len p S) = false := by
        unfold mB4
        rw [f3]
        by_cases c1 : (adv1 t len S2).2.2.1 = 2
        · rw [decide_eq_false (p := (nxF t len T2.1.1).2.2.2 ≤ 8) (fun q => c ⟨c1, by rw [(R3.2.2 (by omega)).2] at q; unfold vM at q; rw [if_pos c1] at q; exact q⟩), Bool.and_false]
        · rw [decide_eq_false (p := (nxF t len T2.1.1).2.2.1 = 3) (by rw [R3.2.1]; exact fun q => c1 (k3.2.2.2.1.mp q)), Bool.false_and]
      have f4 : mU4 t len p S = (nxF t len T2.1.1, some (nxF t len T2.1.1).2.1) := by
        show dueM t len (mU3 t len p S) (mB4 (mU3 t len p S)) = _
        rw [dueM_no (by rw [f3]) b4, f3]
      have f5 : mU5 t len p S = mU4 t len p S := dueM_dead (f := (nxF t len T2.1.1).2.1) (by rw [f4])
      refine ⟨fun f q => ?_, fun j0 j1 j2 j3 S' q => by cases q⟩
      cases q
      rw [f5, f4, R3.1]
  · rw [if_neg a]
    have b3 : mB3 T2 = false := decide_eq_false (by rw [hR.2.1]; exact fun q => a (k2.2.2.1.mp q))
    have f3 : mU3 t len p S = (T2.1, some T2.1.2.1) := by rw [e3]; exact dueM_no hU b3
    have f4 : mU4 t len p S = mU3 t len p S := dueM_dead (f := T2.1.2.1) (by rw [f3])
    have f5 : mU5 t len p S = mU4 t len p S := dueM_dead (f := T2.1.2.1) (by rw [f4, f3])
    refine ⟨fun f q => ?_, fun j0 j1 j2 j3 S' q => by cases q⟩
    cases q
    rw [f5, f4, f3, hR.1]
theorem stepS {t : Nat → Nat} {len p : Nat} {S S9 : sT} (hp : p < 8) (hR : RS S S9) (hS : sOK len S) :
    (∀ f, itm t len S = .inl f → (mU5 t len p S9).2 = some f) ∧
    (∀ j0 j1 j2 j3 S', itm t len S = .inr (j0, j1, j2, j3, S') → (mU5 t len p S9).2 = none ∧ RS S' (mU5 t len p S9).1 ∧ sOK len S' ∧ j0 = S9.2.2.2 ∧ j1 = mX1 t len p S9 ∧ j2 = (mU2 t len p S9).1.2.2.2 ∧ j3 = (mU3 t len p S9).1.2.2.2) := by
  have k1 := sM_inv hS.2.2.1
  unfold itm
  by_cases a : S.2.2.1 = 4 ∨ S.2.2.1 = 5 ∨ S.2.2.1 = 6
  · rw [if_pos a]
    have b1 : mB1 p S9 = true := by unfold mB1; rw [Bool.and_eq_true]; exact ⟨decide_eq_true (by rw [hR.2.1]; exact k1.2.1.mpr a), decide_eq_true hp⟩
    have f1 : mT1 t len p S9 = (nxF t len S9.1, none) := dueM_go (S := (S9, none)) rfl b1
    have R1 : RS (adv1 t len S) (nxF t len S9.1) := RS_next hR (by omega)
    have h1 := adv1_ok (t := t) hS
    have kk := sM_inv h1.2.2.1
    have hv : S9.2.2.2 = S.2.2.1 - 4 := by rw [(hR.2.2 (by omega)).2]; unfold vM wVa; rw [if_neg (by omega), if_pos a]
    by_cases c : S.2.2.1 = 6
    · rw [if_pos c]
      have cb : mCB S9 (mT1 t len p S9) = true := by unfold mCB; rw [f1, Bool.and_eq_true]; exact ⟨rfl, decide_eq_true (by rw [hv, c])⟩
      have u2 : mU2 t len p S9 = dueM t len (mT1 t len p S9) (mB2 (mT1 t len p S9)) := by unfold mU2 mT2; rw [cb]; rfl
      have x1 : mX1 t len p S9 = (nxF t len S9.1).2.2.2 := by unfold mX1; rw [cb, f1]; rfl
      by_cases d : (adv1 t len S).2.2.1 = 2 ∧ (adv1 t len S).2.2.2 ≤ 10
      · rw [if_pos d]
        have hv1 : (nxF t len S9.1).2.2.2 = (adv1 t len S).2.2.2 := by rw [(R1.2.2 (by omega)).2]; unfold vM; rw [if_pos d.1]
        have b2 : mB2 (mT1 t len p S9) = true := by unfold mB2; rw [f1, Bool.and_eq_true]; exact ⟨decide_eq_true (by rw [R1.2.1]; exact kk.2.2.2.1.mpr d.1), decide_eq_true (by rw [hv1]; exact d.2)⟩
        have f2 : mU2 t len p S9 = (nxF t len (nxF t len S9.1).1, none) := by rw [u2, dueM_go (by rw [f1]) b2, f1]
        have R2 : RS (adv1 t len (adv1 t len S)) (nxF t len (nxF t len S9.1).1) := RS_next R1 (by omega)
        obtain ⟨tA, tB⟩ := tail2 (t := t) (len := len) (i0 := 2) (i1 := (adv1 t len S).2.2.2) (p := p) (S := S9) (S2 := adv1 t len (adv1 t len S)) (by rw [f2]) (by rw [f2]; exact R2) (adv1_ok h1)
        refine ⟨tA, fun j0 j1 j2 j3 S' q => ?_⟩
        obtain ⟨q1, q2, q3, q4, q5, q6, q7⟩ := tB j0 j1 j2 j3 S' q
        exact ⟨q1, q2, q3, by rw [q4, hv, c], by rw [q5, x1, hv1], q6, q7⟩
      · rw [if_neg d]
        have b2 : mB2 (mT1 t len p S9) = false := by
          unfold mB2
          rw [f1]
          by_cases c1 : (adv1 t len S).2.2.1 = 2
          · rw [decide_eq_false (p := (nxF t len S9.1).2.2.2 ≤ 10) (fun q => d ⟨c1, by rw [(R1.2.2 (by omega)).2] at q; unfold vM at q; rw [if_pos c1] at q; exact q⟩), Bool.and_false]
          · rw [decide_eq_false (p := (nxF t len S9.1).2.2.1 = 3) (by rw [R1.2.1]; exact fun q => c1 (kk.2.2.2.1.mp q)), Bool.false_and]
        have f2 : mU2 t len p S9 = (nxF t len S9.1, some (nxF t len S9.1).2.1) := by rw [u2, dueM_no (by rw [f1]) b2, f1]
        refine ⟨fun f q => ?_, fun j0 j1 j2 j3 S' q => by cases q⟩
        cases q
        exact dead2 (by rw [f2, R1.1])
    · rw [if_neg c]
      have cb : mCB S9 (mT1 t len p S9) = false := by unfold mCB; rw [decide_eq_false (p := S9.2.2.2 = 2) (by rw [hv]; omega), Bool.and_false]
      have f2 : mU2 t len p S9 = (nxF t len S9.1, none) := by unfold mU2 mT2; rw [cb, f1]; rfl
      have x1 : mX1 t len p S9 = 0 := by unfold mX1; rw [cb]; rfl
      obtain ⟨tA, tB⟩ := tail2 (t := t) (len := len) (i0 := S.2.2.1 - 4) (i1 := 0) (p := p) (S := S9) (S2 := adv1 t len S) (by rw [f2]) (by rw [f2]; exact R1) h1
      refine ⟨tA, fun j0 j1 j2 j3 S' q => ?_⟩
      obtain ⟨q1, q2, q3, q4, q5, q6, q7⟩ := tB j0 j1 j2 j3 S' q
      exact ⟨q1, q2, q3, by rw [q4, hv], by rw [q5, x1], q6, q7⟩
  · rw [if_neg a]
    have b1 : mB1 p S9 = false := by unfold mB1; rw [decide_eq_false (p := S9.2.2.1 = 1) (by rw [hR.2.1]; exact fun q => a (k1.2.1.mp q)), Bool.false_and]
    have f1 : mT1 t len p S9 = (S9, some S9.2.1) := dueM_no (S := (S9, none)) rfl b1
    refine ⟨fun f q => ?_, fun j0 j1 j2 j3 S' q => by cases q⟩
    cases q
    exact dead1 (by rw [f1, hR.1])
theorem stepF {t : Nat → Nat} {len p : Nat} {S S9 : sT} (hp : ¬ p < 8) (hR : RS S S9) : (mU5 t len p S9).2 = some S.2.1 := by
  have b1 : mB1 p S9 = false := by unfold mB1; rw [decide_eq_false hp, Bool.and_false]
  have f1 : mT1 t len p S9 = (S9, some S9.2.1) := dueM_no (S := (S9, none)) rfl b1
  exact dead1 (by rw [f1, hR.1])
theorem mU5_ok {t : Nat → Nat} {len p : Nat} {S : sT} (h : okS len (S, none)) : okS len (mT1 t len p S) ∧ okS len (mU2 t len p S) ∧ okS len (mU3 t len p S) ∧ okS len (mU4 t len p S) ∧ okS len (mU5 t len p S) := by
  have o1 : okS len (mT1 t len p S) := dueM_ok h
  have o2 : okS len (mU2 t len p S) := by
    unfold mU2 mT2
    split
    · exact dueM_ok o1
    · exact o1
  have o3 : okS len (mU3 t len p S) := dueM_ok o2
  have o4 : okS len (mU4 t len p S) := dueM_ok o3
  exact ⟨o1, o2, o3, o4, dueM_ok o4⟩

