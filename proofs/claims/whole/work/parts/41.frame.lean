/-! THE WORLD OF THE LAW: 49 cells at addresses A 0 .. A 48 -/
def IL (as : List Nat) (A : Nat → Nat) (h : aH) (L : List va_E) : Prop := (∀ i, i < L.length → A i ∈ as) ∧ (∀ i j, i < L.length → j < L.length → A i = A j → i = j) ∧ ∀ (i : Nat) (e : va_E), L[i]? = some e → h (A i) = e
theorem IL.at {as : List Nat} {A : Nat → Nat} {h : aH} {L : List va_E} (H : IL as A h L) (i : Nat) {e : va_E} (hi : L[i]? = some e) : hat as h (A i) e := ⟨H.1 i (List.getElem?_eq_some_iff.mp hi).1, H.2.2 i e hi⟩
theorem IL.ne {as : List Nat} {A : Nat → Nat} {h : aH} {L : List va_E} (H : IL as A h L) (i j : Nat) (hi : Nat.ble (i + 1) L.length = true) (hj : Nat.ble (j + 1) L.length = true) (hij : Nat.beq i j = false) : A i ≠ A j := fun z => Nat.ne_of_beq_eq_false hij (H.2.1 i j (Nat.le_of_ble_eq_true hi) (Nat.le_of_ble_eq_true hj) z)
theorem IL.set {as : List Nat} {A : Nat → Nat} {h : aH} {L : List va_E} (H : IL as A h L) (k : Nat) (e : va_E) (hk : Nat.ble (k + 1) L.length = true) : IL as A (hset h (A k) e) (L.set k e) := by
  have hk := Nat.le_of_ble_eq_true hk
  refine ⟨fun i hi => H.1 i (by rw [List.length_set] at hi; exact hi), fun i j hi hj => H.2.1 i j (by rw [List.length_set] at hi; exact hi) (by rw [List.length_set] at hj; exact hj), fun i e' hi => ?_⟩
  have hil : i < L.length := by have := (List.getElem?_eq_some_iff.mp hi).1; rw [List.length_set] at this; exact this
  by_cases hik : i = k
  · subst hik
    rw [List.getElem?_set_self hil] at hi
    cases hi
    exact hset_eq
  · rw [List.getElem?_set_ne (fun z => hik z.symm)] at hi
    rw [hset_ne (fun z => hik (H.2.1 i k hil hk z))]
    exact H.2.2 i e' hi
theorem IL.l {as : List Nat} {A : Nat → Nat} {h : aH} {L L' : List va_E} (H : IL as A h L) (e : L = L') : IL as A h L' := e ▸ H
theorem IL.h {as : List Nat} {A : Nat → Nat} {h h' : aH} {L : List va_E} (H : IL as A h L) (e : h' = h) : IL as A h' L := e ▸ H
/-- the same addresses in another order -/
theorem IL.perm {as : List Nat} {A : Nat → Nat} {h : aH} {L L' : List va_E} (H : IL as A h L) (π : Nat → Nat) (h1 : ∀ i, i < L'.length → π i < L.length) (h2 : ∀ i j, i < L'.length → j < L'.length → π i = π j → i = j) (h3 : ∀ (i : Nat), i < L'.length → L'[i]? = L[π i]?) : IL as (fun i => A (π i)) h L' :=
  ⟨fun i hi => H.1 _ (h1 i hi), fun i j hi hj z => h2 i j hi hj (H.2.1 _ _ (h1 i hi) (h1 j hj) z), fun i e hi => H.2.2 _ e (by rw [← h3 i (List.getElem?_eq_some_iff.mp hi).1]; exact hi)⟩
/-! heaps that hold the same, though the functions differ beyond the arrays' ends -/
def eqv (as : List Nat) (h h' : aH) : Prop := ∀ a ∈ as, ∀ (D : va_G) (cl : List vw_C) (H : Heap), va_at D cl (a, h a) H → va_at D cl (a, h' a) H
theorem eqv.rf {as : List Nat} {h : aH} : eqv as h h := fun _ _ _ _ _ q => q
theorem eqv.tr {as : List Nat} {h h1 h2 : aH} (e1 : eqv as h h1) (e2 : eqv as h1 h2) : eqv as h h2 := fun a ha D cl H q => e2 a ha D cl H (e1 a ha D cl H q)
theorem eqv.P {as : List Nat} {h h' : aH} {D : va_G} {cl : List vw_C} {H : Heap} (he : eqv as h h') (hP : va_P D cl (wW as h) H) : va_P D cl (wW as h') H := by
  intro k q hk
  obtain ⟨a, ha, rfl⟩ := wW_some hk
  exact he a (List.mem_of_getElem? ha) D cl H (hP k (a, h a) (wW_get ha))
theorem V.eqv {Γ : gT} {l : Launch} {μ : mT} {R : Room} {Z : zT} {kc ks pc : Nat} {ls : List (Nat × Value)} {st : List Value} {as : List Nat} {h h' : aH} (he : eqv as h h') (k : V Γ l μ R Z kc ks pc ls st as h') : V Γ l μ R Z kc ks pc ls st as h := by
  intro p e s m args below meth c H locs lsA C hn hP hS hl
  exact k p e s m args below meth c H locs lsA C hn (he.P hP) hS hl
theorem arrV_ext {c : ClassId} {N : Nat} {f g : Nat → Value} (h : ∀ j, j < N → f j = g j) : arrV c N f = arrV c N g := by
  unfold arrV
  congr 1
  congr 1
  funext j
  exact h j.val j.isLt
/-- an int array's contents, changed beyond its end -/
theorem eqv_I {Γ : gT} {as : List Nat} {h : aH} {a N : Nat} {f f' : Nat → Int32} (ha : h a = aI Γ N f) (hf : ∀ j, j < N → f j = f' j) : eqv as h (hset h a (aI Γ N f')) := by
  intro b _ D cl H q
  by_cases hb : b = a
  · subst hb
    rw [hset_eq]
    rw [ha] at q
    show H[b]? = some (vp_cell (Γ.2.1 1) (N, .inl f'))
    have q : H[b]? = some (vp_cell (Γ.2.1 1) (N, .inl f)) := q
    rw [q, vp_cell_i, vp_cell_i, arrV_ext (fun j hj => by rw [hf j hj])]
  · rw [hset_ne hb]
    exact q
/-! the 49 cells -/
def rho (k : Nat) : Nat := ([33, 34, 33, 33, 35, 36, 37, 38, 33, 33, 33, 33, 33, 39, 40, 41, 42, 43, 44, 33, 45, 46, 47, 48, 33] : List Nat).getD k 33
abbrev rA (A : Nat → Nat) : Nat → Nat := fun k => A (rho k)
abbrev gI (A : Nat → Nat) : Nat → Option Nat := va_up (va_up (fun _ => none) 0 (some (A 17))) 1 (some (A 20))
abbrev fT : Type := Nat → Nat → Int32
/-- φ: the arrays' contents by their cells (4: both purses, 8: both tunes, 15: both laws); ν: the text's numbers (1..5), people of the town (6) and of the draft (7); z: the reference's numbers -/
abbrev CL (Γ : gT) (A : Nat → Nat) (φ : fT) (z : Nat → Int32) (ν : Nat → Nat) (d3 d4 : Int32) (tc : Int64) (gw : Nat → Int64) : List va_E := [xo (A 1) (A 3) (A 5) (A 7) (A 9) (A 10) (A 14) (A 16) (A 23) (A 28) (φ 40 0) (φ 41 0) tc, tq (A 2) (ν 1) (ν 2) (ν 3) (ν 4) (ν 5), aI Γ 300 (φ 2), ob 4 [.ref (A 4)], aI Γ 80 (φ 4), ob 4 [.ref (A 6)], aI Γ 80 (φ 6), ob 7 [.ref (A 8)], aI Γ 6 (φ 8), ob 3 [.int (φ 44 0), .int (φ 44 1), .int (φ 44 2), .int (φ 44 3), .int (z 19)], ob 0 [.ref (A 11), .ref (A 12), .ref (A 13), .int d3, .int d4], aI Γ 10 (φ 11), aI Γ 31 (φ 12), aI Γ 31 (φ 13), ob 2 [.ref (A 15)], aI Γ 27 (φ 15), aO Γ 2 (gI A), ob 1 [.ref (A 18), .int (φ 40 1), .int (φ 41 1), .int (φ 42 0)], ob 4 [.ref (A 19)], aI Γ 80 (φ 19), ob 1 [.ref (A 21), .int (φ 40 2), .int (φ 41 2), .int (φ 42 1)], ob 4 [.ref (A 22)], aI Γ 80 (φ 22), twn (A 24) (A 25) (A 26) (A 27) (ν 6), aI Γ 8 (φ 24), aI Γ 8 (φ 25), aI Γ 8 (φ 26), aI Γ 8 (φ 27), twn (A 29) (A 30) (A 31) (A 32) (ν 7), aI Γ 8 (φ 29), aI Γ 8 (φ 30), aI Γ 8 (φ 31), aI Γ 8 (φ 32), mo tc (rA A) z, aB Γ 300 (φ 34), aI Γ 16 (φ 35), aI Γ 16 (φ 36), aI Γ 16 (φ 37), aI Γ 16 (φ 38), aI Γ 240 (φ 4), aI Γ 3 (φ 40), aI Γ 3 (φ 41), aZ Γ 2 (φ 42), aI Γ 6 (φ 8), aI Γ 4 (φ 44), aJ Γ 10 gw, aZ Γ 10 (φ 46), aI Γ 80 (φ 47), aI Γ 27 (φ 15)]
def tun (u : Nat → Int32) : Prop := ∀ j, j < 6 → tuL j ≤ u j ∧ u j ≤ tuM j
def lwb (u : Nat → Int32) : Prop := ∀ j, j < 27 → ¬ u j < 0 ∧ u j ≤ 99
def yrs (u : Nat → Int32) : Prop := ∀ j, j < 3 → ∃ y, y ≤ 1000 ∧ u j = nI y
def txt (len : Nat) (bx bm : Nat → Int32) : Prop := ∃ t : Nat → Nat, ∀ j, j < len → bx j = nI (t j) ∧ bm j = byt (t j) ∧ t j < 256
def agr (n : Nat) (w w' : Nat → Int32) : Prop := ∀ p, p < n → w p = w' p
def img (n : Nat) (F g : Nat → Int32) (k : Int32) (o : Nat) : Prop := (∀ i, i < 80 → F (o + i) = g i) ∧ (k = 0 ∨ (k = 1 ∧ bnd g ∧ zro n g))
def REL (φ : fT) (z : Nat → Int32) (ν : Nat → Nat) : Prop := (ν 1 ≤ 300 ∧ ν 5 ≤ 100 ∧ ν 6 ≤ 8 ∧ z 2 = nI (ν 1) ∧ z 3 = nI (ν 6)) ∧ (tun (φ 8) ∧ lwb (φ 15) ∧ bnd (φ 4) ∧ zro (ν 6) (φ 4) ∧ yrs (φ 41) ∧ txt (ν 1) (φ 2) (φ 34)) ∧ (agr (ν 6) (φ 24) (φ 35) ∧ agr (ν 6) (φ 25) (φ 36) ∧ agr (ν 6) (φ 26) (φ 37) ∧ agr (ν 6) (φ 27) (φ 38) ∧ ∀ p, p < ν 6 → φ 26 p = 0 ∨ φ 26 p = 1) ∧ img (ν 6) (φ 4) (φ 19) (φ 42 0) 80 ∧ img (ν 6) (φ 4) (φ 22) (φ 42 1) 160
def INV (Γ : gT) (as : List Nat) (X m : Nat) (h : aH) : Prop := ∃ h0 : aH, eqv as h h0 ∧ ∃ (A : Nat → Nat) (φ : fT) (z : Nat → Int32) (ν : Nat → Nat) (d3 d4 : Int32) (tc : Int64) (gw : Nat → Int64), A 0 = X ∧ A 33 = m ∧ IL as A h0 (CL Γ A φ z ν d3 d4 tc gw) ∧ REL φ z ν
/-- an answer is as the method's head says -/
def vOK : Option FieldType → Value → Prop
  | some .int, .int _ => True
  | some .long, .long _ => True
  | _, _ => False
/-- a call of both, with one answer, keeps the law's world -/
def STEP (Γ : gT) (l : Launch) (μ : mT) (R : Room) (μ' : mT) (R' : Room) (ar : List Value) (as : List Nat) (X m : Nat) (h : aH) : Prop := ∃ v : Value, vOK μ.2.2.2.2.1 v ∧ Con Γ l μ R (.ref X :: ar) as h (fun r as1 h1 => as1 = as ∧ r = some v ∧ (∃ fs, hat as h1 m (ob 9 fs)) ∧ Con Γ l μ' R' (.ref m :: ar) as h1 (fun r' as2 h2 => as2 = as ∧ r' = some v ∧ INV Γ as X m h2))
theorem STEP.of {Γ : gT} {l : Launch} {μ : mT} {R : Room} {μ' : mT} {R' : Room} {ar : List Value} {as : List Nat} {X : Nat} {A : Nat → Nat} {L : List va_E} {h h1 h2 : aH} {v : Value} (hI1 : IL as A h1 L) (c8 : Det Γ l μ R (.ref X :: ar) as h (some v) h1) (c9 : Det Γ l μ' R' (.ref (A 33) :: ar) as h1 (some v) h2) (hi : INV Γ as X (A 33) h2) (hv : vOK μ.2.2.2.2.1 v := by exact True.intro) (hL : ∃ fs, L[33]? = some (ob 9 fs) := by exact ⟨_, rfl⟩) : STEP Γ l μ R μ' R' ar as X (A 33) h :=
  ⟨v, hv, c8.post (fun r as' h' q => by
    obtain ⟨rfl, rfl, rfl⟩ := q
    obtain ⟨fs, hL⟩ := hL
    exact ⟨rfl, rfl, ⟨fs, hI1.at 33 hL⟩, c9.post (fun r as' h' q => by
      obtain ⟨rfl, rfl, rfl⟩ := q
      exact ⟨rfl, rfl, hi⟩)⟩)⟩
theorem INV.of {Γ : gT} {as : List Nat} {A : Nat → Nat} {h : aH} {φ : fT} {z : Nat → Int32} {ν : Nat → Nat} {d3 d4 : Int32} {tc : Int64} {gw : Nat → Int64} (hI : IL as A h (CL Γ A φ z ν d3 d4 tc gw)) (hR : REL φ z ν) : INV Γ as (A 0) (A 33) h := ⟨h, eqv.rf, A, φ, z, ν, d3, d4, tc, gw, rfl, rfl, hI, hR⟩
/-- arrays by their cells, one changed -/
def upφ (φ : fT) (k : Nat) (f : Nat → Int32) : fT := fun i => if i = k then f else φ i
def upν (ν : Nat → Nat) (k v : Nat) : Nat → Nat := fun i => if i = k then v else ν i
theorem K0 {Γ : gT} {as : List Nat} {A : Nat → Nat} {h : aH} {φ : fT} {z : Nat → Int32} {ν : Nat → Nat} {d3 d4 : Int32} {tc : Int64} {gw : Nat → Int64} (hI : IL as A h (CL Γ A φ z ν d3 d4 tc gw)) : hat as h (A 0) (xo (A 1) (A 3) (A 5) (A 7) (A 9) (A 10) (A 14) (A 16) (A 23) (A 28) (φ 40 0) (φ 41 0) tc) := hI.at 0 rfl
theorem K1 {Γ : gT} {as : List Nat} {A : Nat → Nat} {h : aH} {φ : fT} {z : Nat → Int32} {ν : Nat → Nat} {d3 d4 : Int32} {tc : Int64} {gw : Nat → Int64} (hI : IL as A h (CL Γ A φ z ν d3 d4 tc gw)) : hat as h (A 1) (tq (A 2) (ν 1) (ν 2) (ν 3) (ν 4) (ν 5)) := hI.at 1 rfl
theorem K2 {Γ : gT} {as : List Nat} {A : Nat → Nat} {h : aH} {φ : fT} {z : Nat → Int32} {ν : Nat → Nat} {d3 d4 : Int32} {tc : Int64} {gw : Nat → Int64} (hI : IL as A h (CL Γ A φ z ν d3 d4 tc gw)) : hat as h (A 2) (aI Γ 300 (φ 2)) := hI.at 2 rfl
theorem K3 {Γ : gT} {as : List Nat} {A : Nat → Nat} {h : aH} {φ : fT} {z : Nat → Int32} {ν : Nat → Nat} {d3 d4 : Int32} {tc : Int64} {gw : Nat → Int64} (hI : IL as A h (CL Γ A φ z ν d3 d4 tc gw)) : hat as h (A 3) (ob 4 [.ref (A 4)]) := hI.at 3 rfl
theorem K4 {Γ : gT} {as : List Nat} {A : Nat → Nat} {h : aH} {φ : fT} {z : Nat → Int32} {ν : Nat → Nat} {d3 d4 : Int32} {tc : Int64} {gw : Nat → Int64} (hI : IL as A h (CL Γ A φ z ν d3 d4 tc gw)) : hat as h (A 4) (aI Γ 80 (φ 4)) := hI.at 4 rfl
theorem K5 {Γ : gT} {as : List Nat} {A : Nat → Nat} {h : aH} {φ : fT} {z : Nat → Int32} {ν : Nat → Nat} {d3 d4 : Int32} {tc : Int64} {gw : Nat → Int64} (hI : IL as A h (CL Γ A φ z ν d3 d4 tc gw)) : hat as h (A 5) (ob 4 [.ref (A 6)]) := hI.at 5 rfl
theorem K6 {Γ : gT} {as : List Nat} {A : Nat → Nat} {h : aH} {φ : fT} {z : Nat → Int32} {ν : Nat → Nat} {d3 d4 : Int32} {tc : Int64} {gw : Nat → Int64} (hI : IL as A h (CL Γ A φ z ν d3 d4 tc gw)) : hat as h (A 6) (aI Γ 80 (φ 6)) := hI.at 6 rfl
theorem K7 {Γ : gT} {as : List Nat} {A : Nat → Nat} {h : aH} {φ : fT} {z : Nat → Int32} {ν : Nat → Nat} {d3 d4 : Int32} {tc : Int64} {gw : Nat → Int64} (hI : IL as A h (CL Γ A φ z ν d3 d4 tc gw)) : hat as h (A 7) (ob 7 [.ref (A 8)]) := hI.at 7 rfl
theorem K8 {Γ : gT} {as : List Nat} {A : Nat → Nat} {h : aH} {φ : fT} {z : Nat → Int32} {ν : Nat → Nat} {d3 d4 : Int32} {tc : Int64} {gw : Nat → Int64} (hI : IL as A h (CL Γ A φ z ν d3 d4 tc gw)) : hat as h (A 8) (aI Γ 6 (φ 8)) := hI.at 8 rfl
theorem K9 {Γ : gT} {as : List Nat} {A : Nat → Nat} {h : aH} {φ : fT} {z : Nat → Int32} {ν : Nat → Nat} {d3 d4 : Int32} {tc : Int64} {gw : Nat → Int64} (hI : IL as A h (CL Γ A φ z ν d3 d4 tc gw)) : hat as h (A 9) (ob 3 [.int (φ 44 0), .int (φ 44 1), .int (φ 44 2), .int (φ 44 3), .int (z 19)]) := hI.at 9 rfl
theorem K10 {Γ : gT} {as : List Nat} {A : Nat → Nat} {h : aH} {φ : fT} {z : Nat → Int32} {ν : Nat → Nat} {d3 d4 : Int32} {tc : Int64} {gw : Nat → Int64} (hI : IL as A h (CL Γ A φ z ν d3 d4 tc gw)) : hat as h (A 10) (ob 0 [.ref (A 11), .ref (A 12), .ref (A 13), .int d3, .int d4]) := hI.at 10 rfl
theorem K11 {Γ : gT} {as : List Nat} {A : Nat → Nat} {h : aH} {φ : fT} {z : Nat → Int32} {ν : Nat → Nat} {d3 d4 : Int32} {tc : Int64} {gw : Nat → Int64} (hI : IL as A h (CL Γ A φ z ν d3 d4 tc gw)) : hat as h (A 11) (aI Γ 10 (φ 11)) := hI.at 11 rfl
theorem K12 {Γ : gT} {as : List Nat} {A : Nat → Nat} {h : aH} {φ : fT} {z : Nat → Int32} {ν : Nat → Nat} {d3 d4 : Int32} {tc : Int64} {gw : Nat → Int64} (hI : IL as A h (CL Γ A φ z ν d3 d4 tc gw)) : hat as h (A 12) (aI Γ 31 (φ 12)) := hI.at 12 rfl
theorem K13 {Γ : gT} {as : List Nat} {A : Nat → Nat} {h : aH} {φ : fT} {z : Nat → Int32} {ν : Nat → Nat} {d3 d4 : Int32} {tc : Int64} {gw : Nat → Int64} (hI : IL as A h (CL Γ A φ z ν d3 d4 tc gw)) : hat as h (A 13) (aI Γ 31 (φ 13)) := hI.at 13 rfl
theorem K14 {Γ : gT} {as : List Nat} {A : Nat → Nat} {h : aH} {φ : fT} {z : Nat → Int32} {ν : Nat → Nat} {d3 d4 : Int32} {tc : Int64} {gw : Nat → Int64} (hI : IL as A h (CL Γ A φ z ν d3 d4 tc gw)) : hat as h (A 14) (ob 2 [.ref (A 15)]) := hI.at 14 rfl
theorem K15 {Γ : gT} {as : List Nat} {A : Nat → Nat} {h : aH} {φ : fT} {z : Nat → Int32} {ν : Nat → Nat} {d3 d4 : Int32} {tc : Int64} {gw : Nat → Int64} (hI : IL as A h (CL Γ A φ z ν d3 d4 tc gw)) : hat as h (A 15) (aI Γ 27 (φ 15)) := hI.at 15 rfl
theorem K16 {Γ : gT} {as : List Nat} {A : Nat → Nat} {h : aH} {φ : fT} {z : Nat → Int32} {ν : Nat → Nat} {d3 d4 : Int32} {tc : Int64} {gw : Nat → Int64} (hI : IL as A h (CL Γ A φ z ν d3 d4 tc gw)) : hat as h (A 16) (aO Γ 2 (gI A)) := hI.at 16 rfl
theorem K17 {Γ : gT} {as : List Nat} {A : Nat → Nat} {h : aH} {φ : fT} {z : Nat → Int32} {ν : Nat → Nat} {d3 d4 : Int32} {tc : Int64} {gw : Nat → Int64} (hI : IL as A h (CL Γ A φ z ν d3 d4 tc gw)) : hat as h (A 17) (ob 1 [.ref (A 18), .int (φ 40 1), .int (φ 41 1), .int (φ 42 0)]) := hI.at 17 rfl
theorem K18 {Γ : gT} {as : List Nat} {A : Nat → Nat} {h : aH} {φ : fT} {z : Nat → Int32} {ν : Nat → Nat} {d3 d4 : Int32} {tc : Int64} {gw : Nat → Int64} (hI : IL as A h (CL Γ A φ z ν d3 d4 tc gw)) : hat as h (A 18) (ob 4 [.ref (A 19)]) := hI.at 18 rfl
theorem K19 {Γ : gT} {as : List Nat} {A : Nat → Nat} {h : aH} {φ : fT} {z : Nat → Int32} {ν : Nat → Nat} {d3 d4 : Int32} {tc : Int64} {gw : Nat → Int64} (hI : IL as A h (CL Γ A φ z ν d3 d4 tc gw)) : hat as h (A 19) (aI Γ 80 (φ 19)) := hI.at 19 rfl
theorem K20 {Γ : gT} {as : List Nat} {A : Nat → Nat} {h : aH} {φ : fT} {z : Nat → Int32} {ν : Nat → Nat} {d3 d4 : Int32} {tc : Int64} {gw : Nat → Int64} (hI : IL as A h (CL Γ A φ z ν d3 d4 tc gw)) : hat as h (A 20) (ob 1 [.ref (A 21), .int (φ 40 2), .int (φ 41 2), .int (φ 42 1)]) := hI.at 20 rfl
theorem K21 {Γ : gT} {as : List Nat} {A : Nat → Nat} {h : aH} {φ : fT} {z : Nat → Int32} {ν : Nat → Nat} {d3 d4 : Int32} {tc : Int64} {gw : Nat → Int64} (hI : IL as A h (CL Γ A φ z ν d3 d4 tc gw)) : hat as h (A 21) (ob 4 [.ref (A 22)]) := hI.at 21 rfl
theorem K22 {Γ : gT} {as : List Nat} {A : Nat → Nat} {h : aH} {φ : fT} {z : Nat → Int32} {ν : Nat → Nat} {d3 d4 : Int32} {tc : Int64} {gw : Nat → Int64} (hI : IL as A h (CL Γ A φ z ν d3 d4 tc gw)) : hat as h (A 22) (aI Γ 80 (φ 22)) := hI.at 22 rfl
theorem K23 {Γ : gT} {as : List Nat} {A : Nat → Nat} {h : aH} {φ : fT} {z : Nat → Int32} {ν : Nat → Nat} {d3 d4 : Int32} {tc : Int64} {gw : Nat → Int64} (hI : IL as A h (CL Γ A φ z ν d3 d4 tc gw)) : hat as h (A 23) (twn (A 24) (A 25) (A 26) (A 27) (ν 6)) := hI.at 23 rfl
theorem K24 {Γ : gT} {as : List Nat} {A : Nat → Nat} {h : aH} {φ : fT} {z : Nat → Int32} {ν : Nat → Nat} {d3 d4 : Int32} {tc : Int64} {gw : Nat → Int64} (hI : IL as A h (CL Γ A φ z ν d3 d4 tc gw)) : hat as h (A 24) (aI Γ 8 (φ 24)) := hI.at 24 rfl
theorem K25 {Γ : gT} {as : List Nat} {A : Nat → Nat} {h : aH} {φ : fT} {z : Nat → Int32} {ν : Nat → Nat} {d3 d4 : Int32} {tc : Int64} {gw : Nat → Int64} (hI : IL as A h (CL Γ A φ z ν d3 d4 tc gw)) : hat as h (A 25) (aI Γ 8 (φ 25)) := hI.at 25 rfl
theorem K26 {Γ : gT} {as : List Nat} {A : Nat → Nat} {h : aH} {φ : fT} {z : Nat → Int32} {ν : Nat → Nat} {d3 d4 : Int32} {tc : Int64} {gw : Nat → Int64} (hI : IL as A h (CL Γ A φ z ν d3 d4 tc gw)) : hat as h (A 26) (aI Γ 8 (φ 26)) := hI.at 26 rfl
theorem K27 {Γ : gT} {as : List Nat} {A : Nat → Nat} {h : aH} {φ : fT} {z : Nat → Int32} {ν : Nat → Nat} {d3 d4 : Int32} {tc : Int64} {gw : Nat → Int64} (hI : IL as A h (CL Γ A φ z ν d3 d4 tc gw)) : hat as h (A 27) (aI Γ 8 (φ 27)) := hI.at 27 rfl
theorem K28 {Γ : gT} {as : List Nat} {A : Nat → Nat} {h : aH} {φ : fT} {z : Nat → Int32} {ν : Nat → Nat} {d3 d4 : Int32} {tc : Int64} {gw : Nat → Int64} (hI : IL as A h (CL Γ A φ z ν d3 d4 tc gw)) : hat as h (A 28) (twn (A 29) (A 30) (A 31) (A 32) (ν 7)) := hI.at 28 rfl
theorem K29 {Γ : gT} {as : List Nat} {A : Nat → Nat} {h : aH} {φ : fT} {z : Nat → Int32} {ν : Nat → Nat} {d3 d4 : Int32} {tc : Int64} {gw : Nat → Int64} (hI : IL as A h (CL Γ A φ z ν d3 d4 tc gw)) : hat as h (A 29) (aI Γ 8 (φ 29)) := hI.at 29 rfl
theorem K30 {Γ : gT} {as : List Nat} {A : Nat → Nat} {h : aH} {φ : fT} {z : Nat → Int32} {ν : Nat → Nat} {d3 d4 : Int32} {tc : Int64} {gw : Nat → Int64} (hI : IL as A h (CL Γ A φ z ν d3 d4 tc gw)) : hat as h (A 30) (aI Γ 8 (φ 30)) := hI.at 30 rfl
theorem K31 {Γ : gT} {as : List Nat} {A : Nat → Nat} {h : aH} {φ : fT} {z : Nat → Int32} {ν : Nat → Nat} {d3 d4 : Int32} {tc : Int64} {gw : Nat → Int64} (hI : IL as A h (CL Γ A φ z ν d3 d4 tc gw)) : hat as h (A 31) (aI Γ 8 (φ 31)) := hI.at 31 rfl
theorem K32 {Γ : gT} {as : List Nat} {A : Nat → Nat} {h : aH} {φ : fT} {z : Nat → Int32} {ν : Nat → Nat} {d3 d4 : Int32} {tc : Int64} {gw : Nat → Int64} (hI : IL as A h (CL Γ A φ z ν d3 d4 tc gw)) : hat as h (A 32) (aI Γ 8 (φ 32)) := hI.at 32 rfl
theorem K33 {Γ : gT} {as : List Nat} {A : Nat → Nat} {h : aH} {φ : fT} {z : Nat → Int32} {ν : Nat → Nat} {d3 d4 : Int32} {tc : Int64} {gw : Nat → Int64} (hI : IL as A h (CL Γ A φ z ν d3 d4 tc gw)) : hat as h (A 33) (mo tc (rA A) z) := hI.at 33 rfl
theorem K34 {Γ : gT} {as : List Nat} {A : Nat → Nat} {h : aH} {φ : fT} {z : Nat → Int32} {ν : Nat → Nat} {d3 d4 : Int32} {tc : Int64} {gw : Nat → Int64} (hI : IL as A h (CL Γ A φ z ν d3 d4 tc gw)) : hat as h (A 34) (aB Γ 300 (φ 34)) := hI.at 34 rfl
theorem K35 {Γ : gT} {as : List Nat} {A : Nat → Nat} {h : aH} {φ : fT} {z : Nat → Int32} {ν : Nat → Nat} {d3 d4 : Int32} {tc : Int64} {gw : Nat → Int64} (hI : IL as A h (CL Γ A φ z ν d3 d4 tc gw)) : hat as h (A 35) (aI Γ 16 (φ 35)) := hI.at 35 rfl
theorem K36 {Γ : gT} {as : List Nat} {A : Nat → Nat} {h : aH} {φ : fT} {z : Nat → Int32} {ν : Nat → Nat} {d3 d4 : Int32} {tc : Int64} {gw : Nat → Int64} (hI : IL as A h (CL Γ A φ z ν d3 d4 tc gw)) : hat as h (A 36) (aI Γ 16 (φ 36)) := hI.at 36 rfl
theorem K37 {Γ : gT} {as : List Nat} {A : Nat → Nat} {h : aH} {φ : fT} {z : Nat → Int32} {ν : Nat → Nat} {d3 d4 : Int32} {tc : Int64} {gw : Nat → Int64} (hI : IL as A h (CL Γ A φ z ν d3 d4 tc gw)) : hat as h (A 37) (aI Γ 16 (φ 37)) := hI.at 37 rfl
theorem K38 {Γ : gT} {as : List Nat} {A : Nat → Nat} {h : aH} {φ : fT} {z : Nat → Int32} {ν : Nat → Nat} {d3 d4 : Int32} {tc : Int64} {gw : Nat → Int64} (hI : IL as A h (CL Γ A φ z ν d3 d4 tc gw)) : hat as h (A 38) (aI Γ 16 (φ 38)) := hI.at 38 rfl
theorem K39 {Γ : gT} {as : List Nat} {A : Nat → Nat} {h : aH} {φ : fT} {z : Nat → Int32} {ν : Nat → Nat} {d3 d4 : Int32} {tc : Int64} {gw : Nat → Int64} (hI : IL as A h (CL Γ A φ z ν d3 d4 tc gw)) : hat as h (A 39) (aI Γ 240 (φ 4)) := hI.at 39 rfl
theorem K40 {Γ : gT} {as : List Nat} {A : Nat → Nat} {h : aH} {φ : fT} {z : Nat → Int32} {ν : Nat → Nat} {d3 d4 : Int32} {tc : Int64} {gw : Nat → Int64} (hI : IL as A h (CL Γ A φ z ν d3 d4 tc gw)) : hat as h (A 40) (aI Γ 3 (φ 40)) := hI.at 40 rfl
theorem K41 {Γ : gT} {as : List Nat} {A : Nat → Nat} {h : aH} {φ : fT} {z : Nat → Int32} {ν : Nat → Nat} {d3 d4 : Int32} {tc : Int64} {gw : Nat → Int64} (hI : IL as A h (CL Γ A φ z ν d3 d4 tc gw)) : hat as h (A 41) (aI Γ 3 (φ 41)) := hI.at 41 rfl
theorem K42 {Γ : gT} {as : List Nat} {A : Nat → Nat} {h : aH} {φ : fT} {z : Nat → Int32} {ν : Nat → Nat} {d3 d4 : Int32} {tc : Int64} {gw : Nat → Int64} (hI : IL as A h (CL Γ A φ z ν d3 d4 tc gw)) : hat as h (A 42) (aZ Γ 2 (φ 42)) := hI.at 42 rfl
theorem K43 {Γ : gT} {as : List Nat} {A : Nat → Nat} {h : aH} {φ : fT} {z : Nat → Int32} {ν : Nat → Nat} {d3 d4 : Int32} {tc : Int64} {gw : Nat → Int64} (hI : IL as A h (CL Γ A φ z ν d3 d4 tc gw)) : hat as h (A 43) (aI Γ 6 (φ 8)) := hI.at 43 rfl
theorem K44 {Γ : gT} {as : List Nat} {A : Nat → Nat} {h : aH} {φ : fT} {z : Nat → Int32} {ν : Nat → Nat} {d3 d4 : Int32} {tc : Int64} {gw : Nat → Int64} (hI : IL as A h (CL Γ A φ z ν d3 d4 tc gw)) : hat as h (A 44) (aI Γ 4 (φ 44)) := hI.at 44 rfl
theorem K45 {Γ : gT} {as : List Nat} {A : Nat → Nat} {h : aH} {φ : fT} {z : Nat → Int32} {ν : Nat → Nat} {d3 d4 : Int32} {tc : Int64} {gw : Nat → Int64} (hI : IL as A h (CL Γ A φ z ν d3 d4 tc gw)) : hat as h (A 45) (aJ Γ 10 gw) := hI.at 45 rfl
theorem K46 {Γ : gT} {as : List Nat} {A : Nat → Nat} {h : aH} {φ : fT} {z : Nat → Int32} {ν : Nat → Nat} {d3 d4 : Int32} {tc : Int64} {gw : Nat → Int64} (hI : IL as A h (CL Γ A φ z ν d3 d4 tc gw)) : hat as h (A 46) (aZ Γ 10 (φ 46)) := hI.at 46 rfl
theorem K47 {Γ : gT} {as : List Nat} {A : Nat → Nat} {h : aH} {φ : fT} {z : Nat → Int32} {ν : Nat → Nat} {d3 d4 : Int32} {tc : Int64} {gw : Nat → Int64} (hI : IL as A h (CL Γ A φ z ν d3 d4 tc gw)) : hat as h (A 47) (aI Γ 80 (φ 47)) := hI.at 47 rfl
theorem K48 {Γ : gT} {as : List Nat} {A : Nat → Nat} {h : aH} {φ : fT} {z : Nat → Int32} {ν : Nat → Nat} {d3 d4 : Int32} {tc : Int64} {gw : Nat → Int64} (hI : IL as A h (CL Γ A φ z ν d3 d4 tc gw)) : hat as h (A 48) (aI Γ 27 (φ 15)) := hI.at 48 rfl

