/-! rules for Math.min and System.arraycopy; locals by a list of looks; sums -/
def lin (ls : List (Nat × Value)) : List (Nat × Value) → Prop
  | [] => True
  | q :: r => lk q.1 ls = some q.2 ∧ lin ls r
theorem lin_all {ls : List (Nat × Value)} : ∀ {ls' : List (Nat × Value)}, lin ls ls' → ∀ q ∈ ls', lk q.1 ls = some q.2
  | [], _, q, hq => by cases hq
  | q0 :: r, h, q, hq => by
    rcases List.mem_cons.mp hq with rfl | hq
    · exact h.1
    · exact lin_all h.2 q hq
section Rules2
variable {Γ : gT} {l : Launch} {μ : mT} {R : Room} {Z : zT} {kc ks pc : Nat} {ls : List (Nat × Value)} {st : List Value} {as : List Nat} {h : aH}
/-- the loop's head again: the listed locals hold -/
theorem V.at {ls' : List (Nat × Value)} (k : V Γ l μ R Z kc ks pc ls' st as h) (hs : lin ls ls') : V Γ l μ R Z kc ks pc ls st as h := V.locs ls' (lin_all hs) k
theorem V.stk {st' : List Value} (k : V Γ l μ R Z kc ks pc ls st' as h) (hs : st = st') : V Γ l μ R Z kc ks pc ls st as h := hs ▸ k
theorem V.hp {h' : aH} (k : V Γ l μ R Z kc ks pc ls st as h') (hs : h = h') : V Γ l μ R Z kc ks pc ls st as h := hs ▸ k
theorem q_iinc1 {i : Nat} {x : Int32} (hd : decode μ.2.2.1 pc = .ok (.iinc i 1, 3)) (hk : lk i ls = some (.int x)) (hb : i < μ.2.2.2.1) (k : V Γ l μ R Z kc ks (pc + 3) (lst i (.int (x + 1)) ls) st as h) : V Γ l μ R Z kc ks pc ls st as h := q_iinc hd hk rfl hb k
theorem q_iincM {i : Nat} {x : Int32} (hd : decode μ.2.2.1 pc = .ok (.iinc i (-1), 3)) (hk : lk i ls = some (.int x)) (hb : i < μ.2.2.2.1) (k : V Γ l μ R Z kc ks (pc + 3) (lst i (.int (x + (-1))) ls) st as h) : V Γ l μ R Z kc ks pc ls st as h := q_iinc hd hk rfl hb k
theorem q_iinc5 {i : Nat} {x : Int32} (hd : decode μ.2.2.1 pc = .ok (.iinc i 5, 3)) (hk : lk i ls = some (.int x)) (hb : i < μ.2.2.2.1) (k : V Γ l μ R Z kc ks (pc + 3) (lst i (.int (x + 5)) ls) st as h) : V Γ l μ R Z kc ks pc ls st as h := q_iinc hd hk rfl hb k
theorem q_mmin {index : Nat} {x y : Int32} (hd : decode μ.2.2.1 pc = .ok (.invokestatic index, 3)) (hw : ∀ w ∈ ([.methodLink μ.2.1 index Lib.Math.min.name, .static Lib.Math.min.name, .initialized "java/lang/Math", .code Lib.Math.min.name Lib.Math.min.code 2 (some .int)] : List Cond), w ∈ μ.2.2.2.2.2) (hfr : 1 ≤ R.frames) (hlo : (st.map fun v => v.category).sum + 13 ≤ R.locals) (hkc : kc ≤ R.cells) (hks : ks ≤ R.slots) (k : V Γ l μ R Z kc ks (pc + 3) ls (.int (if y < x then y else x) :: st) as h) : V Γ l μ R Z kc ks pc ls (.int y :: .int x :: st) as h := by
  intro p e s m args below meth c H locs lsA C ho hP hS hl
  have hts := C.2.2.2.2.2.1
  exact va_mmin C.1 C.2.1 (C.2.2.2.1.trans hl.1.symm) C.2.2.2.2.1 (hts _ (hw _ (by simp))) (hts _ (hw _ (by simp))) (hts _ (hw _ (by simp))) (hts _ (hw _ (by simp))) hfr hlo hkc hks hd (k p e s m args below meth c H locs lsA C ho hP hS hl)
/-- System.arraycopy of a whole array of N ints -/
theorem q_copy {index a0 a N : Nat} {f g : Nat → Int32} (hd : decode μ.2.2.1 pc = .ok (.invokestatic index, 3)) (hw : ∀ w ∈ ([.methodLink μ.2.1 index arraycopyName, .native arraycopyName, .static arraycopyName, .initialized "java/lang/System"] : List Cond), w ∈ μ.2.2.2.2.2) (ha0 : hat as h a0 (aI Γ N f)) (ha : hat as h a (aI Γ N g)) (hN : N < 2 ^ 31) (hfr : 1 ≤ R.frames) (hlo : (st.map fun v => v.category).sum + (nativeFrameWords "java/lang/System" "arraycopy" 5 + 11) ≤ R.locals)
    (k : V Γ l μ R Z kc ks (pc + 3) ls st as (hset h a (aI Γ N (va_cpy f g 0 0 N)))) : V Γ l μ R Z kc ks pc ls (.int (nI N) :: .int 0 :: .ref a :: .int 0 :: .ref a0 :: st) as h := by
  intro p e s m args below meth c H locs lsA C ho hP hS hl
  have hts := C.2.2.2.2.2.1
  obtain ⟨j0, hj0, hw0⟩ := wW_at ha0
  obtain ⟨j, hj, hwj⟩ := wW_at ha
  refine va_copyi (D := Γ.1) (ty := .int) C.1 C.2.1 (C.2.2.2.1.trans hl.1.symm) C.2.2.2.2.1 (hts _ (hw _ (by simp))) (hts _ (hw _ (by simp))) (hts _ (hw _ (by simp))) (hts _ (hw _ (by simp))) C.2.2.2.2.2.2.2.2.1 hP (wW_D ho) hS j0 j 1 1 hw0 hwj rfl rfl rfl (by decide) (by decide) (nI_pos hN) (by rw [nI_clamp hN]; show (0 : Int32).toNatClampNeg + N ≤ N; rw [show (0 : Int32).toNatClampNeg = 0 from rfl]; omega) (by rw [nI_clamp hN]; show (0 : Int32).toNatClampNeg + N ≤ N; rw [show (0 : Int32).toNatClampNeg = 0 from rfl]; omega) (fun i _ => rfl) hfr hlo hd (fun H1 locs1 hP1 _ hS1 => ?_)
  rw [wW_set ho.1 hj, nI_clamp hN] at hP1
  exact k p e s m args below meth c H1 locs1 lsA C ho hP1 hS1 hl
end Rules2
/-- the sum of k of g from a on -/
def sr (g : Nat → Int32) (a : Nat) : Nat → Int32
  | 0 => 0
  | k + 1 => sr g a k + g (a + k)
theorem ix10 (p w : Nat) : nI p * 10 + nI w = nI (p * 10 + w) := by rw [show (10 : Int32) = nI 10 from rfl, pk_mul, nI_add]
theorem in_nI {k N : Nat} (h : k < N) (hN : N < 2 ^ 31) : vp_in (nI k) N := vp_in_nI h hN
theorem in10 {p w : Nat} (hp : p < 8) (hw : w < 10) : vp_in (nI p * 10 + nI w) 80 := by rw [ix10]; exact vp_in_nI (by omega) (by omega)
theorem cl10 {p w : Nat} (hp : p < 8) (hw : w < 10) : (nI p * 10 + nI w).toNatClampNeg = p * 10 + w := by rw [ix10]; exact nI_clamp (by omega)
theorem lt_c {k : Nat} (N : Nat) {c : Int32} (hc : c = nI N) (h : k < N) (hN : N < 2 ^ 31) : ¬ c ≤ nI k := by rw [hc]; exact nI_ge h hN
theorem ge_c {k : Nat} (N : Nat) {c : Int32} (hc : c = nI N) (h : N ≤ k) (hk : k < 2 ^ 31) : c ≤ nI k := by rw [hc]; exact nI_le h hk
theorem nI_s (k : Nat) : nI k + 1 = nI (k + 1) := nI_1 k

