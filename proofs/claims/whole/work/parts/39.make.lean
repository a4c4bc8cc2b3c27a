/-! MAKING: worlds as lists of cells; one rule an instruction of the constructors -/
def U (Γ : gT) (l : Launch) (μ : mT) (R : Room) (Z : zT) (kc ks pc : Nat) (ls : List (Nat × Value)) (st : List Value) (ws : va_W) : Prop :=
  ∀ (p : Program) (e : Env) (s : State) (m : MethodId) (args : Array Value) (below : List Frame) (meth : Method) (c : Code) (H : Heap) (locs : List Loc) (lsA : Array Slot),
    Ctx Γ μ p s m args meth c → va_D (gA Γ) ws → va_P Γ.1 vwCl ws H → va_S (gA Γ) s.heap H locs → lv_has lsA μ.2.2.2.1 ls →
    W p l e R s m args below meth c H locs kc ks (Z below args s) (F0 m pc lsA st)
abbrev quT : Type := Option Value → va_W → Prop
def QcU (Γ : gT) (Q : quT) : Array Value → State → Outcome → State → Prop := fun _ st oc t => (∃ (r : Option Value) (ws' : va_W), oc = .returned r ∧ Q r ws' ∧ va_D (gA Γ) ws' ∧ va_P Γ.1 vwCl ws' t.heap ∧ va_K Γ.1 vwCl (tysG Γ) t) ∧ va_F (gA Γ) st t
def Zu (Γ : gT) (R : Room) (Q : quT) : zT := fun below args s => MQ below (QcU Γ Q) args s R.cells R.slots (gA Γ)
def PcU (Γ : gT) (av : List Value) (ws : va_W) : Array Value → State → Prop := va_Pc av (fun U => (va_D (gA Γ) ws ∧ va_P Γ.1 vwCl ws U.heap ∧ va_K Γ.1 vwCl (tysG Γ) U) ∧ EXT Γ U U.heap ∧ gB Γ ≤ U.heap.size)
def ConU (Γ : gT) (l : Launch) (μ : mT) (R : Room) (av : List Value) (ws : va_W) (Q : quT) : Prop := Met l μ.1 μ.2.2.2.2.2 R (PcU Γ av ws) (QcU Γ Q) R.cells R.slots (gA Γ)
theorem PcU_blind {Γ : gT} {av : List Value} {ws : va_W} : FrameBlind (PcU Γ av ws) := by
  intro a U g mk q
  obtain ⟨e, ⟨q1, q2, q3⟩, qE, qB⟩ := q
  exact ⟨e, ⟨q1, q2, va_K.moved (u := U) (U := U.calling g mk a) (Vm.Alike.refl U.vm) q3⟩, EXT.same (u := U) (U := U.calling g mk a) rfl qE, qB⟩
theorem ConU.of {Γ : gT} {l : Launch} {μ : mT} {R : Room} {ws : va_W} {av : List Value} {Q : quT} {ws' : List Cond} (hy : plainName μ.1.cls = true) (hw : μ.2.2.2.2.2 = Cond.code μ.1 μ.2.2.1 μ.2.2.2.1 μ.2.2.2.2.1 :: ws') (ho : μ.2.1 = μ.1.cls) (hlen : (lg_sl av).length ≤ μ.2.2.2.1)
    (k : U Γ l μ R (Zu Γ R Q) 0 0 0 (lv_args 0 av) [] ws) : ConU Γ l μ R av ws Q := by
  refine Met.ofW (cc := μ.2.2.1) (maxL := μ.2.2.2.1) (ret := μ.2.2.2.2.1) hy hw ?_
  intro p e s m args below meth c s₁ B hml hv
  obtain ⟨rfl, ⟨hn, hP, hK⟩, hE, hB⟩ := hv
  have hx := B.exec
  have hb := B.bytes
  have hr := B.returns
  have hts := atoms_spec (ws := μ.2.2.2.2.2) B.pre
  have hown : s.vm.findClass μ.1.cls = some m.cls := findClass_of_methodNamed B.named
  have hlocks := B.notSynchronized
  have hin : meth.name = μ.1.name := (name_of_methodNamed B.named B.method).1
  have hl := lv_entry av (n := μ.2.2.2.1) hlen
  rw [lg_entry_eq]
  exact k p e s m _ below meth c s.heap [] _ ⟨hx, hb, hr, hml, by rw [ho]; exact hown, hts, hlocks, hin, hK, hE, hB⟩ hn hP va_S.rf hl
section RulesU
variable {Γ : gT} {l : Launch} {μ : mT} {R : Room} {Z : zT} {kc ks pc : Nat} {ls : List (Nat × Value)} {st : List Value} {ws : va_W}
theorem U.w {ws' : va_W} (k : U Γ l μ R Z kc ks pc ls st ws') (hs : ws = ws') : U Γ l μ R Z kc ks pc ls st ws := hs ▸ k
theorem u_aload_n {k0 : Fin 4} {i x : Nat} (hd : decode μ.2.2.1 pc = .ok (.aload_n k0, 1)) (hi : (k0 : Nat) = i) (hk : lk i ls = some (.ref x)) (k : U Γ l μ R Z kc ks (pc + 1) ls (.ref x :: st) ws) : U Γ l μ R Z kc ks pc ls st ws := by
  intro p e s m args below meth c H locs lsA C ho hP hS hl
  exact lv_aload_n C.1 C.2.1 hd hi (lk_at hl hk) (k p e s m args below meth c H locs lsA C ho hP hS hl)
theorem u_iload_n {k0 : Fin 4} {i : Nat} {x : Int32} (hd : decode μ.2.2.1 pc = .ok (.iload_n k0, 1)) (hi : (k0 : Nat) = i) (hk : lk i ls = some (.int x)) (k : U Γ l μ R Z kc ks (pc + 1) ls (.int x :: st) ws) : U Γ l μ R Z kc ks pc ls st ws := by
  intro p e s m args below meth c H locs lsA C ho hP hS hl
  exact lv_iload_n C.1 C.2.1 hd hi (lk_at hl hk) (k p e s m args below meth c H locs lsA C ho hP hS hl)
theorem u_iconst {z : Int} {v : Int32} (hd : decode μ.2.2.1 pc = .ok (.iconst z, 1)) (hv : Int32.ofInt z = v) (k : U Γ l μ R Z kc ks (pc + 1) ls (.int v :: st) ws) : U Γ l μ R Z kc ks pc ls st ws := by
  intro p e s m args below meth c H locs lsA C ho hP hS hl
  exact lv_iconst C.1 C.2.1 hd hv (k p e s m args below meth c H locs lsA C ho hP hS hl)
theorem u_lconst {z : Fin 2} {v : Int64} (hd : decode μ.2.2.1 pc = .ok (.lconst z, 1)) (hv : Int64.ofNat z = v) (k : U Γ l μ R Z kc ks (pc + 1) ls (.long v :: st) ws) : U Γ l μ R Z kc ks pc ls st ws := by
  intro p e s m args below meth c H locs lsA C ho hP hS hl
  exact lv_lconst C.1 C.2.1 hd hv (k p e s m args below meth c H locs lsA C ho hP hS hl)
theorem u_bipush {z : Int} {v : Int32} (hd : decode μ.2.2.1 pc = .ok (.bipush z, 2)) (hv : (Int8.ofInt z).toInt32 = v) (k : U Γ l μ R Z kc ks (pc + 2) ls (.int v :: st) ws) : U Γ l μ R Z kc ks pc ls st ws := by
  intro p e s m args below meth c H locs lsA C ho hP hS hl
  exact lv_bipush C.1 C.2.1 hd hv (k p e s m args below meth c H locs lsA C ho hP hS hl)
theorem u_sipush {z : Int} {v : Int32} (hd : decode μ.2.2.1 pc = .ok (.sipush z, 3)) (hv : (Int16.ofInt z).toInt32 = v) (k : U Γ l μ R Z kc ks (pc + 3) ls (.int v :: st) ws) : U Γ l μ R Z kc ks pc ls st ws := by
  intro p e s m args below meth c H locs lsA C ho hP hS hl
  exact lv_sipush C.1 C.2.1 hd hv (k p e s m args below meth c H locs lsA C ho hP hS hl)
theorem u_dup {v : Value} (hd : decode μ.2.2.1 pc = .ok (.dup, 1)) (hv : v.category = 1) (k : U Γ l μ R Z kc ks (pc + 1) ls (v :: v :: st) ws) : U Γ l μ R Z kc ks pc ls (v :: st) ws := by
  intro p e s m args below meth c H locs lsA C ho hP hS hl
  exact lv_dup C.1 C.2.1 hd hv (k p e s m args below meth c H locs lsA C ho hP hS hl)
theorem u_istore_n {k0 : Fin 4} {i : Nat} {x : Int32} (hd : decode μ.2.2.1 pc = .ok (.istore_n k0, 1)) (hi : (k0 : Nat) = i) (hb : i < μ.2.2.2.1) (k : U Γ l μ R Z kc ks (pc + 1) (lst i (.int x) ls) st ws) : U Γ l μ R Z kc ks pc ls (.int x :: st) ws := by
  intro p e s m args below meth c H locs lsA C ho hP hS hl
  exact lv_istore_n C.1 C.2.1 hd hi hl hb rfl (fun lsB hl => k p e s m args below meth c H locs lsB C ho hP hS hl)
theorem u_astore_n {k0 : Fin 4} {i x : Nat} (hd : decode μ.2.2.1 pc = .ok (.astore_n k0, 1)) (hi : (k0 : Nat) = i) (hb : i < μ.2.2.2.1) (k : U Γ l μ R Z kc ks (pc + 1) (lst i (.ref x) ls) st ws) : U Γ l μ R Z kc ks pc ls (.ref x :: st) ws := by
  intro p e s m args below meth c H locs lsA C ho hP hS hl
  exact lv_astore_n C.1 C.2.1 hd hi hl hb rfl (fun lsB hl => k p e s m args below meth c H locs lsB C ho hP hS hl)
theorem u_goto {off : Int} (tgt : Nat) (hd : decode μ.2.2.1 pc = .ok (.goto off, 3)) (ht : (pc : Int) + off = (tgt : Int)) (k : U Γ l μ R Z kc ks tgt ls st ws) : U Γ l μ R Z kc ks pc ls st ws := by
  intro p e s m args below meth c H locs lsA C ho hP hS hl
  exact lv_goto C.1 C.2.1 hd ht (k p e s m args below meth c H locs lsA C ho hP hS hl)
theorem u_icmp_ge {x y : Int32} {off : Int} (tgt : Nat) (hd : decode μ.2.2.1 pc = .ok (.if_icmp .ge off, 3)) (ht : (pc : Int) + off = (tgt : Int)) (kt : y ≤ x → U Γ l μ R Z kc ks tgt ls st ws) (kf : ¬ y ≤ x → U Γ l μ R Z kc ks (pc + 3) ls st ws) : U Γ l μ R Z kc ks pc ls (.int y :: .int x :: st) ws := by
  intro p e s m args below meth c H locs lsA C ho hP hS hl
  exact lv_icmp_ge C.1 C.2.1 hd ht (fun z => kt z p e s m args below meth c H locs lsA C ho hP hS hl) (fun z => kf z p e s m args below meth c H locs lsA C ho hP hS hl)
theorem u_iinc1 {i : Nat} {x : Int32} (hd : decode μ.2.2.1 pc = .ok (.iinc i 1, 3)) (hk : lk i ls = some (.int x)) (hb : i < μ.2.2.2.1) (k : U Γ l μ R Z kc ks (pc + 3) (lst i (.int (x + 1)) ls) st ws) : U Γ l μ R Z kc ks pc ls st ws := by
  intro p e s m args below meth c H locs lsA C ho hP hS hl
  obtain ⟨j, hj⟩ := List.getElem?_of_mem (lk_mem hk)
  exact lv_iinc C.1 C.2.1 hd hl (k := j) hj rfl hb rfl (fun lsB hl => k p e s m args below meth c H locs lsB C ho hP hS hl)
theorem U.at {ls' : List (Nat × Value)} (k : U Γ l μ R Z kc ks pc ls' st ws) (hs : lin ls ls') : U Γ l μ R Z kc ks pc ls st ws := by
  intro p e s m args below meth c H locs lsA C hn hP hS hl
  exact k p e s m args below meth c H locs lsA C hn hP hS ⟨hl.1, hl.2.1, fun q hq => lk_at hl (lin_all hs q hq)⟩
theorem u_get {index ci k0 a : Nat} {fs : List Value} {v : Value} (i : Nat) (hd : decode μ.2.2.1 pc = .ok (.getfield index, 3)) (hf : FL μ index ci k0) (ha : ws[i]? = some (a, ob ci fs)) (hv : fs[k0]? = some v) (k : U Γ l μ R Z kc ks (pc + 3) ls (v :: st) ws) : U Γ l μ R Z kc ks pc ls (.ref a :: st) ws := by
  intro p e s m args below meth c H locs lsA C ho hP hS hl
  obtain ⟨C0, T, N, hc, hk, hin, hlk⟩ := hf
  exact va_get (D := Γ.1) C.1 C.2.1 C.2.2.2.2.2.1 hin C.2.2.2.2.1 C.2.2.2.2.2.2.2.2.1 hP i ha hc k0 hk (C.2.2.2.2.2.1 _ hlk) (fun _ z => z) hv hd (k p e s m args below meth c H locs lsA C ho hP hS hl)
theorem u_put {index ci k0 a : Nat} {fs : List Value} {v : Value} {ty : FieldType} (i : Nat) (hd : decode μ.2.2.1 pc = .ok (.putfield index, 3)) (hf : FP μ index ci k0 ty false) (ha : ws[i]? = some (a, ob ci fs)) (hn : narrow ty v = v) (hfit : fits ty v = true) (hlen : k0 < fs.length) (k : U Γ l μ R Z kc ks (pc + 3) ls st (ws.set i (a, ob ci (fs.set k0 v)))) : U Γ l μ R Z kc ks pc ls (v :: .ref a :: st) ws := by
  intro p e s m args below meth c H locs lsA C ho hP hS hl
  obtain ⟨C0, T, N, ty0, hc, hk, hin, hlk, hty, hnm, hfin, hdd, hdc⟩ := hf
  exact va_put (D := Γ.1) C.1 C.2.1 C.2.2.2.2.2.1 hin ty0 hty hnm C.2.2.2.2.1 C.2.2.2.2.2.2.2.2.1 hP ho hS i ha hc k0 hk (C.2.2.2.2.2.1 _ hlk) (fun _ z => z) hfin (hty k0 hk) (by rw [hdd]; exact hn) (by rw [hdd]; exact hfit) hlen hd (fun H1 locs1 hP1 hD1 hS1 => k p e s m args below meth c H1 locs1 lsA C hD1 hP1 hS1 hl)
theorem u_putF {index ci k0 a : Nat} {fs : List Value} {v : Value} {ty : FieldType} (i : Nat) (hd : decode μ.2.2.1 pc = .ok (.putfield index, 3)) (hf : FP μ index ci k0 ty true) (hini : μ.1.name = "<init>") (ha : ws[i]? = some (a, ob ci fs)) (hn : narrow ty v = v) (hfit : fits ty v = true) (hlen : k0 < fs.length) (k : U Γ l μ R Z kc ks (pc + 3) ls st (ws.set i (a, ob ci (fs.set k0 v)))) : U Γ l μ R Z kc ks pc ls (v :: .ref a :: st) ws := by
  intro p e s m args below meth c H locs lsA C ho hP hS hl
  obtain ⟨C0, T, N, ty0, hc, hk, hin, hlk, hty, hnm, hfin, hdd, hdc⟩ := hf
  exact va_putF (D := Γ.1) C.1 C.2.1 C.2.2.2.2.2.1 hin ty0 hty hnm C.2.2.2.2.1 C.2.2.2.2.2.2.2.2.1 hP ho hS i ha hc k0 hk (C.2.2.2.2.2.1 _ hlk) (fun _ z => z) hfin (C.2.2.2.2.2.2.2.1.trans hini) (hdc rfl) (hty k0 hk) (by rw [hdd]; exact hn) (by rw [hdd]; exact hfit) hlen hd (fun H1 locs1 hP1 hD1 hS1 => k p e s m args below meth c H1 locs1 lsA C hD1 hP1 hS1 hl)
theorem u_iast {a N : Nat} {f : Nat → Int32} {i : Int32} {x : Int32} (j : Nat) (hd : decode μ.2.2.1 pc = .ok (.iastore, 1)) (ha : ws[j]? = some (a, aI Γ N f)) (hin : vp_in i N) (k : U Γ l μ R Z kc ks (pc + 1) ls st (ws.set j (a, aI Γ N (upd f i.toNatClampNeg x)))) : U Γ l μ R Z kc ks pc ls (.int x :: .int i :: .ref a :: st) ws := by
  intro p e s m args below meth c H locs lsA C ho hP hS hl
  exact va_iast (D := Γ.1) C.1 C.2.1 C.2.2.2.2.2.2.2.2.1 hP ho hS j 1 ha rfl hin hd (fun H1 locs1 hP1 hD1 hS1 => k p e s m args below meth c H1 locs1 lsA C hD1 hP1 hS1 hl)
theorem u_aast {a N v ci : Nat} {vs : List Value} {T : u_T} {n0 : Nat} {f : Nat → Option Nat} {i : Int32} (j qk : Nat) (hd : decode μ.2.2.1 pc = .ok (.aastore, 1)) (ha : ws[j]? = some (a, aO Γ N f)) (hv : ws[qk]? = some (v, ob ci vs)) (hc : vwCl[ci]? = some ("LightCoins$Image", T, n0)) (hin : vp_in i N) (k : U Γ l μ R Z kc ks (pc + 1) ls st (ws.set j (a, aO Γ N (va_up f i.toNatClampNeg (some v))))) : U Γ l μ R Z kc ks pc ls (.ref v :: .int i :: .ref a :: st) ws := by
  intro p e s m args below meth c H locs lsA C ho hP hS hl
  exact va_astq (D := Γ.1) C.1 C.2.1 C.2.2.2.2.2.2.2.2.1 hP ho hS j 4 qk ci ha rfl hv hc hin hd (fun H1 locs1 hP1 hD1 hS1 => k p e s m args below meth c H1 locs1 lsA C hD1 hP1 hS1 hl)
theorem u_obj {index a : Nat} (hd : decode μ.2.2.1 pc = .ok (.invokespecial index, 3)) (hw : ∀ w ∈ ([.methodLink μ.2.1 index objectInit, .instanceMethod objectInit, .code objectInit ⟨#[0xb1]⟩ 1 none] : List Cond), w ∈ μ.2.2.2.2.2) (hfr : 1 ≤ R.frames) (hlo : (st.map fun v => v.category).sum + 12 ≤ R.locals) (k : U Γ l μ R Z kc ks (pc + 3) ls st ws) : U Γ l μ R Z kc ks pc ls (.ref a :: st) ws := by
  intro p e s m args below meth c H locs lsA C ho hP hS hl
  have hts := C.2.2.2.2.2.1
  refine W.objInit C.1 C.2.1 C.2.2.2.2.1 (hts _ (hw _ (by simp))) (hts _ (hw _ (by simp))) (hts _ (hw _ (by simp))) rfl (hl.1.trans C.2.2.2.1.symm) rfl hd hfr (by show 2 * 0 + _ + 12 ≤ _; omega) ?_
  exact k p e s m args below meth c H locs lsA C ho hP hS hl
theorem raEq {s : State} {cA c0 : ClassId} {ty : FieldType} (h1 : va_RA s cA ty) (h2 : va_RA s c0 ty) : cA = c0 := by
  cases ty with
  | object C =>
    obtain ⟨_, _, _, _, _, e1⟩ := h1
    obtain ⟨_, _, _, _, _, e2⟩ := h2
    exact Option.some.inj (e1.symm.trans e2)
  | _ => exact Option.some.inj (Eq.trans (Eq.symm h1) h2)
theorem u_newa {atype : ArrayType} {ty : FieldType} {n : Int32} {N t0 : Nat} {cc : ClassId} {a0 : vp_A} (hd : decode μ.2.2.1 pc = .ok (.newarray atype, 2)) (hw : Cond.arrayClass (newarray.typeOf atype) ∈ μ.2.2.2.2.2) (hty : newarray.typeOf atype = ty) (ht : (tysG Γ)[t0]? = some (cc, ty)) (ha : ∀ cA : ClassId, vp_cell cA a0 = arrV cA N (fun _ => defaultValue ty)) (hn : ¬ n < 0) (hN : n.toNatClampNeg = N) (hby : N * componentBytes ty ≤ 536870912) (hc : kc + 1 ≤ R.cells) (hs : ks + N ≤ R.slots) (k : ∀ q : Nat, U Γ l μ R Z (kc + 1) (ks + N) (pc + 2) ls (.ref q :: st) (ws ++ [(q, .inl (cc, a0))])) : U Γ l μ R Z kc ks pc ls (.int n :: st) ws := by
  intro p e s m args below meth c H locs lsA C ho hP hS hl
  refine va_newa (D := Γ.1) C.1 C.2.1 (C.2.2.2.2.2.1 _ hw) hty C.2.2.2.2.2.2.2.2.1 hP ho hS (fun q hq => Nat.le_trans C.2.2.2.2.2.2.2.2.2.2 hq) ha hn hN hby hc hs hd (fun q cA H1 hK1 hP1 hD1 hS1 => ?_)
  have hl1 : (tysG Γ ++ [(cA, ty)])[(tysG Γ).length]? = some (cA, ty) := by rw [List.getElem?_append_right (Nat.le_refl _)]; simp
  have e1 : cA = cc := raEq (hK1.2 _ _ hl1).2 (C.2.2.2.2.2.2.2.2.1.2 _ _ ht).2
  subst e1
  exact k q p e s m args below meth c H1 locs lsA C hD1 hP1 hS1 hl
theorem u_newq {index : Nat} {n : Int32} {N : Nat} (hd : decode μ.2.2.1 pc = .ok (.anewarray index, 3)) (hw : Cond.classLink μ.2.1 index "LightCoins$Image" ∈ μ.2.2.2.2.2) (hn : ¬ n < 0) (hN : n.toNatClampNeg = N) (hby : N * 4 ≤ 536870912) (hc : kc + 1 ≤ R.cells) (hs : ks + N ≤ R.slots) (k : ∀ q : Nat, U Γ l μ R Z (kc + 1) (ks + N) (pc + 3) ls (.ref q :: st) (ws ++ [(q, aO Γ N (fun _ => none))])) : U Γ l μ R Z kc ks pc ls (.int n :: st) ws := by
  intro p e s m args below meth c H locs lsA C ho hP hS hl
  refine va_newq (D := Γ.1) C.1 C.2.1 C.2.2.2.2.1 (C.2.2.2.2.2.1 _ hw) C.2.2.2.2.2.2.2.2.2.1.2.2.2.2.2.2.2.2.2.2 C.2.2.2.2.2.2.2.2.1 hP ho hS (fun q hq => Nat.le_trans C.2.2.2.2.2.2.2.2.2.2 hq) hn hN hby hc hs hd (fun q cA H1 hK1 hP1 hD1 hS1 => ?_)
  have hl1 : (tysG Γ ++ [(cA, FieldType.object "LightCoins$Image")])[(tysG Γ).length]? = some (cA, FieldType.object "LightCoins$Image") := by rw [List.getElem?_append_right (Nat.le_refl _)]; simp
  have e1 : cA = Γ.2.1 4 := raEq (hK1.2 _ _ hl1).2 (C.2.2.2.2.2.2.2.2.1.2 4 (Γ.2.1 4, FieldType.object "LightCoins$Image") rfl).2
  subst e1
  exact k q p e s m args below meth c H1 locs lsA C hD1 hP1 hS1 hl
theorem u_new {index ci : Nat} {C0 : String} {T : u_T} {N : Nat} {ty : Nat → FieldType} {fs : List Value} (hd : decode μ.2.2.1 pc = .ok (.new index, 3)) (hc0 : vwCl[ci]? = some (C0, T, N)) (hin : ∀ w ∈ u_ws C0 T N, w ∈ μ.2.2.2.2.2) (hty : ∀ k, k < N → parseFieldDescriptor (T k).2.2.1 = some (ty k)) (hw : ∀ w ∈ ([.classLink μ.2.1 index C0, .instantiable C0 N, .initialized C0] : List Cond), w ∈ μ.2.2.2.2.2) (hfs : ∀ j, j < N → defaultValue (ty j) = vp_V fs j) (hc : kc + 1 ≤ R.cells) (hs : ks + N ≤ R.slots) (k : ∀ q : Nat, U Γ l μ R Z (kc + 1) (ks + N) (pc + 3) ls (.ref q :: st) (ws ++ [(q, ob ci fs)])) : U Γ l μ R Z kc ks pc ls st ws := by
  intro p e s m args below meth c H locs lsA C ho hP hS hl
  have hts := C.2.2.2.2.2.1
  refine va_new (D := Γ.1) C.1 C.2.1 hts hin ty hty C.2.2.2.2.1 (hts _ (hw _ (by simp))) (hts _ (hw _ (by simp))) (hts _ (hw _ (by simp))) C.2.2.2.2.2.2.2.2.1 hP ho hS (fun q hq => Nat.le_trans C.2.2.2.2.2.2.2.2.2.2 hq) hc0 hfs hc hs hd (fun q H1 hP1 hD1 hS1 => ?_)
  exact k q p e s m args below meth c H1 locs lsA C hD1 hP1 hS1 hl
theorem u_run {Q' : quT} {mc ms : Nat} {st0 : List Value} (hr : ∀ (p : Program) (e : Env) (s : State) (m : MethodId) (args : Array Value) (below : List Frame) (meth : Method) (c : Code) (H : Heap) (locs : List Loc) (lsA : Array Slot), Ctx Γ μ p s m args meth c → va_D (gA Γ) ws → va_P Γ.1 vwCl ws H → va_S (gA Γ) s.heap H locs → lv_has lsA μ.2.2.2.1 ls →
      ∃ aa, va_Run p l e R s m args below meth c H locs kc ks mc ms (F0 m pc lsA st0) st (QcU Γ Q' aa) (gA Γ))
    (k : ∀ (r : Option Value) (ws' : va_W), Q' r ws' → U Γ l μ R Z (kc + mc) (ks + ms) (pc + 3) ls (r.toList ++ st) ws') : U Γ l μ R Z kc ks pc ls st0 ws := by
  intro p e s m args below meth c H locs lsA C ho hP hS hl
  obtain ⟨aa, hrun⟩ := hr p e s m args below meth c H locs lsA C ho hP hS hl
  intro T hT X
  obtain ⟨v, st₀, t, T', L, h0, X', hL, e1, e2, ⟨⟨r, ws', hv, hq, hD1, hP1, hK1⟩, hz, hk⟩, stp⟩ := hrun T hT X
  cases hv
  rw [h0] at hz hk
  obtain ⟨t2, a1, b1⟩ := k _ ws' hq p e s m args below meth c T'.heap (locs ++ L) lsA C hD1 (by rw [e1]; exact hP1) ⟨Nat.le_trans hS.1 (by rw [e1]; exact hz), fun q h1 h2 => by rw [e1, hk q (Nat.lt_of_lt_of_le h1 hS.1) h2]; exact hS.2.1 q h1 h2, fun q hq => by
      rcases List.mem_append.mp hq with h | h
      · exact hS.2.2 q h
      · exact hL q h⟩ hl T' rfl X'
  exact ⟨t2, stp t2 a1, b1⟩
theorem preU_of {p : Program} {s : State} {m : MethodId} {args : Array Value} {meth : Method} {c : Code} {H : Heap} {locs : List Loc} {av : List Value} (C : Ctx Γ μ p s m args meth c) (ho : va_D (gA Γ) ws) (hP : va_P Γ.1 vwCl ws H) (hS : va_S (gA Γ) s.heap H locs) : ∀ U : State, U.heap = H → s.WarmedH U.vm → PcU Γ av ws av.toArray U := by
  intro U hU hW
  refine ⟨rfl, ⟨ho, by rw [hU]; exact hP, va_K.moved hW.alike C.2.2.2.2.2.2.2.2.1⟩, ?_, ?_⟩
  · rw [hU]
    exact (C.2.2.2.2.2.2.2.2.2.1.kept hS.2.1).warm hW
  · rw [hU]
    exact Nat.le_trans C.2.2.2.2.2.2.2.2.2.2 hS.1
/-- what a constructor's call needs of the names -/
def CWI (μ : mT) (μ' : mT) : Prop := GoodIn μ.2.2.2.2.2 μ'.2.2.2.2.2 ∧ (∃ ws', μ'.2.2.2.2.2 = Cond.code μ'.1 μ'.2.2.1 μ'.2.2.2.1 none :: ws') ∧ Cond.initialized μ'.1.cls ∈ μ.2.2.2.2.2 ∧ Cond.instanceMethod μ'.1 ∈ μ.2.2.2.2.2 ∧ μ'.1.name = "<init>" ∧ μ'.1.cls ≠ "java/lang/invoke/MethodHandle" ∧ μ'.1.cls ≠ "java/lang/invoke/VarHandle" ∧ (parseMethodDescriptor μ'.1.desc).map (fun d => d.parameters.length) = some 0
theorem u_callN {index a : Nat} {μ' : mT} {R' : Room} {Q' : quT} (hd : decode μ.2.2.1 pc = .ok (.invokespecial index, 3)) (cw : CWI μ μ') (hnw : (μ.2.1, index, μ'.1) ∈ nwL) (hM : ConU Γ l μ' R' [.ref a] ws Q') (hcat : (st.map fun v => v.category).sum ≤ 8) (hR : fitR R μ' R' kc ks)
    (k : ∀ (r : Option Value) (ws' : va_W), Q' r ws' → U Γ l μ R Z (kc + R'.cells) (ks + R'.slots) (pc + 3) ls (r.toList ++ st) ws') : U Γ l μ R Z kc ks pc ls (.ref a :: st) ws := by
  refine u_run (Q' := Q') (mc := R'.cells) (ms := R'.slots) (st := st) ?_ k
  intro p e s m args below meth c H locs lsA C ho hP hS hl
  obtain ⟨hG, ⟨ws', hw⟩, h1, h2, h3, h4, h5, h6⟩ := cw
  have hts := C.2.2.2.2.2.1
  exact ⟨_, va_runIN (As := []) (rest := st) ⟨C.1, C.2.1, C.2.2.2.1, C.2.2.2.2.1, C.2.2.2.2.2.1⟩ hM ⟨va_cnB 0 hts hG hw rfl rfl (C.2.2.2.2.2.2.2.2.2.1.2.2.2.2.2.2.2.2.2.1 _ hnw) (hts _ h1) ⟨h4, h5, h6⟩ hR.1, h3, hts _ h2⟩ ⟨PcU_blind, preU_of C ho hP hS⟩ rfl rfl hl.1 rfl (lv_room hcat) hd hR.2⟩
theorem u_callI {index a : Nat} {μ' : mT} {R' : Room} {Q' : quT} (hd : decode μ.2.2.1 pc = .ok (.invokespecial index, 3)) (cw : CWI μ μ') (hlk : Cond.methodLink μ.2.1 index μ'.1 ∈ μ.2.2.2.2.2) (hM : ConU Γ l μ' R' [.ref a] ws Q') (hcat : (st.map fun v => v.category).sum ≤ 8) (hR : fitR R μ' R' kc ks)
    (k : ∀ (r : Option Value) (ws' : va_W), Q' r ws' → U Γ l μ R Z (kc + R'.cells) (ks + R'.slots) (pc + 3) ls (r.toList ++ st) ws') : U Γ l μ R Z kc ks pc ls (.ref a :: st) ws := by
  refine u_run (Q' := Q') (mc := R'.cells) (ms := R'.slots) (st := st) ?_ k
  intro p e s m args below meth c H locs lsA C ho hP hS hl
  obtain ⟨hG, ⟨ws', hw⟩, h1, h2, h3, h4, h5, h6⟩ := cw
  have hts := C.2.2.2.2.2.1
  exact ⟨_, va_runI (As := []) (rest := st) ⟨C.1, C.2.1, C.2.2.2.1, C.2.2.2.2.1, C.2.2.2.2.2.1⟩ hM (cwI 0 hts hG hw rfl rfl (hts _ h1) (hts _ hlk) (hts _ h2) h3 ⟨h4, h5, h6⟩ hR.1) ⟨PcU_blind, preU_of C ho hP hS⟩ rfl rfl hl.1 rfl (lv_room hcat) hd hR.2⟩
theorem u_vret {Q : quT} (hd : decode μ.2.2.1 pc = .ok (.return_, 1)) (hr : μ.2.2.2.2.1 = none) (hkc : kc ≤ R.cells) (hks : ks ≤ R.slots) (hq : Q none ws) : U Γ l μ R (Zu Γ R Q) kc ks pc ls [] ws := by
  intro p e s m args below meth c H locs lsA C ho hP hS hl
  refine W.widen hkc hks ?_
  exact W.vret C.1 C.2.1 (C.2.2.1.trans hr) (fun t ht hW => ⟨⟨_, ws, rfl, hq, ho, by rw [ht]; exact hP, va_K.moved hW.alike C.2.2.2.2.2.2.2.2.1⟩, hS.F ht⟩) hS.2.2 hd C.2.2.2.2.2.2.1
/-- out of a list of cells into addresses and a heap function -/
theorem uV (k : ∀ (as : List Nat) (h : aH), wW as h = ws → asOK Γ as → V Γ l μ R Z kc ks pc ls st as h) : U Γ l μ R Z kc ks pc ls st ws := by
  intro p e s m args below meth c H locs lsA C ho hP hS hl
  have hnd : (ws.map (fun q => q.1)).Nodup := by
    unfold List.Nodup
    rw [List.pairwise_iff_getElem]
    intro i j hi hj hij he
    rw [List.length_map] at hi hj
    rw [List.getElem_map, List.getElem_map] at he
    have := ho.1 i j _ _ (List.getElem?_eq_getElem hi) (List.getElem?_eq_getElem hj) he
    omega
  have hok : asOK Γ (ws.map (fun q => q.1)) := by
    refine ⟨hnd, fun a ha => ?_⟩
    obtain ⟨q, hq, rfl⟩ := List.mem_map.mp ha
    obtain ⟨i, hi⟩ := List.getElem?_of_mem hq
    exact ho.2 i q hi
  let h : aH := fun a => match ws.find? (fun q => q.1 == a) with
    | some q => q.2
    | none => ob 0 []
  have hw : wW (ws.map (fun q => q.1)) h = ws := by
    unfold wW
    rw [List.map_map]
    conv => rhs; rw [← List.map_id ws]
    refine List.map_congr_left fun q hq => ?_
    show (q.1, h q.1) = q
    have hf : ws.find? (fun x => x.1 == q.1) = some q := by
      cases hfi : ws.find? (fun x => x.1 == q.1) with
      | none => exact absurd (List.find?_eq_none.mp hfi q hq) (by simp)
      | some x =>
        have h1 := List.find?_some hfi
        have h2 := List.mem_of_find?_eq_some hfi
        obtain ⟨i, hi⟩ := List.getElem?_of_mem h2
        obtain ⟨j, hj⟩ := List.getElem?_of_mem hq
        have := ho.1 i j x q hi hj (by simpa using h1)
        subst this
        rw [hi] at hj
        exact hj
    show (q.1, (match ws.find? (fun x => x.1 == q.1) with | some q => q.2 | none => ob 0 [])) = q
    rw [hf]
  exact k _ h hw hok p e s m args below meth c H locs lsA C hok (by rw [hw]; exact hP) hS hl
end RulesU

