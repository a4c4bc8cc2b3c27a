/-! CORE. A world: the list 'as' of the addresses that were made since the law began, and a function h from addresses to cells. -/
abbrev aH : Type := Nat → va_E
abbrev gT : Type := va_G × (Nat → ClassId) × Nat × (Nat → Nat) × Nat × (Nat → Int32)
abbrev mT : Type := MethodName × String × ByteArray × Nat × Option FieldType × List Cond
def gB (Γ : gT) : Nat := Γ.2.2.1
def gX (Γ : gT) : Nat → Nat := Γ.2.2.2.1
def gA (Γ : gT) : Nat → Prop := fun q => gB Γ ≤ q
def wW (as : List Nat) (h : aH) : va_W := as.map (fun a => (a, h a))
def asOK (Γ : gT) (as : List Nat) : Prop := as.Nodup ∧ ∀ a ∈ as, gB Γ ≤ a
def hset (h : aH) (k : Nat) (e : va_E) : aH := fun j => if j = k then e else h j
def hat (as : List Nat) (h : aH) (a : Nat) (e : va_E) : Prop := a ∈ as ∧ h a = e
theorem hset_eq {h : aH} {k : Nat} {e : va_E} : hset h k e k = e := if_pos rfl
theorem hset_ne {h : aH} {k j : Nat} {e : va_E} (hj : j ≠ k) : hset h k e j = h j := if_neg hj
theorem hset_hset {h : aH} {k : Nat} {e e' : va_E} : hset (hset h k e) k e' = hset h k e' := by
  funext j
  by_cases hj : j = k
  · rw [hj, hset_eq, hset_eq]
  · rw [hset_ne hj, hset_ne hj, hset_ne hj]
theorem hset_same {h : aH} {k : Nat} {e : va_E} (he : h k = e) : hset h k e = h := by
  funext j
  by_cases hj : j = k
  · rw [hj, hset_eq, he]
  · rw [hset_ne hj]
theorem hset_comm {h : aH} {k j : Nat} {e e' : va_E} (hj : j ≠ k) : hset (hset h k e) j e' = hset (hset h j e') k e := by
  funext i
  by_cases h1 : i = j
  · rw [h1, hset_eq, hset_ne hj, hset_eq]
  · by_cases h2 : i = k
    · rw [h2, hset_eq, hset_ne (fun q => hj q.symm), hset_eq]
    · rw [hset_ne h1, hset_ne h2, hset_ne h2, hset_ne h1]
theorem hat_set {as : List Nat} {h : aH} {a : Nat} {e e' : va_E} (q : hat as h a e) : hat as (hset h a e') a e' := ⟨q.1, hset_eq⟩
theorem hat_ne {as : List Nat} {h : aH} {a b : Nat} {e e' : va_E} (q : hat as h a e) (hb : a ≠ b) : hat as (hset h b e') a e := ⟨q.1, (hset_ne hb).trans q.2⟩
theorem hat_un {as : List Nat} {h : aH} {a b : Nat} {e e' : va_E} (q : hat as h a e) (q' : hat as h b e') (he : e ≠ e') : a ≠ b := fun z => he (by rw [← q.2, ← q'.2, z])
theorem wW_get {as : List Nat} {h : aH} {i a : Nat} (hi : as[i]? = some a) : (wW as h)[i]? = some (a, h a) := by simp [wW, hi]
theorem wW_at {as : List Nat} {h : aH} {a : Nat} {e : va_E} (ha : hat as h a e) : ∃ i : Nat, as[i]? = some a ∧ (wW as h)[i]? = some (a, e) := by
  obtain ⟨i, hi⟩ := List.getElem?_of_mem ha.1
  exact ⟨i, hi, by rw [wW_get hi, ha.2]⟩
theorem wW_some {as : List Nat} {h : aH} {i : Nat} {q : Nat × va_E} (hq : (wW as h)[i]? = some q) : ∃ a, as[i]? = some a ∧ q = (a, h a) := by
  unfold wW at hq
  rw [List.getElem?_map] at hq
  cases ha : as[i]? with
  | none => rw [ha] at hq; cases hq
  | some a => rw [ha] at hq; cases hq; exact ⟨a, rfl, rfl⟩
theorem nodup_ix {as : List Nat} (hn : as.Nodup) {i j a : Nat} (hi : as[i]? = some a) (hj : as[j]? = some a) : i = j := by
  exact (List.getElem?_inj (List.getElem?_eq_some_iff.mp hi).1 hn).mp (hi.trans hj.symm)
theorem wW_set {as : List Nat} {h : aH} {i a : Nat} {e : va_E} (hn : as.Nodup) (hi : as[i]? = some a) : (wW as h).set i (a, e) = wW as (hset h a e) := by
  refine List.ext_getElem? fun j => ?_
  by_cases hj : j = i
  · subst hj
    rw [List.getElem?_set_self (by unfold wW; rw [List.length_map]; exact (List.getElem?_eq_some_iff.mp hi).1), wW_get hi, hset_eq]
  · rw [List.getElem?_set_ne (fun q => hj q.symm)]
    unfold wW
    rw [List.getElem?_map, List.getElem?_map]
    cases hb : as[j]? with
    | none => rfl
    | some b =>
      have hne : b ≠ a := fun z => hj (nodup_ix hn (z ▸ hb) hi)
      simp [hset_ne hne]
theorem wW_push {as : List Nat} {h : aH} {q : Nat} {e : va_E} (hq : q ∉ as) : wW as h ++ [(q, e)] = wW (as ++ [q]) (hset h q e) := by
  unfold wW
  rw [List.map_append]
  congr 1
  · refine List.map_congr_left fun k hk => ?_
    rw [hset_ne (fun z => hq (by rw [← z]; exact hk))]
  · simp [hset_eq]
theorem wW_D {Γ : gT} {as : List Nat} {h : aH} (ho : asOK Γ as) : va_D (gA Γ) (wW as h) := by
  refine ⟨fun i j p q hi hj e => ?_, fun k q hk => ?_⟩
  · obtain ⟨a, h1, rfl⟩ := wW_some hi
    obtain ⟨b, h2, rfl⟩ := wW_some hj
    have e : a = b := e
    exact nodup_ix ho.1 h1 (e ▸ h2)
  · obtain ⟨a, h1, rfl⟩ := wW_some hk
    exact ho.2 a (List.mem_of_getElem? h1)
theorem asOK_push {Γ : gT} {as : List Nat} {h : aH} {q : Nat} {e : va_E} (ho : asOK Γ as) (hD : va_D (gA Γ) (wW as h ++ [(q, e)])) : q ∉ as ∧ asOK Γ (as ++ [q]) := by
  have hl : (wW as h ++ [(q, e)])[as.length]? = some (q, e) := by
    rw [List.getElem?_append_right (by simp [wW])]
    simp [wW]
  have hq : q ∉ as := by
    intro hm
    obtain ⟨i, hi⟩ := List.getElem?_of_mem hm
    have hlt := (List.getElem?_eq_some_iff.mp hi).1
    have h1 : (wW as h ++ [(q, e)])[i]? = some (q, h q) := by
      rw [List.getElem?_append_left (by simp [wW]; exact hlt), wW_get hi]
    have := hD.1 _ _ _ _ h1 hl rfl
    omega
  refine ⟨hq, ?_, fun a ha => ?_⟩
  · rw [List.nodup_append]
    exact ⟨ho.1, by simp, fun a ha b hb => by rw [List.mem_singleton] at hb; subst hb; exact fun z => hq (z ▸ ha)⟩
  · rcases List.mem_append.mp ha with h1 | h1
    · exact ho.2 a h1
    · rw [List.mem_singleton] at h1
      subst h1
      exact hD.2 _ _ hl
def tysG (Γ : gT) : List (ClassId × FieldType) := [(Γ.2.1 0, .byte), (Γ.2.1 1, .int), (Γ.2.1 2, .long), (Γ.2.1 3, .boolean), (Γ.2.1 4, .object "LightCoins$Image")]
/-! cells by their kind -/
abbrev aB (Γ : gT) (N : Nat) (f : Nat → Int32) : va_E := .inl (Γ.2.1 0, N, .inl f)
abbrev aI (Γ : gT) (N : Nat) (f : Nat → Int32) : va_E := .inl (Γ.2.1 1, N, .inl f)
abbrev aJ (Γ : gT) (N : Nat) (f : Nat → Int64) : va_E := .inl (Γ.2.1 2, N, .inr (.inl f))
abbrev aZ (Γ : gT) (N : Nat) (f : Nat → Int32) : va_E := .inl (Γ.2.1 3, N, .inl f)
abbrev aO (Γ : gT) (N : Nat) (f : Nat → Option Nat) : va_E := .inl (Γ.2.1 4, N, .inr (.inr (.inr (.inr f))))
abbrev ob (ci : Nat) (fs : List Value) : va_E := .inr (ci, fs)
/-! what was there before the law -/
def tLeast (j : Nat) : Value := .int (([0, 0, 0, 0, 0, 1] : List Int32).getD j 0)
def tMost (j : Nat) : Value := .int (([9, 99, 99, 10, 20, 99] : List Int32).getD j 0)
def sTx (i : Nat) : String := (["tale", "look", "some", "light", "heavy"] : List String).getD i ""
def sLen : List Nat := [4, 4, 4, 5, 5]
def sByt : List (List Int32) := [[116, 97, 108, 101], [108, 111, 111, 107], [115, 111, 109, 101], [108, 105, 103, 104, 116], [104, 101, 97, 118, 121]]
def sIdx (i : Nat) : Nat := ([78, 84, 86, 88, 90] : List Nat).getD i 0
def nwL : List (String × Nat × MethodName) := [(RX8, 9, yX5_init), (RX8, 18, yX4_init), (RX8, 28, yX7_init), (RX8, 35, yX3_init), (RX8, 42, yX0_init), (RX8, 49, yX2_init), (RX8, 56, yX1_init), (RX8, 63, yX6_init), (RX1, 9, yX4_init)]
def EXT (Γ : gT) (U : State) (H : Heap) : Prop :=
  va_T .int (gX Γ 1000) Γ.2.2.2.2.1 (fun j => .int (Γ.2.2.2.2.2 j)) (gA Γ) U H ∧
  va_Z "LightCoins$Tunes" "LEAST" "[I" (.ref (gX Γ 1001)) (gA Γ) U H ∧ va_T .int (gX Γ 1001) 6 tLeast (gA Γ) U H ∧
  va_Z "LightCoins$Tunes" "MOST" "[I" (.ref (gX Γ 1002)) (gA Γ) U H ∧ va_T .int (gX Γ 1002) 6 tMost (gA Γ) U H ∧
  va_Z "java/lang/String" "COMPACT_STRINGS" "Z" (.int 1) (gA Γ) U H ∧
  vk_S 5 sLen sByt (fun i => gX Γ (1010 + i)) (fun i => gX Γ (1020 + i)) (gA Γ) U H ∧
  va_Zq "jdk/internal/util/Preconditions" "SIOOBE_FORMATTER" "Ljava/util/function/BiFunction;" (gA Γ) U H ∧
  (∀ i, i < 5 → vk_R "LightCoins$Text" (sIdx i) (sTx i) (gX Γ (1010 + i)) U) ∧ (∀ q ∈ nwL, va_Nw (.methodLinkNest q.1 q.2.1 q.2.2 "LightCoins") U) ∧ va_AO "LightCoins$Image" U
theorem EXT.warm {Γ : gT} {s U : State} {H : Heap} (hW : s.WarmedH U.vm) (h : EXT Γ s H) : EXT Γ U H :=
  ⟨h.1.moved hW.alike, h.2.1.moved hW.alike, h.2.2.1.moved hW.alike, h.2.2.2.1.moved hW.alike, h.2.2.2.2.1.moved hW.alike, h.2.2.2.2.2.1.moved hW.alike, h.2.2.2.2.2.2.1.moved hW.alike, h.2.2.2.2.2.2.2.1.moved hW.alike, fun i hi => (h.2.2.2.2.2.2.2.2.1 i hi).warm hW, fun q hq => va_Nw.warmM hW (h.2.2.2.2.2.2.2.2.2.1 q hq), va_AO.moved hW.alike h.2.2.2.2.2.2.2.2.2.2⟩
theorem EXT.same {Γ : gT} {u U : State} {H : Heap} (hv : U.vm = u.vm) (h : EXT Γ u H) : EXT Γ U H := by
  have ha : u.vm.Alike U.vm := by rw [hv]; exact Vm.Alike.refl u.vm
  exact ⟨h.1.moved ha, h.2.1.moved ha, h.2.2.1.moved ha, h.2.2.2.1.moved ha, h.2.2.2.2.1.moved ha, h.2.2.2.2.2.1.moved ha, h.2.2.2.2.2.2.1.moved ha, h.2.2.2.2.2.2.2.1.moved ha, fun i hi => (h.2.2.2.2.2.2.2.2.1 i hi).same hv, fun q hq => va_Nw.same rfl hv.symm (h.2.2.2.2.2.2.2.2.2.1 q hq), va_AO.moved ha h.2.2.2.2.2.2.2.2.2.2⟩
theorem EXT.kept {Γ : gT} {U : State} {H H1 : Heap} (h : EXT Γ U H) (hq : ∀ a : Nat, a < H.size → ¬ gA Γ a → H1[a]? = H[a]?) : EXT Γ U H1 :=
  ⟨h.1.kept hq, h.2.1.kept hq, h.2.2.1.kept hq, h.2.2.2.1.kept hq, h.2.2.2.2.1.kept hq, h.2.2.2.2.2.1.kept hq, h.2.2.2.2.2.2.1.kept hq, h.2.2.2.2.2.2.2.1.kept hq, h.2.2.2.2.2.2.2.2⟩
def Wd (Γ : gT) (as : List Nat) (h : aH) (U : State) : Prop := asOK Γ as ∧ va_P Γ.1 vwCl (wW as h) U.heap ∧ va_K Γ.1 vwCl (tysG Γ) U
def Ctx (Γ : gT) (μ : mT) (p : Program) (s : State) (m : MethodId) (args : Array Value) (meth : Method) (c : Code) : Prop :=
  p.tables.exec = Jvm.exec ∧ c.code = μ.2.2.1 ∧ meth.sig.returnType = μ.2.2.2.2.1 ∧ c.maxLocals = μ.2.2.2.1 ∧ s.vm.findClass μ.2.1 = some m.cls ∧ (∀ w ∈ μ.2.2.2.2.2, w.before args s = true) ∧ meth.locks = false ∧ meth.name = μ.1.name ∧ va_K Γ.1 vwCl (tysG Γ) s ∧ EXT Γ s s.heap ∧ gB Γ ≤ s.heap.size
abbrev zT : Type := List Frame → Array Value → State → State → Prop
def V (Γ : gT) (l : Launch) (μ : mT) (R : Room) (Z : zT) (kc ks pc : Nat) (ls : List (Nat × Value)) (st : List Value) (as : List Nat) (h : aH) : Prop :=
  ∀ (p : Program) (e : Env) (s : State) (m : MethodId) (args : Array Value) (below : List Frame) (meth : Method) (c : Code) (H : Heap) (locs : List Loc) (lsA : Array Slot),
    Ctx Γ μ p s m args meth c → asOK Γ as → va_P Γ.1 vwCl (wW as h) H → va_S (gA Γ) s.heap H locs → lv_has lsA μ.2.2.2.1 ls →
    W p l e R s m args below meth c H locs kc ks (Z below args s) (F0 m pc lsA st)
/-- what a method's end says: its answer and the world behind it are as Q has them -/
abbrev qT : Type := Option Value → List Nat → aH → Prop
def QcD (Γ : gT) (Q : qT) : Array Value → State → Outcome → State → Prop := fun _ st oc t => (∃ (r : Option Value) (as' : List Nat) (h' : aH), oc = .returned r ∧ Q r as' h' ∧ Wd Γ as' h' t) ∧ va_F (gA Γ) st t
def Zm (Γ : gT) (R : Room) (Q : qT) : zT := fun below args s => MQ below (QcD Γ Q) args s R.cells R.slots (gA Γ)
def PcD (Γ : gT) (av : List Value) (as : List Nat) (h : aH) : Array Value → State → Prop := va_Pc av (fun U => Wd Γ as h U ∧ EXT Γ U U.heap ∧ gB Γ ≤ U.heap.size)
/-- a method's contract -/
def Con (Γ : gT) (l : Launch) (μ : mT) (R : Room) (av : List Value) (as : List Nat) (h : aH) (Q : qT) : Prop := Met l μ.1 μ.2.2.2.2.2 R (PcD Γ av as h) (QcD Γ Q) R.cells R.slots (gA Γ)
abbrev qD (r0 : Option Value) (as0 : List Nat) (h0 : aH) : qT := fun r as' h' => r = r0 ∧ as' = as0 ∧ h' = h0
/-- a contract that names the answer and the world behind it; nothing is made -/
abbrev Det (Γ : gT) (l : Launch) (μ : mT) (R : Room) (av : List Value) (as : List Nat) (h : aH) (r0 : Option Value) (h0 : aH) : Prop := Con Γ l μ R av as h (qD r0 as h0)
theorem PcD_blind {Γ : gT} {av : List Value} {as : List Nat} {h : aH} : FrameBlind (PcD Γ av as h) := by
  intro a U g mk q
  obtain ⟨e, ⟨q1, q2, q3⟩, qE, qB⟩ := q
  exact ⟨e, ⟨q1, q2, va_K.moved (u := U) (U := U.calling g mk a) (Vm.Alike.refl U.vm) q3⟩, EXT.same (u := U) (U := U.calling g mk a) rfl qE, qB⟩
/-- a method's contract out of its walk -/
theorem Con.of {Γ : gT} {l : Launch} {μ : mT} {R : Room} {as : List Nat} {av : List Value} {h : aH} {Q : qT} {ws' : List Cond} (hy : plainName μ.1.cls = true) (hw : μ.2.2.2.2.2 = Cond.code μ.1 μ.2.2.1 μ.2.2.2.1 μ.2.2.2.2.1 :: ws') (ho : μ.2.1 = μ.1.cls) (hlen : (lg_sl av).length ≤ μ.2.2.2.1)
    (k : V Γ l μ R (Zm Γ R Q) 0 0 0 (lv_args 0 av) [] as h) : Con Γ l μ R av as h Q := by
  refine Met.ofW (cc := μ.2.2.1) (maxL := μ.2.2.2.1) (ret := μ.2.2.2.2.1) hy hw ?_
  intro p e s m args below meth c s₁ B hml hv
  obtain ⟨rfl, ⟨hn, hP, hK⟩, hE, hB⟩ := hv
  have hx := B.exec
  have hb := B.bytes
  have hr := B.returns
  have hts := atoms_spec (ws := μ.2.2.2.2.2) B.pre
  have hown : s.vm.findClass μ.1.cls = some m.cls := findClass_of_methodNamed B.named
  have hlocks := B.notSynchronized
  have hin : meth.name = μ.1.name := (name_of_methodNamed B.named B.method).1
  have hl := lv_entry av (n := μ.2.2.2.1) hlen
  rw [lg_entry_eq]
  exact k p e s m _ below meth c s.heap [] _ ⟨hx, hb, hr, hml, by rw [ho]; exact hown, hts, hlocks, hin, hK, hE, hB⟩ hn hP va_S.rf hl
theorem V.widen {Γ : gT} {l : Launch} {μ : mT} {R : Room} {Z : zT} {kc ks pc : Nat} {ls : List (Nat × Value)} {st : List Value} {as : List Nat} {h : aH} (kc' ks' : Nat) (h1 : kc ≤ kc') (h2 : ks ≤ ks') (k : V Γ l μ R Z kc' ks' pc ls st as h) : V Γ l μ R Z kc ks pc ls st as h := by
  intro p e s m args below meth c H locs lsA C hn hP hS hl
  exact W.widen h1 h2 (k p e s m args below meth c H locs lsA C hn hP hS hl)
/-! locals -/
def lk (i : Nat) : List (Nat × Value) → Option Value
  | [] => none
  | q :: r => if q.1 = i then some q.2 else lk i r
def lst (i : Nat) (v : Value) (ls : List (Nat × Value)) : List (Nat × Value) := (i, v) :: ls.filter (fun q => !(q.1 == i) && !(q.1 + 1 == i && q.2.category == 2))
def lst2 (i : Nat) (v : Value) (ls : List (Nat × Value)) : List (Nat × Value) := (i, v) :: ls.filter (fun q => !(q.1 == i) && (!(q.1 == i + 1) && !(q.1 + 1 == i && q.2.category == 2)))
theorem lk_mem {i : Nat} {v : Value} : ∀ {ls : List (Nat × Value)}, lk i ls = some v → (i, v) ∈ ls
  | [], h => by cases h
  | q :: r, h => by
    unfold lk at h
    by_cases hq : q.1 = i
    · rw [if_pos hq] at h
      cases h
      rw [← hq]
      exact List.mem_cons_self
    · rw [if_neg hq] at h
      exact List.mem_cons_of_mem _ (lk_mem h)
theorem lk_at {lsA : Array Slot} {nL i : Nat} {v : Value} {ls : List (Nat × Value)} (hl : lv_has lsA nL ls) (h : lk i ls = some v) : lsA[i]? = some (.val v) := hl.2.2 (i, v) (lk_mem h)
/-- the same locals in another order, or fewer -/
theorem V.locs {Γ : gT} {l : Launch} {μ : mT} {R : Room} {Z : zT} {kc ks pc : Nat} {ls : List (Nat × Value)} (ls' : List (Nat × Value)) {st : List Value} {as : List Nat} {h : aH} (hs : ∀ q ∈ ls', lk q.1 ls = some q.2) (k : V Γ l μ R Z kc ks pc ls' st as h) : V Γ l μ R Z kc ks pc ls st as h := by
  intro p e s m args below meth c H locs lsA C hn hP hS hl
  exact k p e s m args below meth c H locs lsA C hn hP hS ⟨hl.1, hl.2.1, fun q hq => lk_at hl (hs q hq)⟩

section Rules
variable {Γ : gT} {l : Launch} {μ : mT} {R : Room} {Z : zT} {kc ks pc : Nat} {ls : List (Nat × Value)} {st : List Value} {as : List Nat} {h : aH}
theorem q_iconst {z : Int} {v : Int32} (hd : decode μ.2.2.1 pc = .ok (.iconst z, 1)) (hv : Int32.ofInt z = v) (k : V Γ l μ R Z kc ks (pc + 1) ls (.int v :: st) as h) : V Γ l μ R Z kc ks pc ls (st) as h := by
  intro p e s m args below meth c H locs lsA C ho hP hS hl
  exact lv_iconst C.1 C.2.1 hd hv (k p e s m args below meth c H locs lsA C ho hP hS hl)
theorem q_bipush {z : Int} {v : Int32} (hd : decode μ.2.2.1 pc = .ok (.bipush z, 2)) (hv : (Int8.ofInt z).toInt32 = v) (k : V Γ l μ R Z kc ks (pc + 2) ls (.int v :: st) as h) : V Γ l μ R Z kc ks pc ls (st) as h := by
  intro p e s m args below meth c H locs lsA C ho hP hS hl
  exact lv_bipush C.1 C.2.1 hd hv (k p e s m args below meth c H locs lsA C ho hP hS hl)
theorem q_sipush {z : Int} {v : Int32} (hd : decode μ.2.2.1 pc = .ok (.sipush z, 3)) (hv : (Int16.ofInt z).toInt32 = v) (k : V Γ l μ R Z kc ks (pc + 3) ls (.int v :: st) as h) : V Γ l μ R Z kc ks pc ls (st) as h := by
  intro p e s m args below meth c H locs lsA C ho hP hS hl
  exact lv_sipush C.1 C.2.1 hd hv (k p e s m args below meth c H locs lsA C ho hP hS hl)
theorem q_lconst {z : Fin 2} {v : Int64} (hd : decode μ.2.2.1 pc = .ok (.lconst z, 1)) (hv : Int64.ofNat (z : Nat) = v) (k : V Γ l μ R Z kc ks (pc + 1) ls (.long v :: st) as h) : V Γ l μ R Z kc ks pc ls (st) as h := by
  intro p e s m args below meth c H locs lsA C ho hP hS hl
  exact lv_lconst C.1 C.2.1 hd hv (k p e s m args below meth c H locs lsA C ho hP hS hl)
theorem q_ldc {index : Nat} {v : Int32} (hd : decode μ.2.2.1 pc = .ok (.ldc index, 2)) (hw : Jvm.Cond.constant μ.2.1 index v ∈ μ.2.2.2.2.2) (k : V Γ l μ R Z kc ks (pc + 2) ls (.int v :: st) as h) : V Γ l μ R Z kc ks pc ls (st) as h := by
  intro p e s m args below meth c H locs lsA C ho hP hS hl
  exact lv_ldc C.1 C.2.1 C.2.2.2.2.1 (C.2.2.2.2.2.1 _ hw) hd (k p e s m args below meth c H locs lsA C ho hP hS hl)
theorem q_ldcw {index : Nat} {v : Int32} (hd : decode μ.2.2.1 pc = .ok (.ldc_w index, 3)) (hw : Jvm.Cond.constant μ.2.1 index v ∈ μ.2.2.2.2.2) (k : V Γ l μ R Z kc ks (pc + 3) ls (.int v :: st) as h) : V Γ l μ R Z kc ks pc ls (st) as h := by
  intro p e s m args below meth c H locs lsA C ho hP hS hl
  exact lv_ldcw C.1 C.2.1 C.2.2.2.2.1 (C.2.2.2.2.2.1 _ hw) hd (k p e s m args below meth c H locs lsA C ho hP hS hl)
theorem q_ldc2 {index : Nat} {v : Int64} (hd : decode μ.2.2.1 pc = .ok (.ldc2_w index, 3)) (hw : Jvm.Cond.constantLong μ.2.1 index v ∈ μ.2.2.2.2.2) (k : V Γ l μ R Z kc ks (pc + 3) ls (.long v :: st) as h) : V Γ l μ R Z kc ks pc ls (st) as h := by
  intro p e s m args below meth c H locs lsA C ho hP hS hl
  exact lv_ldc2 C.1 C.2.1 C.2.2.2.2.1 (C.2.2.2.2.2.1 _ hw) hd (k p e s m args below meth c H locs lsA C ho hP hS hl)
theorem q_iload_n {k0 : Fin 4} {i : Nat} {x : Int32} (hd : decode μ.2.2.1 pc = .ok (.iload_n k0, 1)) (hi : (k0 : Nat) = i) (hk : lk i ls = some (.int x)) (k : V Γ l μ R Z kc ks (pc + 1) ls (.int x :: st) as h) : V Γ l μ R Z kc ks pc ls (st) as h := by
  intro p e s m args below meth c H locs lsA C ho hP hS hl
  exact lv_iload_n C.1 C.2.1 hd hi (lk_at hl hk) (k p e s m args below meth c H locs lsA C ho hP hS hl)
theorem q_iload {i : Nat} {x : Int32} (hd : decode μ.2.2.1 pc = .ok (.iload i, 2)) (hk : lk i ls = some (.int x)) (k : V Γ l μ R Z kc ks (pc + 2) ls (.int x :: st) as h) : V Γ l μ R Z kc ks pc ls (st) as h := by
  intro p e s m args below meth c H locs lsA C ho hP hS hl
  exact lv_iload C.1 C.2.1 hd (lk_at hl hk) (k p e s m args below meth c H locs lsA C ho hP hS hl)
theorem q_lload_n {k0 : Fin 4} {i : Nat} {x : Int64} (hd : decode μ.2.2.1 pc = .ok (.lload_n k0, 1)) (hi : (k0 : Nat) = i) (hk : lk i ls = some (.long x)) (k : V Γ l μ R Z kc ks (pc + 1) ls (.long x :: st) as h) : V Γ l μ R Z kc ks pc ls (st) as h := by
  intro p e s m args below meth c H locs lsA C ho hP hS hl
  exact lv_lload_n C.1 C.2.1 hd hi (lk_at hl hk) (k p e s m args below meth c H locs lsA C ho hP hS hl)
theorem q_lload {i : Nat} {x : Int64} (hd : decode μ.2.2.1 pc = .ok (.lload i, 2)) (hk : lk i ls = some (.long x)) (k : V Γ l μ R Z kc ks (pc + 2) ls (.long x :: st) as h) : V Γ l μ R Z kc ks pc ls (st) as h := by
  intro p e s m args below meth c H locs lsA C ho hP hS hl
  exact lv_lload C.1 C.2.1 hd (lk_at hl hk) (k p e s m args below meth c H locs lsA C ho hP hS hl)
theorem q_aload_n {k0 : Fin 4} {i : Nat} {x : Nat} (hd : decode μ.2.2.1 pc = .ok (.aload_n k0, 1)) (hi : (k0 : Nat) = i) (hk : lk i ls = some (.ref x)) (k : V Γ l μ R Z kc ks (pc + 1) ls (.ref x :: st) as h) : V Γ l μ R Z kc ks pc ls (st) as h := by
  intro p e s m args below meth c H locs lsA C ho hP hS hl
  exact lv_aload_n C.1 C.2.1 hd hi (lk_at hl hk) (k p e s m args below meth c H locs lsA C ho hP hS hl)
theorem q_aload {i : Nat} {x : Nat} (hd : decode μ.2.2.1 pc = .ok (.aload i, 2)) (hk : lk i ls = some (.ref x)) (k : V Γ l μ R Z kc ks (pc + 2) ls (.ref x :: st) as h) : V Γ l μ R Z kc ks pc ls (st) as h := by
  intro p e s m args below meth c H locs lsA C ho hP hS hl
  exact lv_aload C.1 C.2.1 hd (lk_at hl hk) (k p e s m args below meth c H locs lsA C ho hP hS hl)
theorem q_istore_n {k0 : Fin 4} {i : Nat} {x : Int32} (hd : decode μ.2.2.1 pc = .ok (.istore_n k0, 1)) (hi : (k0 : Nat) = i) (hb : i < μ.2.2.2.1) (k : V Γ l μ R Z kc ks (pc + 1) (lst i (.int x) ls) st as h) : V Γ l μ R Z kc ks pc ls (.int x :: st) as h := by
  intro p e s m args below meth c H locs lsA C ho hP hS hl
  exact lv_istore_n C.1 C.2.1 hd hi hl hb rfl (fun lsB hl => k p e s m args below meth c H locs lsB C ho hP hS hl)
theorem q_istore {i : Nat} {x : Int32} (hd : decode μ.2.2.1 pc = .ok (.istore i, 2)) (hb : i < μ.2.2.2.1) (k : V Γ l μ R Z kc ks (pc + 2) (lst i (.int x) ls) st as h) : V Γ l μ R Z kc ks pc ls (.int x :: st) as h := by
  intro p e s m args below meth c H locs lsA C ho hP hS hl
  exact lv_istore C.1 C.2.1 hd hl hb rfl (fun lsB hl => k p e s m args below meth c H locs lsB C ho hP hS hl)
theorem q_lstore_n {k0 : Fin 4} {i : Nat} {x : Int64} (hd : decode μ.2.2.1 pc = .ok (.lstore_n k0, 1)) (hi : (k0 : Nat) = i) (hb : i + 1 < μ.2.2.2.1) (k : V Γ l μ R Z kc ks (pc + 1) (lst2 i (.long x) ls) st as h) : V Γ l μ R Z kc ks pc ls (.long x :: st) as h := by
  intro p e s m args below meth c H locs lsA C ho hP hS hl
  exact lv_lstore_n C.1 C.2.1 hd hi hl hb rfl (fun lsB hl => k p e s m args below meth c H locs lsB C ho hP hS hl)
theorem q_lstore {i : Nat} {x : Int64} (hd : decode μ.2.2.1 pc = .ok (.lstore i, 2)) (hb : i + 1 < μ.2.2.2.1) (k : V Γ l μ R Z kc ks (pc + 2) (lst2 i (.long x) ls) st as h) : V Γ l μ R Z kc ks pc ls (.long x :: st) as h := by
  intro p e s m args below meth c H locs lsA C ho hP hS hl
  exact lv_lstore C.1 C.2.1 hd hl hb rfl (fun lsB hl => k p e s m args below meth c H locs lsB C ho hP hS hl)
theorem q_astore_n {k0 : Fin 4} {i : Nat} {x : Nat} (hd : decode μ.2.2.1 pc = .ok (.astore_n k0, 1)) (hi : (k0 : Nat) = i) (hb : i < μ.2.2.2.1) (k : V Γ l μ R Z kc ks (pc + 1) (lst i (.ref x) ls) st as h) : V Γ l μ R Z kc ks pc ls (.ref x :: st) as h := by
  intro p e s m args below meth c H locs lsA C ho hP hS hl
  exact lv_astore_n C.1 C.2.1 hd hi hl hb rfl (fun lsB hl => k p e s m args below meth c H locs lsB C ho hP hS hl)
theorem q_astore {i : Nat} {x : Nat} (hd : decode μ.2.2.1 pc = .ok (.astore i, 2)) (hb : i < μ.2.2.2.1) (k : V Γ l μ R Z kc ks (pc + 2) (lst i (.ref x) ls) st as h) : V Γ l μ R Z kc ks pc ls (.ref x :: st) as h := by
  intro p e s m args below meth c H locs lsA C ho hP hS hl
  exact lv_astore C.1 C.2.1 hd hl hb rfl (fun lsB hl => k p e s m args below meth c H locs lsB C ho hP hS hl)
theorem q_iinc {i : Nat} {z : Int} {x v : Int32} (hd : decode μ.2.2.1 pc = .ok (.iinc i z, 3)) (hk : lk i ls = some (.int x)) (hv : x + Int32.ofInt z = v) (hb : i < μ.2.2.2.1) (k : V Γ l μ R Z kc ks (pc + 3) (lst i (.int v) ls) st as h) : V Γ l μ R Z kc ks pc ls st as h := by
  intro p e s m args below meth c H locs lsA C ho hP hS hl
  obtain ⟨j, hj⟩ := List.getElem?_of_mem (lk_mem hk)
  exact lv_iinc C.1 C.2.1 hd hl (k := j) hj hv hb rfl (fun lsB hl => k p e s m args below meth c H locs lsB C ho hP hS hl)
theorem q_iadd {x y : Int32} (hd : decode μ.2.2.1 pc = .ok (.iadd, 1))  (k : V Γ l μ R Z kc ks (pc + 1) ls (.int (x + y) :: st) as h) : V Γ l μ R Z kc ks pc ls (.int y :: .int x :: st) as h := by
  intro p e s m args below meth c H locs lsA C ho hP hS hl
  exact lv_iadd C.1 C.2.1 hd (k p e s m args below meth c H locs lsA C ho hP hS hl)
theorem q_isub {x y : Int32} (hd : decode μ.2.2.1 pc = .ok (.isub, 1))  (k : V Γ l μ R Z kc ks (pc + 1) ls (.int (x - y) :: st) as h) : V Γ l μ R Z kc ks pc ls (.int y :: .int x :: st) as h := by
  intro p e s m args below meth c H locs lsA C ho hP hS hl
  exact lv_isub C.1 C.2.1 hd (k p e s m args below meth c H locs lsA C ho hP hS hl)
theorem q_imul {x y : Int32} (hd : decode μ.2.2.1 pc = .ok (.imul, 1))  (k : V Γ l μ R Z kc ks (pc + 1) ls (.int (x * y) :: st) as h) : V Γ l μ R Z kc ks pc ls (.int y :: .int x :: st) as h := by
  intro p e s m args below meth c H locs lsA C ho hP hS hl
  exact lv_imul C.1 C.2.1 hd (k p e s m args below meth c H locs lsA C ho hP hS hl)
theorem q_iand {x y : Int32} (hd : decode μ.2.2.1 pc = .ok (.iand, 1))  (k : V Γ l μ R Z kc ks (pc + 1) ls (.int (x &&& y) :: st) as h) : V Γ l μ R Z kc ks pc ls (.int y :: .int x :: st) as h := by
  intro p e s m args below meth c H locs lsA C ho hP hS hl
  exact lv_iand C.1 C.2.1 hd (k p e s m args below meth c H locs lsA C ho hP hS hl)
theorem q_ior {x y : Int32} (hd : decode μ.2.2.1 pc = .ok (.ior, 1))  (k : V Γ l μ R Z kc ks (pc + 1) ls (.int (x ||| y) :: st) as h) : V Γ l μ R Z kc ks pc ls (.int y :: .int x :: st) as h := by
  intro p e s m args below meth c H locs lsA C ho hP hS hl
  exact lv_ior C.1 C.2.1 hd (k p e s m args below meth c H locs lsA C ho hP hS hl)
theorem q_ixor {x y : Int32} (hd : decode μ.2.2.1 pc = .ok (.ixor, 1))  (k : V Γ l μ R Z kc ks (pc + 1) ls (.int (x ^^^ y) :: st) as h) : V Γ l μ R Z kc ks pc ls (.int y :: .int x :: st) as h := by
  intro p e s m args below meth c H locs lsA C ho hP hS hl
  exact lv_ixor C.1 C.2.1 hd (k p e s m args below meth c H locs lsA C ho hP hS hl)
theorem q_ishl {x y : Int32} (hd : decode μ.2.2.1 pc = .ok (.ishl, 1))  (k : V Γ l μ R Z kc ks (pc + 1) ls (.int (x <<< (y &&& 31)) :: st) as h) : V Γ l μ R Z kc ks pc ls (.int y :: .int x :: st) as h := by
  intro p e s m args below meth c H locs lsA C ho hP hS hl
  exact lv_ishl C.1 C.2.1 hd (k p e s m args below meth c H locs lsA C ho hP hS hl)
theorem q_ishr {x y : Int32} (hd : decode μ.2.2.1 pc = .ok (.ishr, 1))  (k : V Γ l μ R Z kc ks (pc + 1) ls (.int (x >>> (y &&& 31)) :: st) as h) : V Γ l μ R Z kc ks pc ls (.int y :: .int x :: st) as h := by
  intro p e s m args below meth c H locs lsA C ho hP hS hl
  exact lv_ishr C.1 C.2.1 hd (k p e s m args below meth c H locs lsA C ho hP hS hl)
theorem q_ladd {x y : Int64} (hd : decode μ.2.2.1 pc = .ok (.ladd, 1))  (k : V Γ l μ R Z kc ks (pc + 1) ls (.long (x + y) :: st) as h) : V Γ l μ R Z kc ks pc ls (.long y :: .long x :: st) as h := by
  intro p e s m args below meth c H locs lsA C ho hP hS hl
  exact lv_ladd C.1 C.2.1 hd (k p e s m args below meth c H locs lsA C ho hP hS hl)
theorem q_lsub {x y : Int64} (hd : decode μ.2.2.1 pc = .ok (.lsub, 1))  (k : V Γ l μ R Z kc ks (pc + 1) ls (.long (x - y) :: st) as h) : V Γ l μ R Z kc ks pc ls (.long y :: .long x :: st) as h := by
  intro p e s m args below meth c H locs lsA C ho hP hS hl
  exact lv_lsub C.1 C.2.1 hd (k p e s m args below meth c H locs lsA C ho hP hS hl)
theorem q_lmul {x y : Int64} (hd : decode μ.2.2.1 pc = .ok (.lmul, 1))  (k : V Γ l μ R Z kc ks (pc + 1) ls (.long (x * y) :: st) as h) : V Γ l μ R Z kc ks pc ls (.long y :: .long x :: st) as h := by
  intro p e s m args below meth c H locs lsA C ho hP hS hl
  exact lv_lmul C.1 C.2.1 hd (k p e s m args below meth c H locs lsA C ho hP hS hl)
theorem q_land {x y : Int64} (hd : decode μ.2.2.1 pc = .ok (.land, 1))  (k : V Γ l μ R Z kc ks (pc + 1) ls (.long (x &&& y) :: st) as h) : V Γ l μ R Z kc ks pc ls (.long y :: .long x :: st) as h := by
  intro p e s m args below meth c H locs lsA C ho hP hS hl
  exact lv_land C.1 C.2.1 hd (k p e s m args below meth c H locs lsA C ho hP hS hl)
theorem q_lor {x y : Int64} (hd : decode μ.2.2.1 pc = .ok (.lor, 1))  (k : V Γ l μ R Z kc ks (pc + 1) ls (.long (x ||| y) :: st) as h) : V Γ l μ R Z kc ks pc ls (.long y :: .long x :: st) as h := by
  intro p e s m args below meth c H locs lsA C ho hP hS hl
  exact lv_lor C.1 C.2.1 hd (k p e s m args below meth c H locs lsA C ho hP hS hl)
theorem q_idiv {x y : Int32} (hd : decode μ.2.2.1 pc = .ok (.idiv, 1)) (hne : ¬ y = 0) (k : V Γ l μ R Z kc ks (pc + 1) ls (.int (x / y) :: st) as h) : V Γ l μ R Z kc ks pc ls (.int y :: .int x :: st) as h := by
  intro p e s m args below meth c H locs lsA C ho hP hS hl
  exact lv_idiv C.1 C.2.1 hd hne (k p e s m args below meth c H locs lsA C ho hP hS hl)
theorem q_irem {x y : Int32} (hd : decode μ.2.2.1 pc = .ok (.irem, 1)) (hne : ¬ y = 0) (k : V Γ l μ R Z kc ks (pc + 1) ls (.int (x - x / y * y) :: st) as h) : V Γ l μ R Z kc ks pc ls (.int y :: .int x :: st) as h := by
  intro p e s m args below meth c H locs lsA C ho hP hS hl
  exact lv_irem C.1 C.2.1 hd hne (k p e s m args below meth c H locs lsA C ho hP hS hl)
theorem q_ldiv {x y : Int64} (hd : decode μ.2.2.1 pc = .ok (.ldiv, 1)) (hne : ¬ y = 0) (k : V Γ l μ R Z kc ks (pc + 1) ls (.long (x / y) :: st) as h) : V Γ l μ R Z kc ks pc ls (.long y :: .long x :: st) as h := by
  intro p e s m args below meth c H locs lsA C ho hP hS hl
  exact lv_ldiv C.1 C.2.1 hd hne (k p e s m args below meth c H locs lsA C ho hP hS hl)
theorem q_lrem {x y : Int64} (hd : decode μ.2.2.1 pc = .ok (.lrem, 1)) (hne : ¬ y = 0) (k : V Γ l μ R Z kc ks (pc + 1) ls (.long (x - x / y * y) :: st) as h) : V Γ l μ R Z kc ks pc ls (.long y :: .long x :: st) as h := by
  intro p e s m args below meth c H locs lsA C ho hP hS hl
  exact lv_lrem C.1 C.2.1 hd hne (k p e s m args below meth c H locs lsA C ho hP hS hl)
theorem q_iushr {x y : Int32} (hd : decode μ.2.2.1 pc = .ok (.iushr, 1))  (k : V Γ l μ R Z kc ks (pc + 1) ls (.int (x.toUInt32 >>> (y.toUInt32 &&& Int32.toUInt32 31)).toInt32 :: st) as h) : V Γ l μ R Z kc ks pc ls (.int y :: .int x :: st) as h := by
  intro p e s m args below meth c H locs lsA C ho hP hS hl
  exact lv_iushr C.1 C.2.1 hd rfl (k p e s m args below meth c H locs lsA C ho hP hS hl)
theorem q_lushr {x : Int64} {y : Int32} (hd : decode μ.2.2.1 pc = .ok (.lushr, 1))  (k : V Γ l μ R Z kc ks (pc + 1) ls (.long (x.toUInt64 >>> (y.toInt64.toUInt64 &&& Int64.toUInt64 63)).toInt64 :: st) as h) : V Γ l μ R Z kc ks pc ls (.int y :: .long x :: st) as h := by
  intro p e s m args below meth c H locs lsA C ho hP hS hl
  exact lv_lushr C.1 C.2.1 hd rfl (k p e s m args below meth c H locs lsA C ho hP hS hl)
theorem q_lshl {x : Int64} {y : Int32} (hd : decode μ.2.2.1 pc = .ok (.lshl, 1))  (k : V Γ l μ R Z kc ks (pc + 1) ls (.long (x <<< (y.toInt64 &&& 63)) :: st) as h) : V Γ l μ R Z kc ks pc ls (.int y :: .long x :: st) as h := by
  intro p e s m args below meth c H locs lsA C ho hP hS hl
  exact lv_lshl C.1 C.2.1 hd rfl (k p e s m args below meth c H locs lsA C ho hP hS hl)
theorem q_lshr {x : Int64} {y : Int32} (hd : decode μ.2.2.1 pc = .ok (.lshr, 1))  (k : V Γ l μ R Z kc ks (pc + 1) ls (.long (x >>> (y.toInt64 &&& 63)) :: st) as h) : V Γ l μ R Z kc ks pc ls (.int y :: .long x :: st) as h := by
  intro p e s m args below meth c H locs lsA C ho hP hS hl
  exact lv_lshr C.1 C.2.1 hd rfl (k p e s m args below meth c H locs lsA C ho hP hS hl)
theorem q_lneg {x : Int64} (hd : decode μ.2.2.1 pc = .ok (.lneg, 1))  (k : V Γ l μ R Z kc ks (pc + 1) ls (.long (-x) :: st) as h) : V Γ l μ R Z kc ks pc ls (.long x :: st) as h := by
  intro p e s m args below meth c H locs lsA C ho hP hS hl
  exact lv_lneg C.1 C.2.1 hd (k p e s m args below meth c H locs lsA C ho hP hS hl)
theorem q_i2l {x : Int32} (hd : decode μ.2.2.1 pc = .ok (.i2l, 1))  (k : V Γ l μ R Z kc ks (pc + 1) ls (.long x.toInt64 :: st) as h) : V Γ l μ R Z kc ks pc ls (.int x :: st) as h := by
  intro p e s m args below meth c H locs lsA C ho hP hS hl
  exact lv_i2l C.1 C.2.1 hd rfl (k p e s m args below meth c H locs lsA C ho hP hS hl)
theorem q_l2i {x : Int64} (hd : decode μ.2.2.1 pc = .ok (.l2i, 1))  (k : V Γ l μ R Z kc ks (pc + 1) ls (.int x.toInt32 :: st) as h) : V Γ l μ R Z kc ks pc ls (.long x :: st) as h := by
  intro p e s m args below meth c H locs lsA C ho hP hS hl
  exact lv_l2i C.1 C.2.1 hd rfl (k p e s m args below meth c H locs lsA C ho hP hS hl)
theorem q_i2b {x : Int32} (hd : decode μ.2.2.1 pc = .ok (.i2b, 1))  (k : V Γ l μ R Z kc ks (pc + 1) ls (.int x.toInt8.toInt32 :: st) as h) : V Γ l μ R Z kc ks pc ls (.int x :: st) as h := by
  intro p e s m args below meth c H locs lsA C ho hP hS hl
  exact lv_i2b C.1 C.2.1 hd rfl (k p e s m args below meth c H locs lsA C ho hP hS hl)
theorem q_lcmp {x y : Int64} (hd : decode μ.2.2.1 pc = .ok (.lcmp, 1))  (k : V Γ l μ R Z kc ks (pc + 1) ls (.int (lg_cmp x y) :: st) as h) : V Γ l μ R Z kc ks pc ls (.long y :: .long x :: st) as h := by
  intro p e s m args below meth c H locs lsA C ho hP hS hl
  exact W.lcmp C.1 C.2.1 hd (k p e s m args below meth c H locs lsA C ho hP hS hl)
theorem q_dup {v : Value} (hd : decode μ.2.2.1 pc = .ok (.dup, 1)) (hv : v.category = 1) (k : V Γ l μ R Z kc ks (pc + 1) ls (v :: v :: st) as h) : V Γ l μ R Z kc ks pc ls (v :: st) as h := by
  intro p e s m args below meth c H locs lsA C ho hP hS hl
  exact lv_dup C.1 C.2.1 hd hv (k p e s m args below meth c H locs lsA C ho hP hS hl)
theorem q_dup2 {v w : Value} (hd : decode μ.2.2.1 pc = .ok (.dup2, 1)) (hv : v.category = 1) (hw : w.category = 1) (k : V Γ l μ R Z kc ks (pc + 1) ls (v :: w :: v :: w :: st) as h) : V Γ l μ R Z kc ks pc ls (v :: w :: st) as h := by
  intro p e s m args below meth c H locs lsA C ho hP hS hl
  exact lv_dup2_11 C.1 C.2.1 hd hv hw (k p e s m args below meth c H locs lsA C ho hP hS hl)
theorem q_pop {v : Value} (hd : decode μ.2.2.1 pc = .ok (.pop, 1)) (hv : v.category = 1) (k : V Γ l μ R Z kc ks (pc + 1) ls st as h) : V Γ l μ R Z kc ks pc ls (v :: st) as h := by
  intro p e s m args below meth c H locs lsA C ho hP hS hl
  exact lv_pop C.1 C.2.1 hd hv (k p e s m args below meth c H locs lsA C ho hP hS hl)
theorem q_if_eq {x : Int32} {off : Int} (tgt : Nat) (hd : decode μ.2.2.1 pc = .ok (.ifCond .eq off, 3)) (ht : (pc : Int) + off = (tgt : Int)) (kt : x = 0 → V Γ l μ R Z kc ks tgt ls st as h) (kf : ¬ x = 0 → V Γ l μ R Z kc ks (pc + 3) ls st as h) : V Γ l μ R Z kc ks pc ls (.int x :: st) as h := by
  intro p e s m args below meth c H locs lsA C ho hP hS hl
  exact lv_if_eq C.1 C.2.1 hd ht (fun z => kt z p e s m args below meth c H locs lsA C ho hP hS hl) (fun z => kf z p e s m args below meth c H locs lsA C ho hP hS hl)
theorem q_if_ne {x : Int32} {off : Int} (tgt : Nat) (hd : decode μ.2.2.1 pc = .ok (.ifCond .ne off, 3)) (ht : (pc : Int) + off = (tgt : Int)) (kt : ¬ x = 0 → V Γ l μ R Z kc ks tgt ls st as h) (kf : x = 0 → V Γ l μ R Z kc ks (pc + 3) ls st as h) : V Γ l μ R Z kc ks pc ls (.int x :: st) as h := by
  intro p e s m args below meth c H locs lsA C ho hP hS hl
  exact lv_if_ne C.1 C.2.1 hd ht (fun z => kt z p e s m args below meth c H locs lsA C ho hP hS hl) (fun z => kf z p e s m args below meth c H locs lsA C ho hP hS hl)
theorem q_if_lt {x : Int32} {off : Int} (tgt : Nat) (hd : decode μ.2.2.1 pc = .ok (.ifCond .lt off, 3)) (ht : (pc : Int) + off = (tgt : Int)) (kt : x < 0 → V Γ l μ R Z kc ks tgt ls st as h) (kf : ¬ x < 0 → V Γ l μ R Z kc ks (pc + 3) ls st as h) : V Γ l μ R Z kc ks pc ls (.int x :: st) as h := by
  intro p e s m args below meth c H locs lsA C ho hP hS hl
  exact lv_if_lt C.1 C.2.1 hd ht (fun z => kt z p e s m args below meth c H locs lsA C ho hP hS hl) (fun z => kf z p e s m args below meth c H locs lsA C ho hP hS hl)
theorem q_if_ge {x : Int32} {off : Int} (tgt : Nat) (hd : decode μ.2.2.1 pc = .ok (.ifCond .ge off, 3)) (ht : (pc : Int) + off = (tgt : Int)) (kt : 0 ≤ x → V Γ l μ R Z kc ks tgt ls st as h) (kf : ¬ 0 ≤ x → V Γ l μ R Z kc ks (pc + 3) ls st as h) : V Γ l μ R Z kc ks pc ls (.int x :: st) as h := by
  intro p e s m args below meth c H locs lsA C ho hP hS hl
  exact lv_if_ge C.1 C.2.1 hd ht (fun z => kt z p e s m args below meth c H locs lsA C ho hP hS hl) (fun z => kf z p e s m args below meth c H locs lsA C ho hP hS hl)
theorem q_if_gt {x : Int32} {off : Int} (tgt : Nat) (hd : decode μ.2.2.1 pc = .ok (.ifCond .gt off, 3)) (ht : (pc : Int) + off = (tgt : Int)) (kt : 0 < x → V Γ l μ R Z kc ks tgt ls st as h) (kf : ¬ 0 < x → V Γ l μ R Z kc ks (pc + 3) ls st as h) : V Γ l μ R Z kc ks pc ls (.int x :: st) as h := by
  intro p e s m args below meth c H locs lsA C ho hP hS hl
  exact lv_if_gt C.1 C.2.1 hd ht (fun z => kt z p e s m args below meth c H locs lsA C ho hP hS hl) (fun z => kf z p e s m args below meth c H locs lsA C ho hP hS hl)
theorem q_if_le {x : Int32} {off : Int} (tgt : Nat) (hd : decode μ.2.2.1 pc = .ok (.ifCond .le off, 3)) (ht : (pc : Int) + off = (tgt : Int)) (kt : x ≤ 0 → V Γ l μ R Z kc ks tgt ls st as h) (kf : ¬ x ≤ 0 → V Γ l μ R Z kc ks (pc + 3) ls st as h) : V Γ l μ R Z kc ks pc ls (.int x :: st) as h := by
  intro p e s m args below meth c H locs lsA C ho hP hS hl
  exact lv_if_le C.1 C.2.1 hd ht (fun z => kt z p e s m args below meth c H locs lsA C ho hP hS hl) (fun z => kf z p e s m args below meth c H locs lsA C ho hP hS hl)
theorem q_icmp_eq {x y : Int32} {off : Int} (tgt : Nat) (hd : decode μ.2.2.1 pc = .ok (.if_icmp .eq off, 3)) (ht : (pc : Int) + off = (tgt : Int)) (kt : x = y → V Γ l μ R Z kc ks tgt ls st as h) (kf : ¬ x = y → V Γ l μ R Z kc ks (pc + 3) ls st as h) : V Γ l μ R Z kc ks pc ls (.int y :: .int x :: st) as h := by
  intro p e s m args below meth c H locs lsA C ho hP hS hl
  exact lv_icmp_eq C.1 C.2.1 hd ht (fun z => kt z p e s m args below meth c H locs lsA C ho hP hS hl) (fun z => kf z p e s m args below meth c H locs lsA C ho hP hS hl)
theorem q_icmp_ne {x y : Int32} {off : Int} (tgt : Nat) (hd : decode μ.2.2.1 pc = .ok (.if_icmp .ne off, 3)) (ht : (pc : Int) + off = (tgt : Int)) (kt : ¬ x = y → V Γ l μ R Z kc ks tgt ls st as h) (kf : x = y → V Γ l μ R Z kc ks (pc + 3) ls st as h) : V Γ l μ R Z kc ks pc ls (.int y :: .int x :: st) as h := by
  intro p e s m args below meth c H locs lsA C ho hP hS hl
  exact lv_icmp_ne C.1 C.2.1 hd ht (fun z => kt z p e s m args below meth c H locs lsA C ho hP hS hl) (fun z => kf z p e s m args below meth c H locs lsA C ho hP hS hl)
theorem q_icmp_lt {x y : Int32} {off : Int} (tgt : Nat) (hd : decode μ.2.2.1 pc = .ok (.if_icmp .lt off, 3)) (ht : (pc : Int) + off = (tgt : Int)) (kt : x < y → V Γ l μ R Z kc ks tgt ls st as h) (kf : ¬ x < y → V Γ l μ R Z kc ks (pc + 3) ls st as h) : V Γ l μ R Z kc ks pc ls (.int y :: .int x :: st) as h := by
  intro p e s m args below meth c H locs lsA C ho hP hS hl
  exact lv_icmp_lt C.1 C.2.1 hd ht (fun z => kt z p e s m args below meth c H locs lsA C ho hP hS hl) (fun z => kf z p e s m args below meth c H locs lsA C ho hP hS hl)
theorem q_icmp_ge {x y : Int32} {off : Int} (tgt : Nat) (hd : decode μ.2.2.1 pc = .ok (.if_icmp .ge off, 3)) (ht : (pc : Int) + off = (tgt : Int)) (kt : y ≤ x → V Γ l μ R Z kc ks tgt ls st as h) (kf : ¬ y ≤ x → V Γ l μ R Z kc ks (pc + 3) ls st as h) : V Γ l μ R Z kc ks pc ls (.int y :: .int x :: st) as h := by
  intro p e s m args below meth c H locs lsA C ho hP hS hl
  exact lv_icmp_ge C.1 C.2.1 hd ht (fun z => kt z p e s m args below meth c H locs lsA C ho hP hS hl) (fun z => kf z p e s m args below meth c H locs lsA C ho hP hS hl)
theorem q_icmp_gt {x y : Int32} {off : Int} (tgt : Nat) (hd : decode μ.2.2.1 pc = .ok (.if_icmp .gt off, 3)) (ht : (pc : Int) + off = (tgt : Int)) (kt : y < x → V Γ l μ R Z kc ks tgt ls st as h) (kf : ¬ y < x → V Γ l μ R Z kc ks (pc + 3) ls st as h) : V Γ l μ R Z kc ks pc ls (.int y :: .int x :: st) as h := by
  intro p e s m args below meth c H locs lsA C ho hP hS hl
  exact lv_icmp_gt C.1 C.2.1 hd ht (fun z => kt z p e s m args below meth c H locs lsA C ho hP hS hl) (fun z => kf z p e s m args below meth c H locs lsA C ho hP hS hl)
theorem q_icmp_le {x y : Int32} {off : Int} (tgt : Nat) (hd : decode μ.2.2.1 pc = .ok (.if_icmp .le off, 3)) (ht : (pc : Int) + off = (tgt : Int)) (kt : x ≤ y → V Γ l μ R Z kc ks tgt ls st as h) (kf : ¬ x ≤ y → V Γ l μ R Z kc ks (pc + 3) ls st as h) : V Γ l μ R Z kc ks pc ls (.int y :: .int x :: st) as h := by
  intro p e s m args below meth c H locs lsA C ho hP hS hl
  exact lv_icmp_le C.1 C.2.1 hd ht (fun z => kt z p e s m args below meth c H locs lsA C ho hP hS hl) (fun z => kf z p e s m args below meth c H locs lsA C ho hP hS hl)
theorem q_goto {off : Int} (tgt : Nat) (hd : decode μ.2.2.1 pc = .ok (.goto off, 3)) (ht : (pc : Int) + off = (tgt : Int)) (k : V Γ l μ R Z kc ks tgt ls st as h) : V Γ l μ R Z kc ks pc ls st as h := by
  intro p e s m args below meth c H locs lsA C ho hP hS hl
  exact lv_goto C.1 C.2.1 hd ht (k p e s m args below meth c H locs lsA C ho hP hS hl)
theorem q_tableIn {dflt lo hi : Int} {offs : Array Int} {len : Nat} {x : Int32} {off : Int} (tgt : Nat) (hd : decode μ.2.2.1 pc = .ok (.tableswitch dflt lo hi offs, len)) (h1 : ¬ x.toInt < lo) (h2 : ¬ hi < x.toInt) (ho : offs[(x.toInt - lo).toNat]? = some off) (ht : (pc : Int) + off = (tgt : Int)) (k : V Γ l μ R Z kc ks tgt ls st as h) : V Γ l μ R Z kc ks pc ls (.int x :: st) as h := by
  intro p e s m args below meth c H locs lsA C hok hP hS hl
  exact lv_tableIn C.1 C.2.1 hd h1 h2 ho ht (k p e s m args below meth c H locs lsA C hok hP hS hl)
theorem q_tableOut {dflt lo hi : Int} {offs : Array Int} {len : Nat} {x : Int32} (tgt : Nat) (hd : decode μ.2.2.1 pc = .ok (.tableswitch dflt lo hi offs, len)) (h1 : x.toInt < lo ∨ hi < x.toInt) (ht : (pc : Int) + dflt = (tgt : Int)) (k : V Γ l μ R Z kc ks tgt ls st as h) : V Γ l μ R Z kc ks pc ls (.int x :: st) as h := by
  intro p e s m args below meth c H locs lsA C ho hP hS hl
  exact lv_tableOut C.1 C.2.1 hd h1 ht (k p e s m args below meth c H locs lsA C ho hP hS hl)
/-- the field link index of the method's class names field k of class ci -/
def FL (μ : mT) (index ci k : Nat) : Prop := ∃ (C : String) (T : u_T) (N : Nat), vwCl[ci]? = some (C, T, N) ∧ k < N ∧ (∀ w ∈ u_ws C T N, w ∈ μ.2.2.2.2.2) ∧ Cond.fieldLink μ.2.1 index (T k).1 (T k).2.1 (T k).2.2.1 ∈ μ.2.2.2.2.2
def FP (μ : mT) (index ci k : Nat) (ty : FieldType) (fin : Bool) : Prop := ∃ (C : String) (T : u_T) (N : Nat) (ty0 : Nat → FieldType), vwCl[ci]? = some (C, T, N) ∧ k < N ∧ (∀ w ∈ u_ws C T N, w ∈ μ.2.2.2.2.2) ∧ Cond.fieldLink μ.2.1 index (T k).1 (T k).2.1 (T k).2.2.1 ∈ μ.2.2.2.2.2 ∧ (∀ k, k < N → parseFieldDescriptor (T k).2.2.1 = some (ty0 k)) ∧ (∀ a, a < N → ∀ b, b < N → a ≠ b → (T a).2.1 ≠ (T b).2.1) ∧ (T k).2.2.2 = fin ∧ ty0 k = ty ∧ (fin = true → (T k).1 = μ.2.1)
theorem q_get {index ci k0 a : Nat} {fs : List Value} {v : Value} (hd : decode μ.2.2.1 pc = .ok (.getfield index, 3)) (hf : FL μ index ci k0) (ha : hat as h a (ob ci fs)) (hv : fs[k0]? = some v) (k : V Γ l μ R Z kc ks (pc + 3) ls (v :: st) as h) : V Γ l μ R Z kc ks pc ls (.ref a :: st) as h := by
  intro p e s m args below meth c H locs lsA C ho hP hS hl
  obtain ⟨C0, T, N, hc, hk, hin, hlk⟩ := hf
  obtain ⟨i, hi, hw⟩ := wW_at ha
  exact va_get (D := Γ.1) C.1 C.2.1 C.2.2.2.2.2.1 hin C.2.2.2.2.1 C.2.2.2.2.2.2.2.2.1 hP i hw hc k0 hk (C.2.2.2.2.2.1 _ hlk) (fun _ z => z) hv hd (k p e s m args below meth c H locs lsA C ho hP hS hl)
theorem q_put {index ci k0 a : Nat} {fs : List Value} {v : Value} {ty : FieldType} (hd : decode μ.2.2.1 pc = .ok (.putfield index, 3)) (hf : FP μ index ci k0 ty false) (ha : hat as h a (ob ci fs)) (hn : narrow ty v = v) (hfit : fits ty v = true) (hlen : k0 < fs.length) (k : V Γ l μ R Z kc ks (pc + 3) ls st as (hset h a (ob ci (fs.set k0 v)))) : V Γ l μ R Z kc ks pc ls (v :: .ref a :: st) as h := by
  intro p e s m args below meth c H locs lsA C ho hP hS hl
  obtain ⟨C0, T, N, ty0, hc, hk, hin, hlk, hty, hnm, hfin, hdd, hdc⟩ := hf
  obtain ⟨i, hi, hw⟩ := wW_at ha
  refine va_put (D := Γ.1) C.1 C.2.1 C.2.2.2.2.2.1 hin ty0 hty hnm C.2.2.2.2.1 C.2.2.2.2.2.2.2.2.1 hP (wW_D ho) hS i hw hc k0 hk (C.2.2.2.2.2.1 _ hlk) (fun _ z => z) hfin (hty k0 hk) (by rw [hdd]; exact hn) (by rw [hdd]; exact hfit) hlen hd (fun H1 locs1 hP1 _ hS1 => ?_)
  rw [wW_set ho.1 hi] at hP1
  exact k p e s m args below meth c H1 locs1 lsA C ho hP1 hS1 hl
theorem q_putF {index ci k0 a : Nat} {fs : List Value} {v : Value} {ty : FieldType} (hd : decode μ.2.2.1 pc = .ok (.putfield index, 3)) (hf : FP μ index ci k0 ty true) (hini : μ.1.name = "<init>") (ha : hat as h a (ob ci fs)) (hn : narrow ty v = v) (hfit : fits ty v = true) (hlen : k0 < fs.length) (k : V Γ l μ R Z kc ks (pc + 3) ls st as (hset h a (ob ci (fs.set k0 v)))) : V Γ l μ R Z kc ks pc ls (v :: .ref a :: st) as h := by
  intro p e s m args below meth c H locs lsA C ho hP hS hl
  obtain ⟨C0, T, N, ty0, hc, hk, hin, hlk, hty, hnm, hfin, hdd, hdc⟩ := hf
  obtain ⟨i, hi, hw⟩ := wW_at ha
  refine va_putF (D := Γ.1) C.1 C.2.1 C.2.2.2.2.2.1 hin ty0 hty hnm C.2.2.2.2.1 C.2.2.2.2.2.2.2.2.1 hP (wW_D ho) hS i hw hc k0 hk (C.2.2.2.2.2.1 _ hlk) (fun _ z => z) hfin (C.2.2.2.2.2.2.2.1.trans hini) (hdc rfl) (hty k0 hk) (by rw [hdd]; exact hn) (by rw [hdd]; exact hfit) hlen hd (fun H1 locs1 hP1 _ hS1 => ?_)
  rw [wW_set ho.1 hi] at hP1
  exact k p e s m args below meth c H1 locs1 lsA C ho hP1 hS1 hl
theorem q_iald {a N : Nat} {f : Nat → Int32} {i : Int32} (hd : decode μ.2.2.1 pc = .ok (.iaload, 1)) (ha : hat as h a (aI Γ N f)) (hin : vp_in i N) (k : V Γ l μ R Z kc ks (pc + 1) ls (.int (f i.toNatClampNeg) :: st) as h) : V Γ l μ R Z kc ks pc ls (.int i :: .ref a :: st) as h := by
  intro p e s m args below meth c H locs lsA C ho hP hS hl
  obtain ⟨j, hj, hw⟩ := wW_at ha
  exact va_iald (D := Γ.1) C.1 C.2.1 C.2.2.2.2.2.2.2.2.1 hP j 1 hw rfl hin hd (k p e s m args below meth c H locs lsA C ho hP hS hl)
theorem q_bald {a N : Nat} {f : Nat → Int32} {i : Int32} (hd : decode μ.2.2.1 pc = .ok (.baload, 1)) (ha : hat as h a (aB Γ N f)) (hin : vp_in i N) (k : V Γ l μ R Z kc ks (pc + 1) ls (.int (f i.toNatClampNeg) :: st) as h) : V Γ l μ R Z kc ks pc ls (.int i :: .ref a :: st) as h := by
  intro p e s m args below meth c H locs lsA C ho hP hS hl
  obtain ⟨j, hj, hw⟩ := wW_at ha
  exact va_bald (D := Γ.1) C.1 C.2.1 C.2.2.2.2.2.2.2.2.1 hP j 0 hw rfl hin hd (k p e s m args below meth c H locs lsA C ho hP hS hl)
theorem q_zald {a N : Nat} {f : Nat → Int32} {i : Int32} (hd : decode μ.2.2.1 pc = .ok (.baload, 1)) (ha : hat as h a (aZ Γ N f)) (hin : vp_in i N) (k : V Γ l μ R Z kc ks (pc + 1) ls (.int (f i.toNatClampNeg) :: st) as h) : V Γ l μ R Z kc ks pc ls (.int i :: .ref a :: st) as h := by
  intro p e s m args below meth c H locs lsA C ho hP hS hl
  obtain ⟨j, hj, hw⟩ := wW_at ha
  exact va_zald (D := Γ.1) C.1 C.2.1 C.2.2.2.2.2.2.2.2.1 hP j 3 hw rfl hin hd (k p e s m args below meth c H locs lsA C ho hP hS hl)
theorem q_lald {a N : Nat} {f : Nat → Int64} {i : Int32} (hd : decode μ.2.2.1 pc = .ok (.laload, 1)) (ha : hat as h a (aJ Γ N f)) (hin : vp_in i N) (k : V Γ l μ R Z kc ks (pc + 1) ls (.long (f i.toNatClampNeg) :: st) as h) : V Γ l μ R Z kc ks pc ls (.int i :: .ref a :: st) as h := by
  intro p e s m args below meth c H locs lsA C ho hP hS hl
  obtain ⟨j, hj, hw⟩ := wW_at ha
  exact va_lald (D := Γ.1) C.1 C.2.1 C.2.2.2.2.2.2.2.2.1 hP j 2 hw rfl hin hd (k p e s m args below meth c H locs lsA C ho hP hS hl)
theorem q_aald {a N : Nat} {f : Nat → Option Nat} {i : Int32} (hd : decode μ.2.2.1 pc = .ok (.aaload, 1)) (ha : hat as h a (aO Γ N f)) (hin : vp_in i N) (k : V Γ l μ R Z kc ks (pc + 1) ls (va_rf (f i.toNatClampNeg) :: st) as h) : V Γ l μ R Z kc ks pc ls (.int i :: .ref a :: st) as h := by
  intro p e s m args below meth c H locs lsA C ho hP hS hl
  obtain ⟨j, hj, hw⟩ := wW_at ha
  exact va_aldq (D := Γ.1) C.1 C.2.1 C.2.2.2.2.2.2.2.2.1 hP j 4 hw rfl hin hd (k p e s m args below meth c H locs lsA C ho hP hS hl)
theorem q_iast {a N : Nat} {f : Nat → Int32} {i : Int32} {x : Int32} (hd : decode μ.2.2.1 pc = .ok (.iastore, 1)) (ha : hat as h a (aI Γ N f)) (hin : vp_in i N) (k : V Γ l μ R Z kc ks (pc + 1) ls st as (hset h a (aI Γ N (upd f i.toNatClampNeg x)))) : V Γ l μ R Z kc ks pc ls (.int x :: .int i :: .ref a :: st) as h := by
  intro p e s m args below meth c H locs lsA C ho hP hS hl
  obtain ⟨j, hj, hw⟩ := wW_at ha
  refine va_iast (D := Γ.1) C.1 C.2.1 C.2.2.2.2.2.2.2.2.1 hP (wW_D ho) hS j 1 hw rfl hin hd (fun H1 locs1 hP1 _ hS1 => ?_)
  rw [wW_set ho.1 hj] at hP1
  exact k p e s m args below meth c H1 locs1 lsA C ho hP1 hS1 hl
theorem q_bast {a N : Nat} {f : Nat → Int32} {i : Int32} {x : Int32} (hd : decode μ.2.2.1 pc = .ok (.bastore, 1)) (ha : hat as h a (aB Γ N f)) (hin : vp_in i N) (k : V Γ l μ R Z kc ks (pc + 1) ls st as (hset h a (aB Γ N (upd f i.toNatClampNeg (vp_nar .byte x))))) : V Γ l μ R Z kc ks pc ls (.int x :: .int i :: .ref a :: st) as h := by
  intro p e s m args below meth c H locs lsA C ho hP hS hl
  obtain ⟨j, hj, hw⟩ := wW_at ha
  refine va_bast (D := Γ.1) C.1 C.2.1 C.2.2.2.2.2.2.2.2.1 hP (wW_D ho) hS j 0 hw rfl hin hd (fun H1 locs1 hP1 _ hS1 => ?_)
  rw [wW_set ho.1 hj] at hP1
  exact k p e s m args below meth c H1 locs1 lsA C ho hP1 hS1 hl
theorem q_zast {a N : Nat} {f : Nat → Int32} {i : Int32} {x : Int32} (hd : decode μ.2.2.1 pc = .ok (.bastore, 1)) (ha : hat as h a (aZ Γ N f)) (hin : vp_in i N) (k : V Γ l μ R Z kc ks (pc + 1) ls st as (hset h a (aZ Γ N (upd f i.toNatClampNeg (vp_nar .boolean x))))) : V Γ l μ R Z kc ks pc ls (.int x :: .int i :: .ref a :: st) as h := by
  intro p e s m args below meth c H locs lsA C ho hP hS hl
  obtain ⟨j, hj, hw⟩ := wW_at ha
  refine va_zast (D := Γ.1) C.1 C.2.1 C.2.2.2.2.2.2.2.2.1 hP (wW_D ho) hS j 3 hw rfl hin hd (fun H1 locs1 hP1 _ hS1 => ?_)
  rw [wW_set ho.1 hj] at hP1
  exact k p e s m args below meth c H1 locs1 lsA C ho hP1 hS1 hl
theorem q_last {a N : Nat} {f : Nat → Int64} {i : Int32} {x : Int64} (hd : decode μ.2.2.1 pc = .ok (.lastore, 1)) (ha : hat as h a (aJ Γ N f)) (hin : vp_in i N) (k : V Γ l μ R Z kc ks (pc + 1) ls st as (hset h a (aJ Γ N (vp_updL f i.toNatClampNeg x)))) : V Γ l μ R Z kc ks pc ls (.long x :: .int i :: .ref a :: st) as h := by
  intro p e s m args below meth c H locs lsA C ho hP hS hl
  obtain ⟨j, hj, hw⟩ := wW_at ha
  refine va_last (D := Γ.1) C.1 C.2.1 C.2.2.2.2.2.2.2.2.1 hP (wW_D ho) hS j 2 hw rfl hin hd (fun H1 locs1 hP1 _ hS1 => ?_)
  rw [wW_set ho.1 hj] at hP1
  exact k p e s m args below meth c H1 locs1 lsA C ho hP1 hS1 hl
theorem q_alen {a N : Nat} {f : Nat → Int32} {v : Int32} (hd : decode μ.2.2.1 pc = .ok (.arraylength, 1)) (ha : hat as h a (aI Γ N f)) (hv : Int32.ofNat N = v) (k : V Γ l μ R Z kc ks (pc + 1) ls (.int v :: st) as h) : V Γ l μ R Z kc ks pc ls (.ref a :: st) as h := by
  intro p e s m args below meth c H locs lsA C ho hP hS hl
  obtain ⟨j, hj, hw⟩ := wW_at ha
  exact va_alen (D := Γ.1) C.1 C.2.1 C.2.2.2.2.2.2.2.2.1 hP j 1 hw rfl hv hd (k p e s m args below meth c H locs lsA C ho hP hS hl)
theorem q_iret {Q : qT} {v : Int32} (hd : decode μ.2.2.1 pc = .ok (.ireturn, 1)) (hr : μ.2.2.2.2.1 = some .int) (hkc : kc ≤ R.cells) (hks : ks ≤ R.slots) (hq : Q (some (.int v)) as h) : V Γ l μ R (Zm Γ R Q) kc ks pc ls ([.int v]) as h := by
  intro p e s m args below meth c H locs lsA C ho hP hS hl
  refine W.widen hkc hks ?_
  exact W.iret C.1 C.2.1 (C.2.2.1.trans hr) (fun t ht hW => ⟨⟨_, as, h, rfl, hq, ho, by rw [ht]; exact hP, va_K.moved hW.alike C.2.2.2.2.2.2.2.2.1⟩, hS.F ht⟩) hS.2.2 hd C.2.2.2.2.2.2.1
theorem q_zret {Q : qT} {v : Int32} {ty : FieldType} (hd : decode μ.2.2.1 pc = .ok (.ireturn, 1)) (hr : μ.2.2.2.2.1 = some ty) (hn : narrow ty (.int v) = .int v) (hkc : kc ≤ R.cells) (hks : ks ≤ R.slots) (hq : Q (some (.int v)) as h) : V Γ l μ R (Zm Γ R Q) kc ks pc ls ([.int v]) as h := by
  intro p e s m args below meth c H locs lsA C ho hP hS hl
  refine W.widen hkc hks ?_
  exact W.zret C.1 C.2.1 (C.2.2.1.trans hr) hn (fun t ht hW => ⟨⟨_, as, h, rfl, hq, ho, by rw [ht]; exact hP, va_K.moved hW.alike C.2.2.2.2.2.2.2.2.1⟩, hS.F ht⟩) hS.2.2 hd C.2.2.2.2.2.2.1
theorem q_lret {Q : qT} {v : Int64} (hd : decode μ.2.2.1 pc = .ok (.lreturn, 1)) (hr : μ.2.2.2.2.1 = some .long) (hkc : kc ≤ R.cells) (hks : ks ≤ R.slots) (hq : Q (some (.long v)) as h) : V Γ l μ R (Zm Γ R Q) kc ks pc ls ([.long v]) as h := by
  intro p e s m args below meth c H locs lsA C ho hP hS hl
  refine W.widen hkc hks ?_
  exact W.lret C.1 C.2.1 (C.2.2.1.trans hr) (fun t ht hW => ⟨⟨_, as, h, rfl, hq, ho, by rw [ht]; exact hP, va_K.moved hW.alike C.2.2.2.2.2.2.2.2.1⟩, hS.F ht⟩) hS.2.2 hd C.2.2.2.2.2.2.1
theorem q_vret {Q : qT}  (hd : decode μ.2.2.1 pc = .ok (.return_, 1)) (hr : μ.2.2.2.2.1 = none) (hkc : kc ≤ R.cells) (hks : ks ≤ R.slots) (hq : Q (none) as h) : V Γ l μ R (Zm Γ R Q) kc ks pc ls ([]) as h := by
  intro p e s m args below meth c H locs lsA C ho hP hS hl
  refine W.widen hkc hks ?_
  exact W.vret C.1 C.2.1 (C.2.2.1.trans hr) (fun t ht hW => ⟨⟨_, as, h, rfl, hq, ho, by rw [ht]; exact hP, va_K.moved hW.alike C.2.2.2.2.2.2.2.2.1⟩, hS.F ht⟩) hS.2.2 hd C.2.2.2.2.2.2.1
/-- behind a call: the callee's answer and world -/
theorem q_run {Q' : qT} {mc ms : Nat} {st0 : List Value} (hr : ∀ (p : Program) (e : Env) (s : State) (m : MethodId) (args : Array Value) (below : List Frame) (meth : Method) (c : Code) (H : Heap) (locs : List Loc) (lsA : Array Slot), Ctx Γ μ p s m args meth c → asOK Γ as → va_P Γ.1 vwCl (wW as h) H → va_S (gA Γ) s.heap H locs → lv_has lsA μ.2.2.2.1 ls →
      ∃ aa, va_Run p l e R s m args below meth c H locs kc ks mc ms (F0 m pc lsA st0) st (QcD Γ Q' aa) (gA Γ))
    (k : ∀ (r : Option Value) (as' : List Nat) (h' : aH), Q' r as' h' → V Γ l μ R Z (kc + mc) (ks + ms) (pc + 3) ls (r.toList ++ st) as' h') : V Γ l μ R Z kc ks pc ls st0 as h := by
  intro p e s m args below meth c H locs lsA C ho hP hS hl
  obtain ⟨aa, hrun⟩ := hr p e s m args below meth c H locs lsA C ho hP hS hl
  intro T hT X
  obtain ⟨v, st₀, t, T', L, h0, X', hL, e1, e2, ⟨⟨r, as', h', hv, hq, hW1, hP1, hK1⟩, hz, hk⟩, stp⟩ := hrun T hT X
  cases hv
  rw [h0] at hz hk
  obtain ⟨t2, a1, b1⟩ := k _ as' h' hq p e s m args below meth c T'.heap (locs ++ L) lsA C hW1 (by rw [e1]; exact hP1) ⟨Nat.le_trans hS.1 (by rw [e1]; exact hz), fun q h1 h2 => by rw [e1, hk q (Nat.lt_of_lt_of_le h1 hS.1) h2]; exact hS.2.1 q h1 h2, fun q hq => by
      rcases List.mem_append.mp hq with h | h
      · exact hS.2.2 q h
      · exact hL q h⟩ hl T' rfl X'
  exact ⟨t2, stp t2 a1, b1⟩
theorem pre_of {p : Program} {s : State} {m : MethodId} {args : Array Value} {meth : Method} {c : Code} {H : Heap} {locs : List Loc} {av : List Value} (C : Ctx Γ μ p s m args meth c) (ho : asOK Γ as) (hP : va_P Γ.1 vwCl (wW as h) H) (hS : va_S (gA Γ) s.heap H locs) : ∀ U : State, U.heap = H → s.WarmedH U.vm → PcD Γ av as h av.toArray U := by
  intro U hU hW
  refine ⟨rfl, ⟨ho, by rw [hU]; exact hP, va_K.moved hW.alike C.2.2.2.2.2.2.2.2.1⟩, ?_, ?_⟩
  · rw [hU]
    exact (C.2.2.2.2.2.2.2.2.2.1.kept hS.2.1).warm hW
  · rw [hU]
    exact Nat.le_trans C.2.2.2.2.2.2.2.2.2.2 hS.1
/-- what a call needs of the names: printed rows give it -/
def CWV (μ : mT) (index : Nat) (μ' : mT) (na : Nat) : Prop := GoodIn μ.2.2.2.2.2 (wsV μ.2.1 index μ'.2.1 μ'.1 μ'.2.2.2.2.2) ∧ (∃ ws', μ'.2.2.2.2.2 = Cond.code μ'.1 μ'.2.2.1 μ'.2.2.2.1 μ'.2.2.2.2.1 :: ws') ∧ μ'.1.cls = μ'.2.1 ∧ μ'.1.cls ≠ "java/lang/invoke/MethodHandle" ∧ μ'.1.cls ≠ "java/lang/invoke/VarHandle" ∧ (parseMethodDescriptor μ'.1.desc).map (fun d => d.parameters.length) = some na
def CWS (μ : mT) (index : Nat) (μ' : mT) (na : Nat) : Prop := GoodIn μ.2.2.2.2.2 (va_wsS μ.2.1 index μ'.1 μ'.2.2.2.2.2) ∧ (∃ ws', μ'.2.2.2.2.2 = Cond.code μ'.1 μ'.2.2.1 μ'.2.2.2.1 μ'.2.2.2.2.1 :: ws') ∧ μ'.1.cls ≠ "java/lang/invoke/MethodHandle" ∧ μ'.1.cls ≠ "java/lang/invoke/VarHandle" ∧ (parseMethodDescriptor μ'.1.desc).map (fun d => d.parameters.length) = some na
/-- the callee fits the caller's room -/
def fitR (R : Room) (μ' : mT) (R' : Room) (kc ks : Nat) : Prop := (R'.frames + 1 ≤ R.frames ∧ 8 + (μ'.2.2.2.1 + 11) + R'.locals ≤ R.locals) ∧ kc + R'.cells ≤ R.cells ∧ ks + R'.slots ≤ R.slots
theorem q_callV {index na a ci : Nat} {μ' : mT} {R' : Room} {fs As : List Value} {Q' : qT} {st0 : List Value} (hd : decode μ.2.2.1 pc = .ok (.invokevirtual index, 3)) (cw : CWV μ index μ' na) (ha : hat as h a (ob ci fs)) (hci : ∃ T N, vwCl[ci]? = some (μ'.2.1, T, N)) (hM : Con Γ l μ' R' (.ref a :: As) as h Q') (hna : As.length = na) (hst : st0 = As.reverse ++ .ref a :: st) (hcat : (st.map fun v => v.category).sum ≤ 8) (hR : fitR R μ' R' kc ks)
    (k : ∀ (r : Option Value) (as' : List Nat) (h' : aH), Q' r as' h' → V Γ l μ R Z (kc + R'.cells) (ks + R'.slots) (pc + 3) ls (r.toList ++ st) as' h') : V Γ l μ R Z kc ks pc ls st0 as h := by
  refine q_run (Q' := Q') (mc := R'.cells) (ms := R'.slots) (st := st) ?_ k
  intro p e s m args below meth c H locs lsA C ho hP hS hl
  obtain ⟨hG, ⟨ws', hw⟩, hd1, hd2, hd3, hd4⟩ := cw
  obtain ⟨T, N, hc⟩ := hci
  obtain ⟨i, hi, hwa⟩ := wW_at ha
  exact ⟨_, va_runV (As := As) (rest := st) ⟨C.1, C.2.1, C.2.2.2.1, C.2.2.2.2.1, C.2.2.2.2.2.1⟩ hM (cwV na C.2.2.2.2.2.1 hG hw rfl rfl ⟨hd1, hd2, hd3, hd4⟩ hR.1) ⟨PcD_blind, va_recv C.2.2.2.2.2.2.2.2.1 hP hc hwa, pre_of C ho hP hS⟩ rfl hna hl.1 hst (lv_room hcat) hd hR.2⟩
theorem q_callS {index na : Nat} {μ' : mT} {R' : Room} {As : List Value} {Q' : qT} {st0 : List Value} (hd : decode μ.2.2.1 pc = .ok (.invokestatic index, 3)) (cw : CWS μ index μ' na) (hM : Con Γ l μ' R' As as h Q') (hna : As.length = na) (hst : st0 = As.reverse ++ st) (hcat : (st.map fun v => v.category).sum ≤ 8) (hR : fitR R μ' R' kc ks)
    (k : ∀ (r : Option Value) (as' : List Nat) (h' : aH), Q' r as' h' → V Γ l μ R Z (kc + R'.cells) (ks + R'.slots) (pc + 3) ls (r.toList ++ st) as' h') : V Γ l μ R Z kc ks pc ls st0 as h := by
  refine q_run (Q' := Q') (mc := R'.cells) (ms := R'.slots) (st := st) ?_ k
  intro p e s m args below meth c H locs lsA C ho hP hS hl
  obtain ⟨hG, ⟨ws', hw⟩, hd2, hd3, hd4⟩ := cw
  exact ⟨_, va_runS (As := As) (rest := st) ⟨C.1, C.2.1, C.2.2.2.1, C.2.2.2.2.1, C.2.2.2.2.2.1⟩ hM (va_cwS na C.2.2.2.2.2.1 hG hw rfl rfl ⟨hd2, hd3, hd4⟩ hR.1) ⟨PcD_blind, pre_of C ho hP hS⟩ rfl hna hl.1 hst (lv_room hcat) hd hR.2⟩
/-- calls of methods that make nothing, by a contract that names answer and world -/
theorem q_callVd {index na a ci : Nat} {μ' : mT} {fr lo : Nat} {fs As : List Value} {r0 : Option Value} {h0 : aH} {st0 : List Value} (hd : decode μ.2.2.1 pc = .ok (.invokevirtual index, 3)) (cw : CWV μ index μ' na) (hM : Det Γ l μ' { frames := fr, cells := 0, slots := 0, locals := lo } (.ref a :: As) as h r0 h0) (ha : hat as h a (ob ci fs)) (hci : ∃ T N, vwCl[ci]? = some (μ'.2.1, T, N)) (hna : As.length = na) (hst : st0 = As.reverse ++ .ref a :: st) (hcat : (st.map fun v => v.category).sum ≤ 8) (hR : fitR R μ' { frames := fr, cells := 0, slots := 0, locals := lo } kc ks)
    (k : V Γ l μ R Z kc ks (pc + 3) ls (r0.toList ++ st) as h0) : V Γ l μ R Z kc ks pc ls st0 as h :=
  q_callV hd cw ha hci hM hna hst hcat hR (fun r as' h' q => by obtain ⟨rfl, rfl, rfl⟩ := q; exact k)
theorem q_callSd {index na : Nat} {μ' : mT} {fr lo : Nat} {As : List Value} {r0 : Option Value} {h0 : aH} {st0 : List Value} (hd : decode μ.2.2.1 pc = .ok (.invokestatic index, 3)) (cw : CWS μ index μ' na) (hM : Det Γ l μ' { frames := fr, cells := 0, slots := 0, locals := lo } As as h r0 h0) (hna : As.length = na) (hst : st0 = As.reverse ++ st) (hcat : (st.map fun v => v.category).sum ≤ 8) (hR : fitR R μ' { frames := fr, cells := 0, slots := 0, locals := lo } kc ks)
    (k : V Γ l μ R Z kc ks (pc + 3) ls (r0.toList ++ st) as h0) : V Γ l μ R Z kc ks pc ls st0 as h :=
  q_callS hd cw hM hna hst hcat hR (fun r as' h' q => by obtain ⟨rfl, rfl, rfl⟩ := q; exact k)
end Rules
