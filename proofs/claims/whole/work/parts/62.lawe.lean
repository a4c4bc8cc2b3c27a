/-! THE LAW: its entry -/
theorem tw_k0 : Cond.instantiable RX0 5 ∈ lw_tbl := List.mem_of_getElem? (i := 157) (by decide +kernel)
theorem tw_k1 : Cond.instantiable RX1 4 ∈ lw_tbl := List.mem_of_getElem? (i := 190) (by decide +kernel)
theorem tw_k2 : Cond.instantiable RX2 1 ∈ lw_tbl := List.mem_of_getElem? (i := 179) (by decide +kernel)
theorem tw_k3 : Cond.instantiable RX3 5 ∈ lw_tbl := List.mem_of_getElem? (i := 130) (by decide +kernel)
theorem tw_k4 : Cond.instantiable RX4 1 ∈ lw_tbl := List.mem_of_getElem? (i := 110) (by decide +kernel)
theorem tw_k5 : Cond.instantiable RX5 6 ∈ lw_tbl := List.mem_of_getElem? (i := 83) (by decide +kernel)
theorem tw_k6 : Cond.instantiable RX6 5 ∈ lw_tbl := List.mem_of_getElem? (i := 212) (by decide +kernel)
theorem tw_k7 : Cond.instantiable RX7 1 ∈ lw_tbl := List.mem_of_getElem? (i := 120) (by decide +kernel)
theorem tw_k8 : Cond.instantiable RX8 13 ∈ lw_tbl := List.mem_of_getElem? (i := 75) (by decide +kernel)
theorem tw_k9 : Cond.instantiable RX9 25 ∈ lw_tbl := List.mem_of_getElem? (i := 793) (by decide +kernel)
theorem df8 : ∀ j, j < 13 → defaultValue (tyX8 j) = vp_V [.null, .null, .null, .null, .null, .null, .null, .null, .null, .null, .int 0, .int 0, .long 0] j := fun j hj => by
  rcases (show j = 0 ∨ j = 1 ∨ j = 2 ∨ j = 3 ∨ j = 4 ∨ j = 5 ∨ j = 6 ∨ j = 7 ∨ j = 8 ∨ j = 9 ∨ j = 10 ∨ j = 11 ∨ j = 12 by omega) with rfl | rfl | rfl | rfl | rfl | rfl | rfl | rfl | rfl | rfl | rfl | rfl | rfl <;> rfl
theorem df9 : ∀ j, j < 25 → defaultValue (tyX9 j) = vp_V [.long 0, .null, .int 0, .int 0, .null, .null, .null, .null, .int 0, .int 0, .int 0, .int 0, .int 0, .null, .null, .null, .null, .null, .null, .int 0, .null, .null, .null, .null, .int 0] j := fun j hj => by
  rcases (show j = 0 ∨ j = 1 ∨ j = 2 ∨ j = 3 ∨ j = 4 ∨ j = 5 ∨ j = 6 ∨ j = 7 ∨ j = 8 ∨ j = 9 ∨ j = 10 ∨ j = 11 ∨ j = 12 ∨ j = 13 ∨ j = 14 ∨ j = 15 ∨ j = 16 ∨ j = 17 ∨ j = 18 ∨ j = 19 ∨ j = 20 ∨ j = 21 ∨ j = 22 ∨ j = 23 ∨ j = 24 by omega) with rfl | rfl | rfl | rfl | rfl | rfl | rfl | rfl | rfl | rfl | rfl | rfl | rfl | rfl | rfl | rfl | rfl | rfl | rfl | rfl | rfl | rfl | rfl | rfl | rfl <;> rfl
def R_law : String := "LightCoinsLaw"
def lw_P (b : Addr) (xs : List Int32) (args : Array Value) (s : State) : Prop := args = #[.ref b] ∧ s.IntsAt b xs ∧ xs.length ≤ 2560 ∧ (Jvm.Cond.and given_1 narrow_1).before args s = true
def lw_Q (_ : Array Value) (s : State) (o : Outcome) (t : State) : Prop := o = .returned (some (.int 1)) ∧ Framed s o t [] 49 1618
def lw_Z (below : List Frame) (a : Array Value) (s : State) : State → Prop := fun t => ∃ o, t.status = .running ∧ Ended t below o ∧ lw_Q a s o t
/-- the law's own end, with 1 on the stack, nothing written that was there before, its room as the claim has it -/
theorem lw_ret {p : Program} {l : Launch} {e : Env} {s : State} {m : MethodId} {below : List Frame} {meth : Method} {c : Code} {b : Nat} (hx : p.tables.exec = Jvm.exec) (hb : c.code = code) (hr : meth.sig.returnType = ret) (hlocks : meth.locks = false) {pc : Nat} {H : Heap} {ls : Array Slot} (hdg : decode code pc = .ok (.ireturn, 1)) : W p l e room_1 s m #[Value.ref b] below meth c H [] 49 1618 (lw_Z below #[Value.ref b] s) (F0 m pc ls [.int 1]) := by
  intro T hT X
  obtain ⟨fs, hret, hrun, hended, hW, hframe⟩ := X.leave (v := some (.int 1)) (hlocks := hlocks) (fun h => by rw [hr] at h; cases h)
  have hmeth' : T.vm.method? m = some meth := X.method'
  refine ⟨T.setFrames fs, ?_, .returned (some (.int 1)), hrun, hended, rfl, ⟨_, rfl⟩, hW, hframe⟩
  jvm_step X.here [X.here.top, hx, hb, hdg, hmeth', hr, ret, narrow_b1]
  (try refine ⟨rfl, ?_⟩); (try refine ⟨rfl, ?_⟩)
  first | (intro acts; rw [hret _ acts rfl rfl rfl]) | rw [hret _ _ rfl rfl rfl]
  exact Steps.refl _
/-- what holds at the law's entry: the machine, the code, the tables' words (any of lw_tbl by 'hts w (by decide +kernel)'), the script of L ints xs at the cell b, what the Statement gives of the start (any of its parts by flat_of_before) -/
def lw_At (p : Program) (s : State) (m : MethodId) (meth : Method) (c : Code) (b L : Nat) (xs : Nat → Int32) : Prop :=
  p.tables.exec = Jvm.exec ∧ c.code = code ∧ meth.sig.returnType = ret ∧ c.maxLocals = 4 ∧ s.vm.findClass R_law = some m.cls ∧ (∀ w ∈ lw_tbl, w.before #[Value.ref b] s = true) ∧ va_X b L xs s s.heap ∧ b < s.heap.size ∧ meth.locks = false ∧ (Jvm.Cond.and given_1 narrow_1).before #[Value.ref b] s = true
def ZL (Γ : gT) (b : Nat) : zT := fun below args s t => (args = #[Value.ref b] ∧ s.heap.size ≤ gB Γ) → lw_Z below args s t
theorem q_lawret {Γ : gT} {l : Launch} {b pc : Nat} {as : List Nat} {h : aH} {ls : List (Nat × Value)} (hdg : decode code pc = .ok (.ireturn, 1)) : V Γ l mL_law room_1 (ZL Γ b) 49 1618 pc ls [.int 1] as h := by
  intro p e s m args below meth c H locs lsA C ho hP hS hl
  by_cases hc : args = #[Value.ref b] ∧ s.heap.size ≤ gB Γ
  · obtain ⟨rfl, hsz⟩ := hc
    refine va_forget (fun q hq => Nat.le_trans hsz (hS.2.2 q hq)) ?_
    intro T hT X
    obtain ⟨t, a1, b1⟩ := lw_ret (b := b) C.1 C.2.1 C.2.2.1 C.2.2.2.2.2.2.1 hdg T hT X
    exact ⟨t, a1, fun _ => b1⟩
  · intro T hT X
    exact ⟨_, Steps.refl _, fun q => absurd q hc⟩
/-! the first world -/
theorem IL_of {as : List Nat} {h : aH} {ws : va_W} {AL : List Nat} {L : List va_E} (hw : wW as h = ws) (hn : as.Nodup) (h1 : ws.map (fun q => q.1) = AL) (h2 : ws.map (fun q => q.2) = L) : IL as (fun i => AL.getD i 0) h L := by
  have ea : as = AL := by
    rw [← h1, ← hw]
    unfold wW
    rw [List.map_map]
    exact (List.map_id as).symm
  have eL : L = as.map h := by
    rw [← h2, ← hw]
    unfold wW
    rw [List.map_map]
    rfl
  subst ea
  have at_ : ∀ i, i < as.length → as[i]? = some (as.getD i 0) := fun i hi => by
    rw [List.getD_eq_getElem?_getD, List.getElem?_eq_getElem hi]
    rfl
  have ll : L.length = as.length := by rw [eL, List.length_map]
  refine ⟨fun i hi => List.mem_of_getElem? (at_ i (by omega)), fun i j hi hj e => ?_, fun i e hi => ?_⟩
  · have e1 := at_ i (by omega)
    have e2 := at_ j (by omega)
    have e : as.getD i 0 = as.getD j 0 := e
    rw [← e] at e2
    exact nodup_ix hn e1 e2
  · have hi' : i < as.length := by rw [← ll]; exact (List.getElem?_eq_some_iff.mp hi).1
    rw [eL, List.getElem?_map, at_ i hi'] at hi
    injection hi
def φ0 : fT := fun i => if i = 8 then tu0 else if i = 40 then upd (fun _ => 0) 0 1 else if i = 44 then mt0 else fun _ => 0
theorem REL0 : REL φ0 (fun _ => 0) (fun _ => 0) := by
  refine ⟨⟨Nat.zero_le _, Nat.zero_le _, Nat.zero_le _, nI_0.symm, nI_0.symm⟩, ⟨?_, fun j hj => ⟨show ¬ (0 : Int32) < 0 by decide, show (0 : Int32) ≤ 99 by decide⟩, fun j hj => ⟨show ¬ (0 : Int32) < 0 by decide, show (0 : Int32) ≤ 99 by decide⟩, fun p h1 h2 w hw => rfl, fun j hj => ⟨0, Nat.zero_le _, nI_0.symm⟩, ⟨fun _ => 0, fun j hj => absurd hj (Nat.not_lt_zero j)⟩⟩, ⟨fun p hp => absurd hp (Nat.not_lt_zero p), fun p hp => absurd hp (Nat.not_lt_zero p), fun p hp => absurd hp (Nat.not_lt_zero p), fun p hp => absurd hp (Nat.not_lt_zero p), fun p hp => absurd hp (Nat.not_lt_zero p)⟩, ⟨fun i hi => rfl, Or.inl rfl⟩, ⟨fun i hi => rfl, Or.inl rfl⟩⟩
  exact (by decide +kernel : ∀ j, j < 6 → tuL j ≤ tu0 j ∧ tu0 j ≤ tuM j)
abbrev E8 (Γ : gT) (q : Nat → Nat) : va_W := [(q 0, ob 5 [.ref (q 1), .int 0, .int 0, .int 0, .int 0, .int 0]), (q 1, aI Γ 300 (fun _ => 0)), (q 2, ob 4 [.ref (q 3)]), (q 3, aI Γ 80 (fun _ => 0)), (q 4, ob 4 [.ref (q 5)]), (q 5, aI Γ 80 (fun _ => 0)), (q 6, ob 7 [.ref (q 7)]), (q 7, aI Γ 6 tu0), (q 8, ob 3 [.int (-9), .int (-9), .int (-9), .int (-9), .int 0]), (q 9, ob 0 [.ref (q 10), .ref (q 11), .ref (q 12), .int 0, .int 0]), (q 10, aI Γ 10 (fun _ => 0)), (q 11, aI Γ 31 (fun _ => 0)), (q 12, aI Γ 31 (fun _ => 0)), (q 13, ob 2 [.ref (q 14)]), (q 14, aI Γ 27 (fun _ => 0)), (q 15, aO Γ 2 (va_up (va_up (fun _ => none) 0 (some (q 16))) 1 (some (q 19)))), (q 16, ob 1 [.ref (q 17), .int 0, .int 0, .int 0]), (q 17, ob 4 [.ref (q 18)]), (q 18, aI Γ 80 (fun _ => 0)), (q 19, ob 1 [.ref (q 20), .int 0, .int 0, .int 0]), (q 20, ob 4 [.ref (q 21)]), (q 21, aI Γ 80 (fun _ => 0)), (q 22, ob 6 [.ref (q 23), .ref (q 24), .ref (q 25), .ref (q 26), .int 0]), (q 23, aI Γ 8 (fun _ => 0)), (q 24, aI Γ 8 (fun _ => 0)), (q 25, aI Γ 8 (fun _ => 0)), (q 26, aI Γ 8 (fun _ => 0)), (q 27, ob 6 [.ref (q 28), .ref (q 29), .ref (q 30), .ref (q 31), .int 0]), (q 28, aI Γ 8 (fun _ => 0)), (q 29, aI Γ 8 (fun _ => 0)), (q 30, aI Γ 8 (fun _ => 0)), (q 31, aI Γ 8 (fun _ => 0))]
abbrev E9 (Γ : gT) (q : Nat → Nat) : va_W := [(q 0, aB Γ 300 (fun _ => 0)), (q 1, aI Γ 16 (fun _ => 0)), (q 2, aI Γ 16 (fun _ => 0)), (q 3, aI Γ 16 (fun _ => 0)), (q 4, aI Γ 16 (fun _ => 0)), (q 5, aI Γ 240 (fun _ => 0)), (q 6, aI Γ 3 (upd (fun _ => 0) 0 1)), (q 7, aI Γ 3 (fun _ => 0)), (q 8, aZ Γ 2 (fun _ => 0)), (q 9, aI Γ 6 tu0), (q 10, aI Γ 4 mt0), (q 11, aJ Γ 10 (fun _ => 0)), (q 12, aZ Γ 10 (fun _ => 0)), (q 13, aI Γ 80 (fun _ => 0)), (q 14, aI Γ 27 (fun _ => 0))]
abbrev wsF (Γ : gT) (X m : Nat) (q r : Nat → Nat) : va_W := pw (pw [(X, ob 8 [.null, .null, .null, .null, .null, .null, .null, .null, .null, .null, .int 0, .int 0, .long 0])] 0 (X, xo (q 0) (q 2) (q 4) (q 6) (q 8) (q 9) (q 13) (q 15) (q 22) (q 27) 1 0 0) (E8 Γ q) ++ [(m, ob 9 [.long 0, .null, .int 0, .int 0, .null, .null, .null, .null, .int 0, .int 0, .int 0, .int 0, .int 0, .null, .null, .null, .null, .null, .null, .int 0, .null, .null, .null, .null, .int 0])]) 33 (m, ob 9 [.long 0, .ref (r 0), .int 0, .int 0, .ref (r 1), .ref (r 2), .ref (r 3), .ref (r 4), .int 0, .int 0, .int 0, .int 0, .int 0, .ref (r 5), .ref (r 6), .ref (r 7), .ref (r 8), .ref (r 9), .ref (r 10), .int 0, .ref (r 11), .ref (r 12), .ref (r 13), .ref (r 14), .int 0]) (E9 Γ r)
set_option maxHeartbeats 4000000 in
theorem inv0 {Γ : gT} {as : List Nat} {h : aH} {X m : Nat} {q r : Nat → Nat} (hw : wW as h = wsF Γ X m q r) (ho : asOK Γ as) : INV Γ as X m h := by
  have hI : IL as (fun i => ([X, q 0, q 1, q 2, q 3, q 4, q 5, q 6, q 7, q 8, q 9, q 10, q 11, q 12, q 13, q 14, q 15, q 16, q 17, q 18, q 19, q 20, q 21, q 22, q 23, q 24, q 25, q 26, q 27, q 28, q 29, q 30, q 31, m, r 0, r 1, r 2, r 3, r 4, r 5, r 6, r 7, r 8, r 9, r 10, r 11, r 12, r 13, r 14] : List Nat).getD i 0) h (CL Γ (fun i => ([X, q 0, q 1, q 2, q 3, q 4, q 5, q 6, q 7, q 8, q 9, q 10, q 11, q 12, q 13, q 14, q 15, q 16, q 17, q 18, q 19, q 20, q 21, q 22, q 23, q 24, q 25, q 26, q 27, q 28, q 29, q 30, q 31, m, r 0, r 1, r 2, r 3, r 4, r 5, r 6, r 7, r 8, r 9, r 10, r 11, r 12, r 13, r 14] : List Nat).getD i 0) φ0 (fun _ => 0) (fun _ => 0) 0 0 0 (fun _ => 0)) := IL_of hw ho.1 rfl rfl
  exact ⟨h, eqv.rf, _, _, _, _, _, _, _, _, rfl, rfl, hI, REL0⟩
theorem lw_start {Γ : gT} {l : Launch} {b : Nat} (hN : Γ.2.2.2.2.1 ≤ 2560) : U Γ l mL_law room_1 (ZL Γ b) 0 0 0 [(0, .ref (gX Γ 1000))] [] [] := by
  refine u_new (ci := 8) (fs := [.null, .null, .null, .null, .null, .null, .null, .null, .null, .null, .int 0, .int 0, .long 0]) (ty := tyX8) dL_law_0 rfl inlX8 tyX8_ok (by decide +kernel) df8 (Nat.le_of_ble_eq_true rfl) (Nat.le_of_ble_eq_true rfl) (fun X => ?_)
  refine u_dup dL_law_3 rfl ?_
  refine u_callI dL_law_4 ciL_X8_init (by decide +kernel) (i_X8 (ws := [(X, ob 8 [.null, .null, .null, .null, .null, .null, .null, .null, .null, .null, .int 0, .int 0, .long 0])]) (i := 0) rfl) (Nat.le_of_ble_eq_true rfl) ⟨⟨Nat.le_of_ble_eq_true rfl, Nat.le_of_ble_eq_true rfl⟩, Nat.le_of_ble_eq_true rfl, Nat.le_of_ble_eq_true rfl⟩ (fun rv ws1 hq => ?_)
  obtain ⟨rfl, q, rfl⟩ := hq
  refine u_astore_n dL_law_7 rfl (by decide) ?_
  refine u_new (ci := 9) (fs := [.long 0, .null, .int 0, .int 0, .null, .null, .null, .null, .int 0, .int 0, .int 0, .int 0, .int 0, .null, .null, .null, .null, .null, .null, .int 0, .null, .null, .null, .null, .int 0]) (ty := tyX9) dL_law_8 rfl inlX9 tyX9_ok (by decide +kernel) df9 (Nat.le_of_ble_eq_true rfl) (Nat.le_of_ble_eq_true rfl) (fun m => ?_)
  refine u_dup dL_law_11 rfl ?_
  refine u_callI dL_law_12 ciL_X9_init (by decide +kernel) (i_X9 (i := 33) rfl) (Nat.le_of_ble_eq_true rfl) ⟨⟨Nat.le_of_ble_eq_true rfl, Nat.le_of_ble_eq_true rfl⟩, Nat.le_of_ble_eq_true rfl, Nat.le_of_ble_eq_true rfl⟩ (fun rv ws2 hq => ?_)
  obtain ⟨rfl, r, rfl⟩ := hq
  refine u_astore_n dL_law_15 rfl (by decide) ?_
  refine u_iconst (v := 0) dL_law_16 rfl ?_
  refine u_istore_n dL_law_17 rfl (by decide) ?_
  refine uV (fun as h hw ho => ?_)
  refine V.widen 49 1618 (Nat.le_of_ble_eq_true rfl) (Nat.le_of_ble_eq_true rfl) ?_
  exact lw_loop hN (fun h1 ls1 => q_iconst (v := 1) dL_law_1058 rfl (q_lawret dL_law_1059)) Γ.2.2.2.2.1 0 0 h _ (Nat.sub_le _ _) (Nat.zero_le _) rfl (inv0 (q := q) (r := r) hw ho) ⟨rfl, rfl, rfl, rfl, trivial⟩

