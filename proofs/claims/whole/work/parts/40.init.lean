/-! THE CONSTRUCTORS -/
def pw (ws : va_W) (i : Nat) (x : Nat × va_E) (nw : va_W) : va_W := ws.set i x ++ nw
def mkQ (ws : va_W) (i a : Nat) (y : (Nat → Nat) → va_E) (ext : (Nat → Nat) → va_W) : quT := fun r ws' => r = none ∧ ∃ q : Nat → Nat, ws' = pw ws i (a, y q) (ext q)
theorem pw_0 {ws : va_W} {i : Nat} {x : Nat × va_E} (hi : ws[i]? = some x) : ws = pw ws i x [] := by
  unfold pw
  rw [List.append_nil]
  obtain ⟨h1, h2⟩ := List.getElem?_eq_some_iff.mp hi
  rw [← h2, List.set_getElem_self]
theorem pw_at {ws nw : va_W} {i : Nat} {x y : Nat × va_E} (hi : ws[i]? = some y) : (pw ws i x nw)[i]? = some x := by
  have h1 := (List.getElem?_eq_some_iff.mp hi).1
  unfold pw
  rw [List.getElem?_append_left (by rw [List.length_set]; exact h1), List.getElem?_set_self h1]
theorem pw_set {ws nw : va_W} {i : Nat} {x y z : Nat × va_E} (hi : ws[i]? = some y) : (pw ws i x nw).set i z = pw ws i z nw := by
  have h1 := (List.getElem?_eq_some_iff.mp hi).1
  unfold pw
  rw [List.set_append_left _ _ (by rw [List.length_set]; exact h1), List.set_set]
theorem pw_r {ws nw : va_W} {i k : Nat} {x : Nat × va_E} : (pw ws i x nw)[ws.length + k]? = nw[k]? := by
  unfold pw
  rw [List.getElem?_append_right (by rw [List.length_set]; omega), List.length_set]
  congr 1
  omega
theorem pw_rset {ws nw : va_W} {i k : Nat} {x z : Nat × va_E} : (pw ws i x nw).set (ws.length + k) z = pw ws i x (nw.set k z) := by
  unfold pw
  rw [List.set_append_right _ _ (by rw [List.length_set]; omega), List.length_set]
  congr 2
  omega
theorem pw_app {ws nw e : va_W} {i : Nat} {x : Nat × va_E} : pw ws i x nw ++ e = pw ws i x (nw ++ e) := by
  unfold pw
  rw [List.append_assoc]
theorem df4 : ∀ j, j < 1 → defaultValue (tyX4 j) = vp_V [.null] j := fun j hj => by rcases (show j = 0 by omega) with rfl; rfl
theorem df7 : ∀ j, j < 1 → defaultValue (tyX7 j) = vp_V [.null] j := fun j hj => by rcases (show j = 0 by omega) with rfl; rfl
theorem df2 : ∀ j, j < 1 → defaultValue (tyX2 j) = vp_V [.null] j := fun j hj => by rcases (show j = 0 by omega) with rfl; rfl
theorem df5 : ∀ j, j < 6 → defaultValue (tyX5 j) = vp_V [.null, .int 0, .int 0, .int 0, .int 0, .int 0] j := fun j hj => by rcases (show j = 0 ∨ j = 1 ∨ j = 2 ∨ j = 3 ∨ j = 4 ∨ j = 5 by omega) with rfl | rfl | rfl | rfl | rfl | rfl <;> rfl
theorem df3 : ∀ j, j < 5 → defaultValue (tyX3 j) = vp_V [.int 0, .int 0, .int 0, .int 0, .int 0] j := fun j hj => by rcases (show j = 0 ∨ j = 1 ∨ j = 2 ∨ j = 3 ∨ j = 4 by omega) with rfl | rfl | rfl | rfl | rfl <;> rfl
theorem df0 : ∀ j, j < 5 → defaultValue (tyX0 j) = vp_V [.null, .null, .null, .int 0, .int 0] j := fun j hj => by rcases (show j = 0 ∨ j = 1 ∨ j = 2 ∨ j = 3 ∨ j = 4 by omega) with rfl | rfl | rfl | rfl | rfl <;> rfl
theorem df6 : ∀ j, j < 5 → defaultValue (tyX6 j) = vp_V [.null, .null, .null, .null, .int 0] j := fun j hj => by rcases (show j = 0 ∨ j = 1 ∨ j = 2 ∨ j = 3 ∨ j = 4 by omega) with rfl | rfl | rfl | rfl | rfl <;> rfl
theorem df1 : ∀ j, j < 4 → defaultValue (tyX1 j) = vp_V [.null, .int 0, .int 0, .int 0] j := fun j hj => by rcases (show j = 0 ∨ j = 1 ∨ j = 2 ∨ j = 3 by omega) with rfl | rfl | rfl | rfl <;> rfl
section
variable {Γ : gT} {l : Launch} {μ : mT} {R : Room} {Z : zT} {kc ks pc : Nat} {ls : List (Nat × Value)} {st : List Value} {ws nw : va_W} {i a : Nat} {x0 x : Nat × va_E}
theorem up_put {index ci k0 : Nat} {fs : List Value} {v : Value} {ty : FieldType} (hi : ws[i]? = some x0) (hd : decode μ.2.2.1 pc = .ok (.putfield index, 3)) (hf : FP μ index ci k0 ty false) (hn : narrow ty v = v) (hfit : fits ty v = true) (hlen : k0 < fs.length) (k : U Γ l μ R Z kc ks (pc + 3) ls st (pw ws i (a, ob ci (fs.set k0 v)) nw)) : U Γ l μ R Z kc ks pc ls (v :: .ref a :: st) (pw ws i (a, ob ci fs) nw) := by
  refine u_put i hd hf (pw_at hi) hn hfit hlen ?_
  rw [pw_set hi]
  exact k
theorem up_putF {index ci k0 : Nat} {fs : List Value} {v : Value} {ty : FieldType} (hi : ws[i]? = some x0) (hd : decode μ.2.2.1 pc = .ok (.putfield index, 3)) (hf : FP μ index ci k0 ty true) (hini : μ.1.name = "<init>") (hn : narrow ty v = v) (hfit : fits ty v = true) (hlen : k0 < fs.length) (k : U Γ l μ R Z kc ks (pc + 3) ls st (pw ws i (a, ob ci (fs.set k0 v)) nw)) : U Γ l μ R Z kc ks pc ls (v :: .ref a :: st) (pw ws i (a, ob ci fs) nw) := by
  refine u_putF i hd hf hini (pw_at hi) hn hfit hlen ?_
  rw [pw_set hi]
  exact k
theorem up_get {index ci k0 : Nat} {fs : List Value} {v : Value} (hi : ws[i]? = some x0) (hd : decode μ.2.2.1 pc = .ok (.getfield index, 3)) (hf : FL μ index ci k0) (hv : fs[k0]? = some v) (k : U Γ l μ R Z kc ks (pc + 3) ls (v :: st) (pw ws i (a, ob ci fs) nw)) : U Γ l μ R Z kc ks pc ls (.ref a :: st) (pw ws i (a, ob ci fs) nw) := u_get i hd hf (pw_at hi) hv k
theorem up_iast {b N k : Nat} {f : Nat → Int32} {j : Int32} {v : Int32} (hd : decode μ.2.2.1 pc = .ok (.iastore, 1)) (hk : nw[k]? = some (b, aI Γ N f)) (hin : vp_in j N) (kk : U Γ l μ R Z kc ks (pc + 1) ls st (pw ws i x (nw.set k (b, aI Γ N (upd f j.toNatClampNeg v))))) : U Γ l μ R Z kc ks pc ls (.int v :: .int j :: .ref b :: st) (pw ws i x nw) := by
  refine u_iast (ws.length + k) hd (by rw [pw_r]; exact hk) hin ?_
  rw [pw_rset]
  exact kk
theorem up_aast {b N k j v ci : Nat} {vs : List Value} {T : u_T} {n0 : Nat} {f : Nat → Option Nat} {w : Int32} (hd : decode μ.2.2.1 pc = .ok (.aastore, 1)) (hk : nw[k]? = some (b, aO Γ N f)) (hv : nw[j]? = some (v, ob ci vs)) (hc : vwCl[ci]? = some ("LightCoins$Image", T, n0)) (hin : vp_in w N) (kk : U Γ l μ R Z kc ks (pc + 1) ls st (pw ws i x (nw.set k (b, aO Γ N (va_up f w.toNatClampNeg (some v)))))) : U Γ l μ R Z kc ks pc ls (.ref v :: .int w :: .ref b :: st) (pw ws i x nw) := by
  refine u_aast (ws.length + k) (ws.length + j) hd (by rw [pw_r]; exact hk) (by rw [pw_r]; exact hv) hc hin ?_
  rw [pw_rset]
  exact kk
theorem up_newa {atype : ArrayType} {ty : FieldType} {n : Int32} {N t0 : Nat} {cc : ClassId} {a0 : vp_A} (hd : decode μ.2.2.1 pc = .ok (.newarray atype, 2)) (hw : Cond.arrayClass (newarray.typeOf atype) ∈ μ.2.2.2.2.2) (hty : newarray.typeOf atype = ty) (ht : (tysG Γ)[t0]? = some (cc, ty)) (ha : ∀ cA : ClassId, vp_cell cA a0 = arrV cA N (fun _ => defaultValue ty)) (hn : ¬ n < 0) (hN : n.toNatClampNeg = N) (hby : N * componentBytes ty ≤ 536870912) (hc : kc + 1 ≤ R.cells) (hs : ks + N ≤ R.slots) (k : ∀ q : Nat, U Γ l μ R Z (kc + 1) (ks + N) (pc + 2) ls (.ref q :: st) (pw ws i x (nw ++ [(q, .inl (cc, a0))]))) : U Γ l μ R Z kc ks pc ls (.int n :: st) (pw ws i x nw) := by
  refine u_newa hd hw hty ht ha hn hN hby hc hs (fun q => ?_)
  rw [pw_app]
  exact k q
theorem up_newq {index : Nat} {n : Int32} {N : Nat} (hd : decode μ.2.2.1 pc = .ok (.anewarray index, 3)) (hw : Cond.classLink μ.2.1 index "LightCoins$Image" ∈ μ.2.2.2.2.2) (hn : ¬ n < 0) (hN : n.toNatClampNeg = N) (hby : N * 4 ≤ 536870912) (hc : kc + 1 ≤ R.cells) (hs : ks + N ≤ R.slots) (k : ∀ q : Nat, U Γ l μ R Z (kc + 1) (ks + N) (pc + 3) ls (.ref q :: st) (pw ws i x (nw ++ [(q, aO Γ N (fun _ => none))]))) : U Γ l μ R Z kc ks pc ls (.int n :: st) (pw ws i x nw) := by
  refine u_newq hd hw hn hN hby hc hs (fun q => ?_)
  rw [pw_app]
  exact k q
theorem up_new {index ci : Nat} {C0 : String} {T : u_T} {N : Nat} {ty : Nat → FieldType} {fs : List Value} (hd : decode μ.2.2.1 pc = .ok (.new index, 3)) (hc0 : vwCl[ci]? = some (C0, T, N)) (hin : ∀ w ∈ u_ws C0 T N, w ∈ μ.2.2.2.2.2) (hty : ∀ k, k < N → parseFieldDescriptor (T k).2.2.1 = some (ty k)) (hw : ∀ w ∈ ([.classLink μ.2.1 index C0, .instantiable C0 N, .initialized C0] : List Cond), w ∈ μ.2.2.2.2.2) (hfs : ∀ j, j < N → defaultValue (ty j) = vp_V fs j) (hc : kc + 1 ≤ R.cells) (hs : ks + N ≤ R.slots) (k : ∀ q : Nat, U Γ l μ R Z (kc + 1) (ks + N) (pc + 3) ls (.ref q :: st) (pw ws i x (nw ++ [(q, ob ci fs)]))) : U Γ l μ R Z kc ks pc ls st (pw ws i x nw) := by
  refine u_new hd hc0 hin hty hw hfs hc hs (fun q => ?_)
  rw [pw_app]
  exact k q
theorem up_callN {index b k : Nat} {y0 : va_E} {μ' : mT} {R' : Room} {y : (Nat → Nat) → va_E} {ext : (Nat → Nat) → va_W} (hd : decode μ.2.2.1 pc = .ok (.invokespecial index, 3)) (cw : CWI μ μ') (hnw : (μ.2.1, index, μ'.1) ∈ nwL) (hk : nw[k]? = some (b, y0)) (hM : ∀ (ws : va_W) (i : Nat), ws[i]? = some (b, y0) → ConU Γ l μ' R' [.ref b] ws (mkQ ws i b y ext)) (hcat : (st.map fun v => v.category).sum ≤ 8) (hR : fitR R μ' R' kc ks)
    (kk : ∀ q : Nat → Nat, U Γ l μ R Z (kc + R'.cells) (ks + R'.slots) (pc + 3) ls st (pw ws i x (nw.set k (b, y q) ++ ext q))) : U Γ l μ R Z kc ks pc ls (.ref b :: st) (pw ws i x nw) := by
  refine u_callN hd cw hnw (hM _ (ws.length + k) (by rw [pw_r]; exact hk)) hcat hR (fun r ws' q => ?_)
  obtain ⟨rfl, q, rfl⟩ := q
  refine U.w (kk q) ?_
  show (pw ws i x nw).set (ws.length + k) (b, y q) ++ ext q = _
  rw [pw_rset, pw_app]
end
abbrev mX4_init : mT := (yX4_init, RX4, cX4_init, 1, none, wsX4_init)
abbrev rX4_init : Room := { frames := 1, cells := 1, slots := 80, locals := 40 }
theorem dX4_init_0 : decode cX4_init 0 = .ok (.aload_n 0, 1) := by decide +kernel
theorem dX4_init_1 : decode cX4_init 1 = .ok (.invokespecial 3, 3) := by decide +kernel
theorem dX4_init_4 : decode cX4_init 4 = .ok (.aload_n 0, 1) := by decide +kernel
theorem dX4_init_5 : decode cX4_init 5 = .ok (.bipush 80, 2) := by decide +kernel
theorem dX4_init_7 : decode cX4_init 7 = .ok (.newarray .int, 2) := by decide +kernel
theorem dX4_init_9 : decode cX4_init 9 = .ok (.putfield 9, 3) := by decide +kernel
theorem dX4_init_12 : decode cX4_init 12 = .ok (.return_, 1) := by decide +kernel
theorem iX4_init_4 : ∀ w ∈ wsX40, w ∈ wsX4_init := fun w h => List.mem_cons_of_mem _ (List.mem_append_right _ h)
theorem pX4_init_9 : FP mX4_init 9 4 0 (.array .int) true := ⟨_, _, _, tyX4, rfl, by decide, iX4_init_4, by decide +kernel, tyX4_ok, nmX4, rfl, rfl, fun _ => rfl⟩
abbrev mX5_init : mT := (yX5_init, RX5, cX5_init, 1, none, wsX5_init)
abbrev rX5_init : Room := { frames := 1, cells := 1, slots := 300, locals := 40 }
theorem dX5_init_0 : decode cX5_init 0 = .ok (.aload_n 0, 1) := by decide +kernel
theorem dX5_init_1 : decode cX5_init 1 = .ok (.invokespecial 3, 3) := by decide +kernel
theorem dX5_init_4 : decode cX5_init 4 = .ok (.aload_n 0, 1) := by decide +kernel
theorem dX5_init_5 : decode cX5_init 5 = .ok (.sipush 300, 3) := by decide +kernel
theorem dX5_init_8 : decode cX5_init 8 = .ok (.newarray .int, 2) := by decide +kernel
theorem dX5_init_10 : decode cX5_init 10 = .ok (.putfield 11, 3) := by decide +kernel
theorem dX5_init_13 : decode cX5_init 13 = .ok (.return_, 1) := by decide +kernel
theorem iX5_init_5 : ∀ w ∈ wsX50, w ∈ wsX5_init := fun w h => List.mem_cons_of_mem _ (List.mem_append_right _ h)
theorem pX5_init_11 : FP mX5_init 11 5 0 (.array .int) true := ⟨_, _, _, tyX5, rfl, by decide, iX5_init_5, by decide +kernel, tyX5_ok, nmX5, rfl, rfl, fun _ => rfl⟩
abbrev mX7_init : mT := (yX7_init, RX7, cX7_init, 1, none, wsX7_init)
abbrev rX7_init : Room := { frames := 1, cells := 1, slots := 6, locals := 40 }
theorem dX7_init_0 : decode cX7_init 0 = .ok (.aload_n 0, 1) := by decide +kernel
theorem dX7_init_1 : decode cX7_init 1 = .ok (.invokespecial 3, 3) := by decide +kernel
theorem dX7_init_4 : decode cX7_init 4 = .ok (.aload_n 0, 1) := by decide +kernel
theorem dX7_init_5 : decode cX7_init 5 = .ok (.bipush 6, 2) := by decide +kernel
theorem dX7_init_7 : decode cX7_init 7 = .ok (.newarray .int, 2) := by decide +kernel
theorem dX7_init_9 : decode cX7_init 9 = .ok (.dup, 1) := by decide +kernel
theorem dX7_init_10 : decode cX7_init 10 = .ok (.iconst 0, 1) := by decide +kernel
theorem dX7_init_11 : decode cX7_init 11 = .ok (.iconst 2, 1) := by decide +kernel
theorem dX7_init_12 : decode cX7_init 12 = .ok (.iastore, 1) := by decide +kernel
theorem dX7_init_13 : decode cX7_init 13 = .ok (.dup, 1) := by decide +kernel
theorem dX7_init_14 : decode cX7_init 14 = .ok (.iconst 1, 1) := by decide +kernel
theorem dX7_init_15 : decode cX7_init 15 = .ok (.iconst 5, 1) := by decide +kernel
theorem dX7_init_16 : decode cX7_init 16 = .ok (.iastore, 1) := by decide +kernel
theorem dX7_init_17 : decode cX7_init 17 = .ok (.dup, 1) := by decide +kernel
theorem dX7_init_18 : decode cX7_init 18 = .ok (.iconst 2, 1) := by decide +kernel
theorem dX7_init_19 : decode cX7_init 19 = .ok (.bipush 20, 2) := by decide +kernel
theorem dX7_init_21 : decode cX7_init 21 = .ok (.iastore, 1) := by decide +kernel
theorem dX7_init_22 : decode cX7_init 22 = .ok (.dup, 1) := by decide +kernel
theorem dX7_init_23 : decode cX7_init 23 = .ok (.iconst 3, 1) := by decide +kernel
theorem dX7_init_24 : decode cX7_init 24 = .ok (.iconst 1, 1) := by decide +kernel
theorem dX7_init_25 : decode cX7_init 25 = .ok (.iastore, 1) := by decide +kernel
theorem dX7_init_26 : decode cX7_init 26 = .ok (.dup, 1) := by decide +kernel
theorem dX7_init_27 : decode cX7_init 27 = .ok (.iconst 4, 1) := by decide +kernel
theorem dX7_init_28 : decode cX7_init 28 = .ok (.iconst 1, 1) := by decide +kernel
theorem dX7_init_29 : decode cX7_init 29 = .ok (.iastore, 1) := by decide +kernel
theorem dX7_init_30 : decode cX7_init 30 = .ok (.dup, 1) := by decide +kernel
theorem dX7_init_31 : decode cX7_init 31 = .ok (.iconst 5, 1) := by decide +kernel
theorem dX7_init_32 : decode cX7_init 32 = .ok (.bipush 20, 2) := by decide +kernel
theorem dX7_init_34 : decode cX7_init 34 = .ok (.iastore, 1) := by decide +kernel
theorem dX7_init_35 : decode cX7_init 35 = .ok (.putfield 9, 3) := by decide +kernel
theorem dX7_init_38 : decode cX7_init 38 = .ok (.return_, 1) := by decide +kernel
theorem iX7_init_7 : ∀ w ∈ wsX70, w ∈ wsX7_init := fun w h => List.mem_cons_of_mem _ (List.mem_append_right _ h)
theorem pX7_init_9 : FP mX7_init 9 7 0 (.array .int) true := ⟨_, _, _, tyX7, rfl, by decide, iX7_init_7, by decide +kernel, tyX7_ok, nmX7, rfl, rfl, fun _ => rfl⟩
abbrev mX3_init : mT := (yX3_init, RX3, cX3_init, 1, none, wsX3_init)
abbrev rX3_init : Room := { frames := 1, cells := 0, slots := 0, locals := 40 }
theorem dX3_init_0 : decode cX3_init 0 = .ok (.aload_n 0, 1) := by decide +kernel
theorem dX3_init_1 : decode cX3_init 1 = .ok (.invokespecial 3, 3) := by decide +kernel
theorem dX3_init_4 : decode cX3_init 4 = .ok (.aload_n 0, 1) := by decide +kernel
theorem dX3_init_5 : decode cX3_init 5 = .ok (.bipush (-9), 2) := by decide +kernel
theorem dX3_init_7 : decode cX3_init 7 = .ok (.putfield 9, 3) := by decide +kernel
theorem dX3_init_10 : decode cX3_init 10 = .ok (.aload_n 0, 1) := by decide +kernel
theorem dX3_init_11 : decode cX3_init 11 = .ok (.bipush (-9), 2) := by decide +kernel
theorem dX3_init_13 : decode cX3_init 13 = .ok (.putfield 15, 3) := by decide +kernel
theorem dX3_init_16 : decode cX3_init 16 = .ok (.aload_n 0, 1) := by decide +kernel
theorem dX3_init_17 : decode cX3_init 17 = .ok (.bipush (-9), 2) := by decide +kernel
theorem dX3_init_19 : decode cX3_init 19 = .ok (.putfield 18, 3) := by decide +kernel
theorem dX3_init_22 : decode cX3_init 22 = .ok (.aload_n 0, 1) := by decide +kernel
theorem dX3_init_23 : decode cX3_init 23 = .ok (.bipush (-9), 2) := by decide +kernel
theorem dX3_init_25 : decode cX3_init 25 = .ok (.putfield 21, 3) := by decide +kernel
theorem dX3_init_28 : decode cX3_init 28 = .ok (.return_, 1) := by decide +kernel
theorem iX3_init_3 : ∀ w ∈ wsX30, w ∈ wsX3_init := fun w h => List.mem_cons_of_mem _ (List.mem_append_right _ h)
theorem pX3_init_9 : FP mX3_init 9 3 0 .int false := ⟨_, _, _, tyX3, rfl, by decide, iX3_init_3, by decide +kernel, tyX3_ok, nmX3, rfl, rfl, fun z => absurd z (by decide)⟩
theorem pX3_init_15 : FP mX3_init 15 3 1 .int false := ⟨_, _, _, tyX3, rfl, by decide, iX3_init_3, by decide +kernel, tyX3_ok, nmX3, rfl, rfl, fun z => absurd z (by decide)⟩
theorem pX3_init_18 : FP mX3_init 18 3 2 .int false := ⟨_, _, _, tyX3, rfl, by decide, iX3_init_3, by decide +kernel, tyX3_ok, nmX3, rfl, rfl, fun z => absurd z (by decide)⟩
theorem pX3_init_21 : FP mX3_init 21 3 3 .int false := ⟨_, _, _, tyX3, rfl, by decide, iX3_init_3, by decide +kernel, tyX3_ok, nmX3, rfl, rfl, fun z => absurd z (by decide)⟩
abbrev mX0_init : mT := (yX0_init, RX0, cX0_init, 1, none, wsX0_init)
abbrev rX0_init : Room := { frames := 1, cells := 3, slots := 72, locals := 40 }
theorem dX0_init_0 : decode cX0_init 0 = .ok (.aload_n 0, 1) := by decide +kernel
theorem dX0_init_1 : decode cX0_init 1 = .ok (.invokespecial 3, 3) := by decide +kernel
theorem dX0_init_4 : decode cX0_init 4 = .ok (.aload_n 0, 1) := by decide +kernel
theorem dX0_init_5 : decode cX0_init 5 = .ok (.bipush 10, 2) := by decide +kernel
theorem dX0_init_7 : decode cX0_init 7 = .ok (.newarray .int, 2) := by decide +kernel
theorem dX0_init_9 : decode cX0_init 9 = .ok (.putfield 9, 3) := by decide +kernel
theorem dX0_init_12 : decode cX0_init 12 = .ok (.aload_n 0, 1) := by decide +kernel
theorem dX0_init_13 : decode cX0_init 13 = .ok (.bipush 31, 2) := by decide +kernel
theorem dX0_init_15 : decode cX0_init 15 = .ok (.newarray .int, 2) := by decide +kernel
theorem dX0_init_17 : decode cX0_init 17 = .ok (.putfield 15, 3) := by decide +kernel
theorem dX0_init_20 : decode cX0_init 20 = .ok (.aload_n 0, 1) := by decide +kernel
theorem dX0_init_21 : decode cX0_init 21 = .ok (.bipush 31, 2) := by decide +kernel
theorem dX0_init_23 : decode cX0_init 23 = .ok (.newarray .int, 2) := by decide +kernel
theorem dX0_init_25 : decode cX0_init 25 = .ok (.putfield 18, 3) := by decide +kernel
theorem dX0_init_28 : decode cX0_init 28 = .ok (.return_, 1) := by decide +kernel
theorem iX0_init_0 : ∀ w ∈ wsX00, w ∈ wsX0_init := fun w h => List.mem_cons_of_mem _ (List.mem_append_right _ h)
theorem pX0_init_9 : FP mX0_init 9 0 0 (.array .int) true := ⟨_, _, _, tyX0, rfl, by decide, iX0_init_0, by decide +kernel, tyX0_ok, nmX0, rfl, rfl, fun _ => rfl⟩
theorem pX0_init_15 : FP mX0_init 15 0 1 (.array .int) true := ⟨_, _, _, tyX0, rfl, by decide, iX0_init_0, by decide +kernel, tyX0_ok, nmX0, rfl, rfl, fun _ => rfl⟩
theorem pX0_init_18 : FP mX0_init 18 0 2 (.array .int) true := ⟨_, _, _, tyX0, rfl, by decide, iX0_init_0, by decide +kernel, tyX0_ok, nmX0, rfl, rfl, fun _ => rfl⟩
abbrev mX2_init : mT := (yX2_init, RX2, cX2_init, 1, none, wsX2_init)
abbrev rX2_init : Room := { frames := 1, cells := 1, slots := 27, locals := 40 }
theorem dX2_init_0 : decode cX2_init 0 = .ok (.aload_n 0, 1) := by decide +kernel
theorem dX2_init_1 : decode cX2_init 1 = .ok (.invokespecial 3, 3) := by decide +kernel
theorem dX2_init_4 : decode cX2_init 4 = .ok (.aload_n 0, 1) := by decide +kernel
theorem dX2_init_5 : decode cX2_init 5 = .ok (.bipush 27, 2) := by decide +kernel
theorem dX2_init_7 : decode cX2_init 7 = .ok (.newarray .int, 2) := by decide +kernel
theorem dX2_init_9 : decode cX2_init 9 = .ok (.putfield 11, 3) := by decide +kernel
theorem dX2_init_12 : decode cX2_init 12 = .ok (.return_, 1) := by decide +kernel
theorem iX2_init_2 : ∀ w ∈ wsX20, w ∈ wsX2_init := fun w h => List.mem_cons_of_mem _ (List.mem_append_right _ h)
theorem pX2_init_11 : FP mX2_init 11 2 0 (.array .int) true := ⟨_, _, _, tyX2, rfl, by decide, iX2_init_2, by decide +kernel, tyX2_ok, nmX2, rfl, rfl, fun _ => rfl⟩
abbrev mX6_init : mT := (yX6_init, RX6, cX6_init, 1, none, wsX6_init)
abbrev rX6_init : Room := { frames := 1, cells := 4, slots := 32, locals := 40 }
theorem dX6_init_0 : decode cX6_init 0 = .ok (.aload_n 0, 1) := by decide +kernel
theorem dX6_init_1 : decode cX6_init 1 = .ok (.invokespecial 3, 3) := by decide +kernel
theorem dX6_init_4 : decode cX6_init 4 = .ok (.aload_n 0, 1) := by decide +kernel
theorem dX6_init_5 : decode cX6_init 5 = .ok (.bipush 8, 2) := by decide +kernel
theorem dX6_init_7 : decode cX6_init 7 = .ok (.newarray .int, 2) := by decide +kernel
theorem dX6_init_9 : decode cX6_init 9 = .ok (.putfield 9, 3) := by decide +kernel
theorem dX6_init_12 : decode cX6_init 12 = .ok (.aload_n 0, 1) := by decide +kernel
theorem dX6_init_13 : decode cX6_init 13 = .ok (.bipush 8, 2) := by decide +kernel
theorem dX6_init_15 : decode cX6_init 15 = .ok (.newarray .int, 2) := by decide +kernel
theorem dX6_init_17 : decode cX6_init 17 = .ok (.putfield 15, 3) := by decide +kernel
theorem dX6_init_20 : decode cX6_init 20 = .ok (.aload_n 0, 1) := by decide +kernel
theorem dX6_init_21 : decode cX6_init 21 = .ok (.bipush 8, 2) := by decide +kernel
theorem dX6_init_23 : decode cX6_init 23 = .ok (.newarray .int, 2) := by decide +kernel
theorem dX6_init_25 : decode cX6_init 25 = .ok (.putfield 18, 3) := by decide +kernel
theorem dX6_init_28 : decode cX6_init 28 = .ok (.aload_n 0, 1) := by decide +kernel
theorem dX6_init_29 : decode cX6_init 29 = .ok (.bipush 8, 2) := by decide +kernel
theorem dX6_init_31 : decode cX6_init 31 = .ok (.newarray .int, 2) := by decide +kernel
theorem dX6_init_33 : decode cX6_init 33 = .ok (.putfield 21, 3) := by decide +kernel
theorem dX6_init_36 : decode cX6_init 36 = .ok (.return_, 1) := by decide +kernel
theorem iX6_init_6 : ∀ w ∈ wsX60, w ∈ wsX6_init := fun w h => List.mem_cons_of_mem _ (List.mem_append_right _ h)
theorem pX6_init_9 : FP mX6_init 9 6 0 (.array .int) true := ⟨_, _, _, tyX6, rfl, by decide, iX6_init_6, by decide +kernel, tyX6_ok, nmX6, rfl, rfl, fun _ => rfl⟩
theorem pX6_init_15 : FP mX6_init 15 6 1 (.array .int) true := ⟨_, _, _, tyX6, rfl, by decide, iX6_init_6, by decide +kernel, tyX6_ok, nmX6, rfl, rfl, fun _ => rfl⟩
theorem pX6_init_18 : FP mX6_init 18 6 2 (.array .int) true := ⟨_, _, _, tyX6, rfl, by decide, iX6_init_6, by decide +kernel, tyX6_ok, nmX6, rfl, rfl, fun _ => rfl⟩
theorem pX6_init_21 : FP mX6_init 21 6 3 (.array .int) true := ⟨_, _, _, tyX6, rfl, by decide, iX6_init_6, by decide +kernel, tyX6_ok, nmX6, rfl, rfl, fun _ => rfl⟩
abbrev mX1_init : mT := (yX1_init, RX1, cX1_init, 1, none, wsX1_init)
abbrev rX1_init : Room := { frames := 2, cells := 2, slots := 81, locals := 60 }
theorem dX1_init_0 : decode cX1_init 0 = .ok (.aload_n 0, 1) := by decide +kernel
theorem dX1_init_1 : decode cX1_init 1 = .ok (.invokespecial 1, 3) := by decide +kernel
theorem dX1_init_4 : decode cX1_init 4 = .ok (.aload_n 0, 1) := by decide +kernel
theorem dX1_init_5 : decode cX1_init 5 = .ok (.new 7, 3) := by decide +kernel
theorem dX1_init_8 : decode cX1_init 8 = .ok (.dup, 1) := by decide +kernel
theorem dX1_init_9 : decode cX1_init 9 = .ok (.invokespecial 9, 3) := by decide +kernel
theorem dX1_init_12 : decode cX1_init 12 = .ok (.putfield 10, 3) := by decide +kernel
theorem dX1_init_15 : decode cX1_init 15 = .ok (.return_, 1) := by decide +kernel
theorem iX1_init_1 : ∀ w ∈ wsX10, w ∈ wsX1_init := fun w h => List.mem_cons_of_mem _ (List.mem_append_right _ h)
theorem pX1_init_10 : FP mX1_init 10 1 0 (.object "LightCoins$Purses") true := ⟨_, _, _, tyX1, rfl, by decide, iX1_init_1, by decide +kernel, tyX1_ok, nmX1, rfl, rfl, fun _ => rfl⟩
set_option maxRecDepth 20000 in
theorem ggX1_init_X4_init : GoodIn wsX1_init wsX4_init := goodIn_r _ [9, 10, 2, 3, 11, 12, 13] (by decide +kernel) (by decide +kernel)
set_option maxRecDepth 20000 in
theorem gX1_init_X4_init_n9 : GoodIn wsX1_init (wsX4_init) := ggX1_init_X4_init
theorem ciX1_init_X4_init : CWI mX1_init mX4_init := ⟨gX1_init_X4_init_n9, ⟨_, rfl⟩, by decide +kernel, by decide +kernel, rfl, by decide +kernel, by decide +kernel, by decide +kernel⟩
section
variable {Γ : gT} {l : Launch} {ws : va_W} {i a : Nat}
theorem i_X4 (hi : ws[i]? = some (a, ob 4 [.null])) : ConU Γ l mX4_init rX4_init [.ref a] ws (mkQ ws i a (fun q => ob 4 [.ref (q 0)]) (fun q => [(q 0, aI Γ 80 (fun _ => 0))])) := by
  refine ConU.of (by decide +kernel) rfl rfl (Nat.le_of_ble_eq_true rfl) ?_
  refine U.w (ws' := pw ws i (a, ob 4 [.null]) []) ?_ (pw_0 hi)
  refine u_aload_n dX4_init_0 rfl rfl ?_
  refine u_obj dX4_init_1 (by decide +kernel) (Nat.le_of_ble_eq_true rfl) (Nat.le_of_ble_eq_true rfl) ?_
  refine u_aload_n dX4_init_4 rfl rfl ?_
  refine u_bipush (v := 80) dX4_init_5 rfl ?_
  refine up_newa (N := 80) (t0 := 1) (a0 := (80, .inl (fun _ => 0))) dX4_init_7 (by decide +kernel) rfl rfl (fun _ => rfl) (by decide) (by decide) (by decide) (Nat.le_of_ble_eq_true rfl) (Nat.le_of_ble_eq_true rfl) (fun q1 => ?_)
  refine up_putF hi dX4_init_9 pX4_init_9 rfl rfl rfl (Nat.le_of_ble_eq_true rfl) ?_
  exact u_vret dX4_init_12 rfl (Nat.le_of_ble_eq_true rfl) (Nat.le_of_ble_eq_true rfl) (⟨rfl, fun _ => q1, rfl⟩)
theorem i_X5 (hi : ws[i]? = some (a, ob 5 [.null, .int 0, .int 0, .int 0, .int 0, .int 0])) : ConU Γ l mX5_init rX5_init [.ref a] ws (mkQ ws i a (fun q => ob 5 [.ref (q 0), .int 0, .int 0, .int 0, .int 0, .int 0]) (fun q => [(q 0, aI Γ 300 (fun _ => 0))])) := by
  refine ConU.of (by decide +kernel) rfl rfl (Nat.le_of_ble_eq_true rfl) ?_
  refine U.w (ws' := pw ws i (a, ob 5 [.null, .int 0, .int 0, .int 0, .int 0, .int 0]) []) ?_ (pw_0 hi)
  refine u_aload_n dX5_init_0 rfl rfl ?_
  refine u_obj dX5_init_1 (by decide +kernel) (Nat.le_of_ble_eq_true rfl) (Nat.le_of_ble_eq_true rfl) ?_
  refine u_aload_n dX5_init_4 rfl rfl ?_
  refine u_sipush (v := 300) dX5_init_5 rfl ?_
  refine up_newa (N := 300) (t0 := 1) (a0 := (300, .inl (fun _ => 0))) dX5_init_8 (by decide +kernel) rfl rfl (fun _ => rfl) (by decide) (by decide) (by decide) (Nat.le_of_ble_eq_true rfl) (Nat.le_of_ble_eq_true rfl) (fun q1 => ?_)
  refine up_putF hi dX5_init_10 pX5_init_11 rfl rfl rfl (Nat.le_of_ble_eq_true rfl) ?_
  exact u_vret dX5_init_13 rfl (Nat.le_of_ble_eq_true rfl) (Nat.le_of_ble_eq_true rfl) (⟨rfl, fun _ => q1, rfl⟩)
def tu0 : Nat → Int32 := upd (upd (upd (upd (upd (upd (fun _ => 0) 0 2) 1 5) 2 20) 3 1) 4 1) 5 20
theorem i_X7 (hi : ws[i]? = some (a, ob 7 [.null])) : ConU Γ l mX7_init rX7_init [.ref a] ws (mkQ ws i a (fun q => ob 7 [.ref (q 0)]) (fun q => [(q 0, aI Γ 6 tu0)])) := by
  refine ConU.of (by decide +kernel) rfl rfl (Nat.le_of_ble_eq_true rfl) ?_
  refine U.w (ws' := pw ws i (a, ob 7 [.null]) []) ?_ (pw_0 hi)
  refine u_aload_n dX7_init_0 rfl rfl ?_
  refine u_obj dX7_init_1 (by decide +kernel) (Nat.le_of_ble_eq_true rfl) (Nat.le_of_ble_eq_true rfl) ?_
  refine u_aload_n dX7_init_4 rfl rfl ?_
  refine u_bipush (v := 6) dX7_init_5 rfl ?_
  refine up_newa (N := 6) (t0 := 1) (a0 := (6, .inl (fun _ => 0))) dX7_init_7 (by decide +kernel) rfl rfl (fun _ => rfl) (by decide) (by decide) (by decide) (Nat.le_of_ble_eq_true rfl) (Nat.le_of_ble_eq_true rfl) (fun q1 => ?_)
  refine u_dup dX7_init_9 rfl ?_
  refine u_iconst (v := 0) dX7_init_10 rfl ?_
  refine u_iconst (v := 2) dX7_init_11 rfl ?_
  refine up_iast (k := 0) dX7_init_12 rfl (in_nI (k := 0) (by omega) (by omega)) ?_
  refine u_dup dX7_init_13 rfl ?_
  refine u_iconst (v := 1) dX7_init_14 rfl ?_
  refine u_iconst (v := 5) dX7_init_15 rfl ?_
  refine up_iast (k := 0) dX7_init_16 rfl (in_nI (k := 1) (by omega) (by omega)) ?_
  refine u_dup dX7_init_17 rfl ?_
  refine u_iconst (v := 2) dX7_init_18 rfl ?_
  refine u_bipush (v := 20) dX7_init_19 rfl ?_
  refine up_iast (k := 0) dX7_init_21 rfl (in_nI (k := 2) (by omega) (by omega)) ?_
  refine u_dup dX7_init_22 rfl ?_
  refine u_iconst (v := 3) dX7_init_23 rfl ?_
  refine u_iconst (v := 1) dX7_init_24 rfl ?_
  refine up_iast (k := 0) dX7_init_25 rfl (in_nI (k := 3) (by omega) (by omega)) ?_
  refine u_dup dX7_init_26 rfl ?_
  refine u_iconst (v := 4) dX7_init_27 rfl ?_
  refine u_iconst (v := 1) dX7_init_28 rfl ?_
  refine up_iast (k := 0) dX7_init_29 rfl (in_nI (k := 4) (by omega) (by omega)) ?_
  refine u_dup dX7_init_30 rfl ?_
  refine u_iconst (v := 5) dX7_init_31 rfl ?_
  refine u_bipush (v := 20) dX7_init_32 rfl ?_
  refine up_iast (k := 0) dX7_init_34 rfl (in_nI (k := 5) (by omega) (by omega)) ?_
  refine up_putF hi dX7_init_35 pX7_init_9 rfl rfl rfl (Nat.le_of_ble_eq_true rfl) ?_
  exact u_vret dX7_init_38 rfl (Nat.le_of_ble_eq_true rfl) (Nat.le_of_ble_eq_true rfl) (⟨rfl, fun _ => q1, rfl⟩)
theorem i_X3 (hi : ws[i]? = some (a, ob 3 [.int 0, .int 0, .int 0, .int 0, .int 0])) : ConU Γ l mX3_init rX3_init [.ref a] ws (mkQ ws i a (fun q => ob 3 [.int (-9), .int (-9), .int (-9), .int (-9), .int 0]) (fun q => [])) := by
  refine ConU.of (by decide +kernel) rfl rfl (Nat.le_of_ble_eq_true rfl) ?_
  refine U.w (ws' := pw ws i (a, ob 3 [.int 0, .int 0, .int 0, .int 0, .int 0]) []) ?_ (pw_0 hi)
  refine u_aload_n dX3_init_0 rfl rfl ?_
  refine u_obj dX3_init_1 (by decide +kernel) (Nat.le_of_ble_eq_true rfl) (Nat.le_of_ble_eq_true rfl) ?_
  refine u_aload_n dX3_init_4 rfl rfl ?_
  refine u_bipush (v := (-9)) dX3_init_5 rfl ?_
  refine up_put hi dX3_init_7 pX3_init_9 rfl rfl (Nat.le_of_ble_eq_true rfl) ?_
  refine u_aload_n dX3_init_10 rfl rfl ?_
  refine u_bipush (v := (-9)) dX3_init_11 rfl ?_
  refine up_put hi dX3_init_13 pX3_init_15 rfl rfl (Nat.le_of_ble_eq_true rfl) ?_
  refine u_aload_n dX3_init_16 rfl rfl ?_
  refine u_bipush (v := (-9)) dX3_init_17 rfl ?_
  refine up_put hi dX3_init_19 pX3_init_18 rfl rfl (Nat.le_of_ble_eq_true rfl) ?_
  refine u_aload_n dX3_init_22 rfl rfl ?_
  refine u_bipush (v := (-9)) dX3_init_23 rfl ?_
  refine up_put hi dX3_init_25 pX3_init_21 rfl rfl (Nat.le_of_ble_eq_true rfl) ?_
  exact u_vret dX3_init_28 rfl (Nat.le_of_ble_eq_true rfl) (Nat.le_of_ble_eq_true rfl) (⟨rfl, fun _ => 0, rfl⟩)
theorem i_X0 (hi : ws[i]? = some (a, ob 0 [.null, .null, .null, .int 0, .int 0])) : ConU Γ l mX0_init rX0_init [.ref a] ws (mkQ ws i a (fun q => ob 0 [.ref (q 0), .ref (q 1), .ref (q 2), .int 0, .int 0]) (fun q => [(q 0, aI Γ 10 (fun _ => 0)), (q 1, aI Γ 31 (fun _ => 0)), (q 2, aI Γ 31 (fun _ => 0))])) := by
  refine ConU.of (by decide +kernel) rfl rfl (Nat.le_of_ble_eq_true rfl) ?_
  refine U.w (ws' := pw ws i (a, ob 0 [.null, .null, .null, .int 0, .int 0]) []) ?_ (pw_0 hi)
  refine u_aload_n dX0_init_0 rfl rfl ?_
  refine u_obj dX0_init_1 (by decide +kernel) (Nat.le_of_ble_eq_true rfl) (Nat.le_of_ble_eq_true rfl) ?_
  refine u_aload_n dX0_init_4 rfl rfl ?_
  refine u_bipush (v := 10) dX0_init_5 rfl ?_
  refine up_newa (N := 10) (t0 := 1) (a0 := (10, .inl (fun _ => 0))) dX0_init_7 (by decide +kernel) rfl rfl (fun _ => rfl) (by decide) (by decide) (by decide) (Nat.le_of_ble_eq_true rfl) (Nat.le_of_ble_eq_true rfl) (fun q1 => ?_)
  refine up_putF hi dX0_init_9 pX0_init_9 rfl rfl rfl (Nat.le_of_ble_eq_true rfl) ?_
  refine u_aload_n dX0_init_12 rfl rfl ?_
  refine u_bipush (v := 31) dX0_init_13 rfl ?_
  refine up_newa (N := 31) (t0 := 1) (a0 := (31, .inl (fun _ => 0))) dX0_init_15 (by decide +kernel) rfl rfl (fun _ => rfl) (by decide) (by decide) (by decide) (Nat.le_of_ble_eq_true rfl) (Nat.le_of_ble_eq_true rfl) (fun q2 => ?_)
  refine up_putF hi dX0_init_17 pX0_init_15 rfl rfl rfl (Nat.le_of_ble_eq_true rfl) ?_
  refine u_aload_n dX0_init_20 rfl rfl ?_
  refine u_bipush (v := 31) dX0_init_21 rfl ?_
  refine up_newa (N := 31) (t0 := 1) (a0 := (31, .inl (fun _ => 0))) dX0_init_23 (by decide +kernel) rfl rfl (fun _ => rfl) (by decide) (by decide) (by decide) (Nat.le_of_ble_eq_true rfl) (Nat.le_of_ble_eq_true rfl) (fun q3 => ?_)
  refine up_putF hi dX0_init_25 pX0_init_18 rfl rfl rfl (Nat.le_of_ble_eq_true rfl) ?_
  exact u_vret dX0_init_28 rfl (Nat.le_of_ble_eq_true rfl) (Nat.le_of_ble_eq_true rfl) (⟨rfl, fun j => ([q1, q2, q3] : List Nat).getD j 0, rfl⟩)
theorem i_X2 (hi : ws[i]? = some (a, ob 2 [.null])) : ConU Γ l mX2_init rX2_init [.ref a] ws (mkQ ws i a (fun q => ob 2 [.ref (q 0)]) (fun q => [(q 0, aI Γ 27 (fun _ => 0))])) := by
  refine ConU.of (by decide +kernel) rfl rfl (Nat.le_of_ble_eq_true rfl) ?_
  refine U.w (ws' := pw ws i (a, ob 2 [.null]) []) ?_ (pw_0 hi)
  refine u_aload_n dX2_init_0 rfl rfl ?_
  refine u_obj dX2_init_1 (by decide +kernel) (Nat.le_of_ble_eq_true rfl) (Nat.le_of_ble_eq_true rfl) ?_
  refine u_aload_n dX2_init_4 rfl rfl ?_
  refine u_bipush (v := 27) dX2_init_5 rfl ?_
  refine up_newa (N := 27) (t0 := 1) (a0 := (27, .inl (fun _ => 0))) dX2_init_7 (by decide +kernel) rfl rfl (fun _ => rfl) (by decide) (by decide) (by decide) (Nat.le_of_ble_eq_true rfl) (Nat.le_of_ble_eq_true rfl) (fun q1 => ?_)
  refine up_putF hi dX2_init_9 pX2_init_11 rfl rfl rfl (Nat.le_of_ble_eq_true rfl) ?_
  exact u_vret dX2_init_12 rfl (Nat.le_of_ble_eq_true rfl) (Nat.le_of_ble_eq_true rfl) (⟨rfl, fun _ => q1, rfl⟩)
theorem i_X6 (hi : ws[i]? = some (a, ob 6 [.null, .null, .null, .null, .int 0])) : ConU Γ l mX6_init rX6_init [.ref a] ws (mkQ ws i a (fun q => ob 6 [.ref (q 0), .ref (q 1), .ref (q 2), .ref (q 3), .int 0]) (fun q => [(q 0, aI Γ 8 (fun _ => 0)), (q 1, aI Γ 8 (fun _ => 0)), (q 2, aI Γ 8 (fun _ => 0)), (q 3, aI Γ 8 (fun _ => 0))])) := by
  refine ConU.of (by decide +kernel) rfl rfl (Nat.le_of_ble_eq_true rfl) ?_
  refine U.w (ws' := pw ws i (a, ob 6 [.null, .null, .null, .null, .int 0]) []) ?_ (pw_0 hi)
  refine u_aload_n dX6_init_0 rfl rfl ?_
  refine u_obj dX6_init_1 (by decide +kernel) (Nat.le_of_ble_eq_true rfl) (Nat.le_of_ble_eq_true rfl) ?_
  refine u_aload_n dX6_init_4 rfl rfl ?_
  refine u_bipush (v := 8) dX6_init_5 rfl ?_
  refine up_newa (N := 8) (t0 := 1) (a0 := (8, .inl (fun _ => 0))) dX6_init_7 (by decide +kernel) rfl rfl (fun _ => rfl) (by decide) (by decide) (by decide) (Nat.le_of_ble_eq_true rfl) (Nat.le_of_ble_eq_true rfl) (fun q1 => ?_)
  refine up_putF hi dX6_init_9 pX6_init_9 rfl rfl rfl (Nat.le_of_ble_eq_true rfl) ?_
  refine u_aload_n dX6_init_12 rfl rfl ?_
  refine u_bipush (v := 8) dX6_init_13 rfl ?_
  refine up_newa (N := 8) (t0 := 1) (a0 := (8, .inl (fun _ => 0))) dX6_init_15 (by decide +kernel) rfl rfl (fun _ => rfl) (by decide) (by decide) (by decide) (Nat.le_of_ble_eq_true rfl) (Nat.le_of_ble_eq_true rfl) (fun q2 => ?_)
  refine up_putF hi dX6_init_17 pX6_init_15 rfl rfl rfl (Nat.le_of_ble_eq_true rfl) ?_
  refine u_aload_n dX6_init_20 rfl rfl ?_
  refine u_bipush (v := 8) dX6_init_21 rfl ?_
  refine up_newa (N := 8) (t0 := 1) (a0 := (8, .inl (fun _ => 0))) dX6_init_23 (by decide +kernel) rfl rfl (fun _ => rfl) (by decide) (by decide) (by decide) (Nat.le_of_ble_eq_true rfl) (Nat.le_of_ble_eq_true rfl) (fun q3 => ?_)
  refine up_putF hi dX6_init_25 pX6_init_18 rfl rfl rfl (Nat.le_of_ble_eq_true rfl) ?_
  refine u_aload_n dX6_init_28 rfl rfl ?_
  refine u_bipush (v := 8) dX6_init_29 rfl ?_
  refine up_newa (N := 8) (t0 := 1) (a0 := (8, .inl (fun _ => 0))) dX6_init_31 (by decide +kernel) rfl rfl (fun _ => rfl) (by decide) (by decide) (by decide) (Nat.le_of_ble_eq_true rfl) (Nat.le_of_ble_eq_true rfl) (fun q4 => ?_)
  refine up_putF hi dX6_init_33 pX6_init_21 rfl rfl rfl (Nat.le_of_ble_eq_true rfl) ?_
  exact u_vret dX6_init_36 rfl (Nat.le_of_ble_eq_true rfl) (Nat.le_of_ble_eq_true rfl) (⟨rfl, fun j => ([q1, q2, q3, q4] : List Nat).getD j 0, rfl⟩)
theorem i_X1 (hi : ws[i]? = some (a, ob 1 [.null, .int 0, .int 0, .int 0])) : ConU Γ l mX1_init rX1_init [.ref a] ws (mkQ ws i a (fun q => ob 1 [.ref (q 0), .int 0, .int 0, .int 0]) (fun q => [(q 0, ob 4 [.ref (q 1)]), (q 1, aI Γ 80 (fun _ => 0))])) := by
  refine ConU.of (by decide +kernel) rfl rfl (Nat.le_of_ble_eq_true rfl) ?_
  refine U.w (ws' := pw ws i (a, ob 1 [.null, .int 0, .int 0, .int 0]) []) ?_ (pw_0 hi)
  refine u_aload_n dX1_init_0 rfl rfl ?_
  refine u_obj dX1_init_1 (by decide +kernel) (Nat.le_of_ble_eq_true rfl) (Nat.le_of_ble_eq_true rfl) ?_
  refine u_aload_n dX1_init_4 rfl rfl ?_
  refine up_new (ci := 4) (fs := [.null]) (ty := tyX4) dX1_init_5 rfl (fun w h => List.mem_cons_of_mem _ (List.mem_append_left _ (List.mem_append_right _ h))) tyX4_ok (by decide +kernel) df4 (Nat.le_of_ble_eq_true rfl) (Nat.le_of_ble_eq_true rfl) (fun q1 => ?_)
  refine u_dup dX1_init_8 rfl ?_
  refine up_callN (k := 0) dX1_init_9 ciX1_init_X4_init (by decide +kernel) rfl (fun ws i hi => i_X4 hi) (Nat.le_of_ble_eq_true rfl) ⟨⟨Nat.le_of_ble_eq_true rfl, Nat.le_of_ble_eq_true rfl⟩, Nat.le_of_ble_eq_true rfl, Nat.le_of_ble_eq_true rfl⟩ (fun q2 => ?_)
  refine up_putF hi dX1_init_12 pX1_init_10 rfl rfl rfl (Nat.le_of_ble_eq_true rfl) ?_
  exact u_vret dX1_init_15 rfl (Nat.le_of_ble_eq_true rfl) (Nat.le_of_ble_eq_true rfl) (⟨rfl, fun j => ([q1, q2 0] : List Nat).getD j 0, rfl⟩)
end

