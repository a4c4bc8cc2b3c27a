/-! THE LAW: what was there before -/
theorem ar_of {ty : FieldType} {args : Array Value} {s : State} (h : (Cond.arrayClass ty).before args s = true) : ∃ (cA : ClassId) (kA : Class) (comp : ClassId), s.vm.findClass ("[" ++ ty.toString) = some cA ∧ s.vm.classes[cA]? = some kA ∧ kA.kind = .array comp ty := Cond.arrayClass_spec h
theorem ar_T {ty : FieldType} {s : State} {cA : ClassId} {kA : Class} {comp : ClassId} (h2 : s.vm.classes[cA]? = some kA) (h3 : kA.kind = .array comp ty) : ArrOfT s cA ty := fun n z => ⟨fun k h => (by cases h), kA, h2, comp, h3⟩
theorem T_of_X {b L : Nat} {xs : Nat → Int32} {s : State} {A : Nat → Prop} (hX : va_X b L xs s s.heap) (hA : ¬ A b) : va_T .int b L (fun j => .int (xs j)) A s s.heap := by
  obtain ⟨scr, h1, h2, h3, h4, h5⟩ := hX
  exact ⟨scr, h1, h2, h3, by omega, by rw [h4], h5, hA⟩
theorem S_c {N : Nat} {len : List Nat} {byt : List (List Int32)} {adK adV adK' adV' : Nat → Nat} {A : Nat → Prop} {U : State} {H : Heap} (h : vk_S N len byt adK adV A U H) (e1 : ∀ i, i < N → adK' i = adK i) (e2 : ∀ i, i < N → adV' i = adV i) : vk_S N len byt adK' adV' A U H := by
  refine ⟨fun i hi => ?_, fun i j hi hj e => ?_⟩
  · rw [e1 i hi, e2 i hi]; exact h.1 i hi
  · rw [e1 i hi, e1 j hj] at e; exact h.2 i j hi hj e
abbrev tmS (n : String) : Term := .static "LightCoins$Tunes" n "[I"
abbrev tmW (i : Nat) : Term := .string "LightCoins$Text" (sIdx i)
section
variable {args : Array Value} {s : State}
abbrev FL1 (args : Array Value) (s : State) : Prop := ∀ c ∈ flatC (Jvm.Cond.and given_1 narrow_1), c.before args s = true
theorem T_LEAST (hs : FL1 args s) (hA : ∀ a : Nat, a < s.heap.size → ¬ (fun q : Nat => s.heap.size ≤ q) a) : ∃ t : Nat, (tmS "LEAST").eval args s none [] s = some (.ref t) ∧ va_T .int t 6 tLeast (fun q : Nat => s.heap.size ≤ q) s s.heap := by
  refine va_Tof (tm := tmS "LEAST") (ty := .int) (N := 6) (f := tLeast) (A := fun q : Nat => s.heap.size ≤ q) (by omega) (hs (.arrayOf (tmS "LEAST") .int) (by decide +kernel)) (va_eqt (hs (.eq (.length (tmS "LEAST")) (.int 6)) (by decide +kernel))) (fun j hj => ?_) hA
  rcases (show j = 0 ∨ j = 1 ∨ j = 2 ∨ j = 3 ∨ j = 4 ∨ j = 5 by omega) with rfl | rfl | rfl | rfl | rfl | rfl
  · exact va_eqt (hs (.eq (.elem (tmS "LEAST") (.int 0)) (.int 0)) (by decide +kernel))
  · exact va_eqt (hs (.eq (.elem (tmS "LEAST") (.int 1)) (.int 0)) (by decide +kernel))
  · exact va_eqt (hs (.eq (.elem (tmS "LEAST") (.int 2)) (.int 0)) (by decide +kernel))
  · exact va_eqt (hs (.eq (.elem (tmS "LEAST") (.int 3)) (.int 0)) (by decide +kernel))
  · exact va_eqt (hs (.eq (.elem (tmS "LEAST") (.int 4)) (.int 0)) (by decide +kernel))
  · exact va_eqt (hs (.eq (.elem (tmS "LEAST") (.int 5)) (.int 1)) (by decide +kernel))
theorem T_MOST (hs : FL1 args s) (hA : ∀ a : Nat, a < s.heap.size → ¬ (fun q : Nat => s.heap.size ≤ q) a) : ∃ t : Nat, (tmS "MOST").eval args s none [] s = some (.ref t) ∧ va_T .int t 6 tMost (fun q : Nat => s.heap.size ≤ q) s s.heap := by
  refine va_Tof (tm := tmS "MOST") (ty := .int) (N := 6) (f := tMost) (A := fun q : Nat => s.heap.size ≤ q) (by omega) (hs (.arrayOf (tmS "MOST") .int) (by decide +kernel)) (va_eqt (hs (.eq (.length (tmS "MOST")) (.int 6)) (by decide +kernel))) (fun j hj => ?_) hA
  rcases (show j = 0 ∨ j = 1 ∨ j = 2 ∨ j = 3 ∨ j = 4 ∨ j = 5 by omega) with rfl | rfl | rfl | rfl | rfl | rfl
  · exact va_eqt (hs (.eq (.elem (tmS "MOST") (.int 0)) (.int 9)) (by decide +kernel))
  · exact va_eqt (hs (.eq (.elem (tmS "MOST") (.int 1)) (.int 99)) (by decide +kernel))
  · exact va_eqt (hs (.eq (.elem (tmS "MOST") (.int 2)) (.int 99)) (by decide +kernel))
  · exact va_eqt (hs (.eq (.elem (tmS "MOST") (.int 3)) (.int 10)) (by decide +kernel))
  · exact va_eqt (hs (.eq (.elem (tmS "MOST") (.int 4)) (.int 20)) (by decide +kernel))
  · exact va_eqt (hs (.eq (.elem (tmS "MOST") (.int 5)) (.int 99)) (by decide +kernel))
theorem S_words (hs : FL1 args s) (hA : ∀ a : Nat, a < s.heap.size → ¬ (fun q : Nat => s.heap.size ≤ q) a) : ∃ adK adV : Nat → Nat, vk_S 5 sLen sByt adK adV (fun q : Nat => s.heap.size ≤ q) s s.heap ∧ ∀ i : Nat, i < 5 → (tmW i).eval args s none [] s = some (.ref (adK i)) := by
  refine vk_Sof (tm := tmW) (fun i hi => ?_) (fun i hi => ?_) (fun i hi => ?_) (fun i hi => ?_) (fun i hi => ?_) (fun i hi j hj => ?_) (fun i j hi hj hij => ?_) hA
  · rcases (show i = 0 ∨ i = 1 ∨ i = 2 ∨ i = 3 ∨ i = 4 by omega) with rfl | rfl | rfl | rfl | rfl <;> decide
  · rcases (show i = 0 ∨ i = 1 ∨ i = 2 ∨ i = 3 ∨ i = 4 by omega) with rfl | rfl | rfl | rfl | rfl
    · exact hs (.exactly (.string "LightCoins$Text" 78) "java/lang/String") (by decide +kernel)
    · exact hs (.exactly (.string "LightCoins$Text" 84) "java/lang/String") (by decide +kernel)
    · exact hs (.exactly (.string "LightCoins$Text" 86) "java/lang/String") (by decide +kernel)
    · exact hs (.exactly (.string "LightCoins$Text" 88) "java/lang/String") (by decide +kernel)
    · exact hs (.exactly (.string "LightCoins$Text" 90) "java/lang/String") (by decide +kernel)
  · rcases (show i = 0 ∨ i = 1 ∨ i = 2 ∨ i = 3 ∨ i = 4 by omega) with rfl | rfl | rfl | rfl | rfl
    · exact hs (.eq (.field (.string "LightCoins$Text" 78) "java/lang/String" "coder" "B") (.int 0)) (by decide +kernel)
    · exact hs (.eq (.field (.string "LightCoins$Text" 84) "java/lang/String" "coder" "B") (.int 0)) (by decide +kernel)
    · exact hs (.eq (.field (.string "LightCoins$Text" 86) "java/lang/String" "coder" "B") (.int 0)) (by decide +kernel)
    · exact hs (.eq (.field (.string "LightCoins$Text" 88) "java/lang/String" "coder" "B") (.int 0)) (by decide +kernel)
    · exact hs (.eq (.field (.string "LightCoins$Text" 90) "java/lang/String" "coder" "B") (.int 0)) (by decide +kernel)
  · rcases (show i = 0 ∨ i = 1 ∨ i = 2 ∨ i = 3 ∨ i = 4 by omega) with rfl | rfl | rfl | rfl | rfl
    · exact hs (.arrayOf (.field (.string "LightCoins$Text" 78) "java/lang/String" "value" "[B") .byte) (by decide +kernel)
    · exact hs (.arrayOf (.field (.string "LightCoins$Text" 84) "java/lang/String" "value" "[B") .byte) (by decide +kernel)
    · exact hs (.arrayOf (.field (.string "LightCoins$Text" 86) "java/lang/String" "value" "[B") .byte) (by decide +kernel)
    · exact hs (.arrayOf (.field (.string "LightCoins$Text" 88) "java/lang/String" "value" "[B") .byte) (by decide +kernel)
    · exact hs (.arrayOf (.field (.string "LightCoins$Text" 90) "java/lang/String" "value" "[B") .byte) (by decide +kernel)
  · rcases (show i = 0 ∨ i = 1 ∨ i = 2 ∨ i = 3 ∨ i = 4 by omega) with rfl | rfl | rfl | rfl | rfl
    · exact hs (.eq (.length (.field (.string "LightCoins$Text" 78) "java/lang/String" "value" "[B")) (.int 4)) (by decide +kernel)
    · exact hs (.eq (.length (.field (.string "LightCoins$Text" 84) "java/lang/String" "value" "[B")) (.int 4)) (by decide +kernel)
    · exact hs (.eq (.length (.field (.string "LightCoins$Text" 86) "java/lang/String" "value" "[B")) (.int 4)) (by decide +kernel)
    · exact hs (.eq (.length (.field (.string "LightCoins$Text" 88) "java/lang/String" "value" "[B")) (.int 5)) (by decide +kernel)
    · exact hs (.eq (.length (.field (.string "LightCoins$Text" 90) "java/lang/String" "value" "[B")) (.int 5)) (by decide +kernel)
  · rcases (show i = 0 ∨ i = 1 ∨ i = 2 ∨ i = 3 ∨ i = 4 by omega) with rfl | rfl | rfl | rfl | rfl
    · have hj : j < 4 := hj
      rcases (show j = 0 ∨ j = 1 ∨ j = 2 ∨ j = 3 by omega) with rfl | rfl | rfl | rfl
      · exact hs (.eq (.elem (.field (.string "LightCoins$Text" 78) "java/lang/String" "value" "[B") (.int 0)) (.int 116)) (by decide +kernel)
      · exact hs (.eq (.elem (.field (.string "LightCoins$Text" 78) "java/lang/String" "value" "[B") (.int 1)) (.int 97)) (by decide +kernel)
      · exact hs (.eq (.elem (.field (.string "LightCoins$Text" 78) "java/lang/String" "value" "[B") (.int 2)) (.int 108)) (by decide +kernel)
      · exact hs (.eq (.elem (.field (.string "LightCoins$Text" 78) "java/lang/String" "value" "[B") (.int 3)) (.int 101)) (by decide +kernel)
    · have hj : j < 4 := hj
      rcases (show j = 0 ∨ j = 1 ∨ j = 2 ∨ j = 3 by omega) with rfl | rfl | rfl | rfl
      · exact hs (.eq (.elem (.field (.string "LightCoins$Text" 84) "java/lang/String" "value" "[B") (.int 0)) (.int 108)) (by decide +kernel)
      · exact hs (.eq (.elem (.field (.string "LightCoins$Text" 84) "java/lang/String" "value" "[B") (.int 1)) (.int 111)) (by decide +kernel)
      · exact hs (.eq (.elem (.field (.string "LightCoins$Text" 84) "java/lang/String" "value" "[B") (.int 2)) (.int 111)) (by decide +kernel)
      · exact hs (.eq (.elem (.field (.string "LightCoins$Text" 84) "java/lang/String" "value" "[B") (.int 3)) (.int 107)) (by decide +kernel)
    · have hj : j < 4 := hj
      rcases (show j = 0 ∨ j = 1 ∨ j = 2 ∨ j = 3 by omega) with rfl | rfl | rfl | rfl
      · exact hs (.eq (.elem (.field (.string "LightCoins$Text" 86) "java/lang/String" "value" "[B") (.int 0)) (.int 115)) (by decide +kernel)
      · exact hs (.eq (.elem (.field (.string "LightCoins$Text" 86) "java/lang/String" "value" "[B") (.int 1)) (.int 111)) (by decide +kernel)
      · exact hs (.eq (.elem (.field (.string "LightCoins$Text" 86) "java/lang/String" "value" "[B") (.int 2)) (.int 109)) (by decide +kernel)
      · exact hs (.eq (.elem (.field (.string "LightCoins$Text" 86) "java/lang/String" "value" "[B") (.int 3)) (.int 101)) (by decide +kernel)
    · have hj : j < 5 := hj
      rcases (show j = 0 ∨ j = 1 ∨ j = 2 ∨ j = 3 ∨ j = 4 by omega) with rfl | rfl | rfl | rfl | rfl
      · exact hs (.eq (.elem (.field (.string "LightCoins$Text" 88) "java/lang/String" "value" "[B") (.int 0)) (.int 108)) (by decide +kernel)
      · exact hs (.eq (.elem (.field (.string "LightCoins$Text" 88) "java/lang/String" "value" "[B") (.int 1)) (.int 105)) (by decide +kernel)
      · exact hs (.eq (.elem (.field (.string "LightCoins$Text" 88) "java/lang/String" "value" "[B") (.int 2)) (.int 103)) (by decide +kernel)
      · exact hs (.eq (.elem (.field (.string "LightCoins$Text" 88) "java/lang/String" "value" "[B") (.int 3)) (.int 104)) (by decide +kernel)
      · exact hs (.eq (.elem (.field (.string "LightCoins$Text" 88) "java/lang/String" "value" "[B") (.int 4)) (.int 116)) (by decide +kernel)
    · have hj : j < 5 := hj
      rcases (show j = 0 ∨ j = 1 ∨ j = 2 ∨ j = 3 ∨ j = 4 by omega) with rfl | rfl | rfl | rfl | rfl
      · exact hs (.eq (.elem (.field (.string "LightCoins$Text" 90) "java/lang/String" "value" "[B") (.int 0)) (.int 104)) (by decide +kernel)
      · exact hs (.eq (.elem (.field (.string "LightCoins$Text" 90) "java/lang/String" "value" "[B") (.int 1)) (.int 101)) (by decide +kernel)
      · exact hs (.eq (.elem (.field (.string "LightCoins$Text" 90) "java/lang/String" "value" "[B") (.int 2)) (.int 97)) (by decide +kernel)
      · exact hs (.eq (.elem (.field (.string "LightCoins$Text" 90) "java/lang/String" "value" "[B") (.int 3)) (.int 118)) (by decide +kernel)
      · exact hs (.eq (.elem (.field (.string "LightCoins$Text" 90) "java/lang/String" "value" "[B") (.int 4)) (.int 121)) (by decide +kernel)
  · rcases (show i = 0 ∨ i = 1 ∨ i = 2 ∨ i = 3 ∨ i = 4 by omega) with rfl | rfl | rfl | rfl | rfl
    · rcases (show j = 0 ∨ j = 1 ∨ j = 2 ∨ j = 3 ∨ j = 4 by omega) with rfl | rfl | rfl | rfl | rfl
      · exact absurd rfl hij
      · exact Or.inl (hs (.not (.eq (.string "LightCoins$Text" 78) (.string "LightCoins$Text" 84))) (by decide +kernel))
      · exact Or.inl (hs (.not (.eq (.string "LightCoins$Text" 78) (.string "LightCoins$Text" 86))) (by decide +kernel))
      · exact Or.inl (hs (.not (.eq (.string "LightCoins$Text" 78) (.string "LightCoins$Text" 88))) (by decide +kernel))
      · exact Or.inl (hs (.not (.eq (.string "LightCoins$Text" 78) (.string "LightCoins$Text" 90))) (by decide +kernel))
    · rcases (show j = 0 ∨ j = 1 ∨ j = 2 ∨ j = 3 ∨ j = 4 by omega) with rfl | rfl | rfl | rfl | rfl
      · exact Or.inr (hs (.not (.eq (.string "LightCoins$Text" 78) (.string "LightCoins$Text" 84))) (by decide +kernel))
      · exact absurd rfl hij
      · exact Or.inl (hs (.not (.eq (.string "LightCoins$Text" 84) (.string "LightCoins$Text" 86))) (by decide +kernel))
      · exact Or.inl (hs (.not (.eq (.string "LightCoins$Text" 84) (.string "LightCoins$Text" 88))) (by decide +kernel))
      · exact Or.inl (hs (.not (.eq (.string "LightCoins$Text" 84) (.string "LightCoins$Text" 90))) (by decide +kernel))
    · rcases (show j = 0 ∨ j = 1 ∨ j = 2 ∨ j = 3 ∨ j = 4 by omega) with rfl | rfl | rfl | rfl | rfl
      · exact Or.inr (hs (.not (.eq (.string "LightCoins$Text" 78) (.string "LightCoins$Text" 86))) (by decide +kernel))
      · exact Or.inr (hs (.not (.eq (.string "LightCoins$Text" 84) (.string "LightCoins$Text" 86))) (by decide +kernel))
      · exact absurd rfl hij
      · exact Or.inl (hs (.not (.eq (.string "LightCoins$Text" 86) (.string "LightCoins$Text" 88))) (by decide +kernel))
      · exact Or.inl (hs (.not (.eq (.string "LightCoins$Text" 86) (.string "LightCoins$Text" 90))) (by decide +kernel))
    · rcases (show j = 0 ∨ j = 1 ∨ j = 2 ∨ j = 3 ∨ j = 4 by omega) with rfl | rfl | rfl | rfl | rfl
      · exact Or.inr (hs (.not (.eq (.string "LightCoins$Text" 78) (.string "LightCoins$Text" 88))) (by decide +kernel))
      · exact Or.inr (hs (.not (.eq (.string "LightCoins$Text" 84) (.string "LightCoins$Text" 88))) (by decide +kernel))
      · exact Or.inr (hs (.not (.eq (.string "LightCoins$Text" 86) (.string "LightCoins$Text" 88))) (by decide +kernel))
      · exact absurd rfl hij
      · exact Or.inl (hs (.not (.eq (.string "LightCoins$Text" 88) (.string "LightCoins$Text" 90))) (by decide +kernel))
    · rcases (show j = 0 ∨ j = 1 ∨ j = 2 ∨ j = 3 ∨ j = 4 by omega) with rfl | rfl | rfl | rfl | rfl
      · exact Or.inr (hs (.not (.eq (.string "LightCoins$Text" 78) (.string "LightCoins$Text" 90))) (by decide +kernel))
      · exact Or.inr (hs (.not (.eq (.string "LightCoins$Text" 84) (.string "LightCoins$Text" 90))) (by decide +kernel))
      · exact Or.inr (hs (.not (.eq (.string "LightCoins$Text" 86) (.string "LightCoins$Text" 90))) (by decide +kernel))
      · exact Or.inr (hs (.not (.eq (.string "LightCoins$Text" 88) (.string "LightCoins$Text" 90))) (by decide +kernel))
      · exact absurd rfl hij
end
theorem law_ext {args : Array Value} {s : State} {b L : Nat} {xs : Nat → Int32} (hts : ∀ w ∈ lw_tbl, w.before args s = true) (hs : FL1 args s) (hX : va_X b L xs s s.heap) (hbl : b < s.heap.size) : ∃ Γ : gT, gB Γ = s.heap.size ∧ gX Γ 1000 = b ∧ Γ.2.2.2.2.1 = L ∧ va_K Γ.1 vwCl (tysG Γ) s ∧ EXT Γ s s.heap := by
  have hA : ∀ a : Nat, a < s.heap.size → ¬ (fun q : Nat => s.heap.size ≤ q) a := fun a h1 h2 => Nat.lt_irrefl _ (Nat.lt_of_lt_of_le h1 h2)
  have hw : ∀ w ∈ wsL_law, w.before args s = true := fun w h => hts w (wsL_law_in w h)
  obtain ⟨c0, i0, k0⟩ := u_known (C := RX0) (T := TX0) (N := 5) (n := 5) hw inlX0 (hts _ tw_k0)
  obtain ⟨c1, i1, k1⟩ := u_known (C := RX1) (T := TX1) (N := 4) (n := 4) hw inlX1 (hts _ tw_k1)
  obtain ⟨c2, i2, k2⟩ := u_known (C := RX2) (T := TX2) (N := 1) (n := 1) hw inlX2 (hts _ tw_k2)
  obtain ⟨c3, i3, k3⟩ := u_known (C := RX3) (T := TX3) (N := 5) (n := 5) hw inlX3 (hts _ tw_k3)
  obtain ⟨c4, i4, k4⟩ := u_known (C := RX4) (T := TX4) (N := 1) (n := 1) hw inlX4 (hts _ tw_k4)
  obtain ⟨c5, i5, k5⟩ := u_known (C := RX5) (T := TX5) (N := 6) (n := 6) hw inlX5 (hts _ tw_k5)
  obtain ⟨c6, i6, k6⟩ := u_known (C := RX6) (T := TX6) (N := 5) (n := 5) hw inlX6 (hts _ tw_k6)
  obtain ⟨c7, i7, k7⟩ := u_known (C := RX7) (T := TX7) (N := 1) (n := 1) hw inlX7 (hts _ tw_k7)
  obtain ⟨c8, i8, k8⟩ := u_known (C := RX8) (T := TX8) (N := 13) (n := 13) hw inlX8 (hts _ tw_k8)
  obtain ⟨c9, i9, k9⟩ := u_known (C := RX9) (T := TX9) (N := 25) (n := 25) hw inlX9 (hts _ tw_k9)
  obtain ⟨a0, ka0, ca0, n0, p0, g0⟩ := ar_of (hts _ tw_abyte)
  obtain ⟨a1, ka1, ca1, n1, p1, g1⟩ := ar_of (hts _ tw_aint)
  obtain ⟨a2, ka2, ca2, n2, p2, g2⟩ := ar_of (hts _ tw_along)
  obtain ⟨a3, ka3, ca3, n3, p3, g3⟩ := ar_of (hts _ tw_aboolean)
  obtain ⟨ca4, a4, ka4, f4, -, p4, g4, n4⟩ := Cond.arrayOver_spec (hts _ tw_ao)
  obtain ⟨t1, e1, T1⟩ := T_LEAST hs hA
  obtain ⟨t2, e2, T2⟩ := T_MOST hs hA
  obtain ⟨adK, adV, hS, hE⟩ := S_words hs hA
  refine ⟨((fun k => ([c0, c1, c2, c3, c4, c5, c6, c7, c8, c9] : List ClassId).getD k 0, fun k => ([i0, i1, i2, i3, i4, i5, i6, i7, i8, i9] : List (Nat → Nat)).getD k (fun _ => 0)), fun k => ([a0, a1, a2, a3, a4] : List ClassId).getD k 0, s.heap.size, fun k => if k = 1000 then b else if k = 1001 then t1 else if k = 1002 then t2 else if k < 1020 then adK (k - 1010) else adV (k - 1020), L, xs), rfl, rfl, rfl, ⟨?_, ?_⟩, ?_⟩
  · intro k q hq
    match k, hq with
    | 0, hq => cases hq; exact k0
    | 1, hq => cases hq; exact k1
    | 2, hq => cases hq; exact k2
    | 3, hq => cases hq; exact k3
    | 4, hq => cases hq; exact k4
    | 5, hq => cases hq; exact k5
    | 6, hq => cases hq; exact k6
    | 7, hq => cases hq; exact k7
    | 8, hq => cases hq; exact k8
    | 9, hq => cases hq; exact k9
    | k + 10, hq => cases hq
  · intro k q hq
    match k, hq with
    | 0, hq => cases hq; exact ⟨ar_T p0 g0, n0⟩
    | 1, hq => cases hq; exact ⟨ar_T p1 g1, n1⟩
    | 2, hq => cases hq; exact ⟨ar_T p2 g2, n2⟩
    | 3, hq => cases hq; exact ⟨ar_T p3 g3, n3⟩
    | 4, hq => cases hq; exact ⟨ar_T p4 g4, ka4, ca4, p4, g4, f4, n4⟩
    | k + 5, hq => cases hq
  · refine ⟨T_of_X hX (hA b hbl), va_Zof (hts _ tw_LEAST) (hts _ tw_iTunes) e1 hA, T1, va_Zof (hts _ tw_MOST) (hts _ tw_iTunes) e2 hA, T2, va_Zof (hts _ tw_CS) (hts _ tw_iString) (va_eqt (hs (.eq (.static "java/lang/String" "COMPACT_STRINGS" "Z") (.int 1)) (by decide +kernel))) hA, ?_, va_Zqof (hts _ tw_FM) (hts _ tw_iPre) (hs (.isRef (.static "jdk/internal/util/Preconditions" "SIOOBE_FORMATTER" "Ljava/util/function/BiFunction;")) (by decide +kernel)) hA, ?_, ?_, va_AO.of (hts _ tw_ao)⟩
    · refine S_c hS (fun i hi => ?_) (fun i hi => ?_)
      · rcases (show i = 0 ∨ i = 1 ∨ i = 2 ∨ i = 3 ∨ i = 4 by omega) with rfl | rfl | rfl | rfl | rfl <;> rfl
      · rcases (show i = 0 ∨ i = 1 ∨ i = 2 ∨ i = 3 ∨ i = 4 by omega) with rfl | rfl | rfl | rfl | rfl <;> rfl
    · intro i hi
      have h2 := hE i hi
      rcases (show i = 0 ∨ i = 1 ∨ i = 2 ∨ i = 3 ∨ i = 4 by omega) with rfl | rfl | rfl | rfl | rfl
      · exact vk_R.of (hts _ tw_s0) h2
      · exact vk_R.of (hts _ tw_s1) h2
      · exact vk_R.of (hts _ tw_s2) h2
      · exact vk_R.of (hts _ tw_s3) h2
      · exact vk_R.of (hts _ tw_s4) h2
    · exact List.forall_mem_cons.mpr ⟨va_Nw.of rfl (hts _ tw_n0), List.forall_mem_cons.mpr ⟨va_Nw.of rfl (hts _ tw_n1), List.forall_mem_cons.mpr ⟨va_Nw.of rfl (hts _ tw_n2), List.forall_mem_cons.mpr ⟨va_Nw.of rfl (hts _ tw_n3), List.forall_mem_cons.mpr ⟨va_Nw.of rfl (hts _ tw_n4), List.forall_mem_cons.mpr ⟨va_Nw.of rfl (hts _ tw_n5), List.forall_mem_cons.mpr ⟨va_Nw.of rfl (hts _ tw_n6), List.forall_mem_cons.mpr ⟨va_Nw.of rfl (hts _ tw_n7), List.forall_mem_cons.mpr ⟨va_Nw.of rfl (hts _ tw_n8), fun q h => absurd h List.not_mem_nil⟩⟩⟩⟩⟩⟩⟩⟩⟩
/-- THE LAW, from its entry -/
theorem whole_start {p : Program} {e : Env} {s : State} {m : MethodId} {below : List Frame} {meth : Method} {c : Code} (l : Launch) {b L : Nat} {xs : Nat → Int32} (hL : L ≤ 2560) (hname : meth.name = x.name) (C0 : lw_At p s m meth c b L xs) : W p l e room_1 s m #[Value.ref b] below meth c s.heap [] 0 0 (lw_Z below #[Value.ref b] s) (entryFrame m ([Value.ref b] : List Value).toArray 4) := by
  obtain ⟨hx, hb, hr, hml, hown, hts, hX, hbl, hlocks, hgv⟩ := C0
  obtain ⟨Γ, g1, g2, g3, hK, hE⟩ := law_ext hts (flat_of_before _ hgv) hX hbl
  have hl := lv_entry ([.ref b]) (n := 4) (Nat.le_of_ble_eq_true rfl)
  rw [lg_entry_eq]
  have hC : Ctx Γ mL_law p s m #[Value.ref b] meth c := ⟨hx, hb, hr, hml, hown, fun w h => hts w (wsL_law_in w h), hlocks, hname, hK, hE, by rw [g1]; exact Nat.le_refl _⟩
  have hD : va_D (gA Γ) [] := ⟨fun i j p q h => by simp at h, fun k q h => by simp at h⟩
  have hP : va_P Γ.1 vwCl [] s.heap := fun k q h => by simp at h
  have hU := lw_start (Γ := Γ) (l := l) (b := b) (by rw [g3]; exact hL)
  rw [g2] at hU
  have hWk := hU p e s m #[Value.ref b] below meth c s.heap [] _ hC hD hP va_S.rf hl
  intro T hT X
  obtain ⟨t, a1, b1⟩ := hWk T hT X
  exact ⟨t, a1, b1 ⟨rfl, by rw [g1]; exact Nat.le_refl _⟩⟩

