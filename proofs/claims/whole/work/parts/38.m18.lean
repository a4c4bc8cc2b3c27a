/-! THE REFERENCE (X9): town's loop and what follows it -/
def m9 : Nat → Int32 := fun _ => -9
def addA (acc : List iT) : Nat ⊕ List iT → Nat ⊕ List iT
  | .inl f => .inl f
  | .inr L => .inr (acc ++ L)
def st4 (L : List iT) (w x y o : Nat → Int32) : Prop := stA (fun i => i.1) L w ∧ stA (fun i => i.2.1) L x ∧ stA (fun i => i.2.2.1) L y ∧ stA (fun i => i.2.2.2) L o
def low4 (w x y o w' x' y' o' : Nat → Int32) : Prop := lowA w w' ∧ lowA x x' ∧ lowA y y' ∧ lowA o o'
def in4 (L : List iT) (w x y o : Nat → Int32) : Prop := ∀ j, j < L.length → w j = nI (L.getD j (0, 0, 0, 0)).1 ∧ x j = nI (L.getD j (0, 0, 0, 0)).2.1 ∧ y j = nI (L.getD j (0, 0, 0, 0)).2.2.1 ∧ o j = nI (L.getD j (0, 0, 0, 0)).2.2.2
theorem twnL_len {t : Nat → Nat} {len : Nat} : ∀ (d : Nat) (S : sT) (L : List iT), twnL t len d S = .inr L → L.length ≤ d
  | 0, S, L, h => by
    unfold twnL at h
    by_cases e : S.2.2.1 = 0
    · rw [if_pos e] at h; cases h; exact Nat.le_refl _
    · rw [if_neg e] at h; cases h
  | d + 1, S, L, h => by
    unfold twnL at h
    by_cases e : S.2.2.1 = 0
    · rw [if_pos e] at h; cases h; exact Nat.zero_le _
    · rw [if_neg e] at h
      cases hi : itm t len S with
      | inl f => rw [hi] at h; cases h
      | inr i =>
        obtain ⟨i0, i1, i2, i3, S'⟩ := i
        rw [hi] at h
        simp only at h
        cases hr : twnL t len d S' with
        | inl f => rw [hr] at h; cases h
        | inr L' =>
          rw [hr] at h
          cases h
          have := twnL_len d S' L' hr
          show L'.length + 1 ≤ d + 1
          omega
section
variable {Γ : gT} {l : Launch} {as : List Nat} {h : aH} {m : Nat} {tc : Int64} {r : Nat → Nat} {z : Nat → Int32} {t : Nat → Nat} {len a s e : Nat} {bm : Nat → Int32} {w x y o f kp mt : Nat → Int32} {Z : zT} {ls : List (Nat × Value)}
theorem twLoop (d : D9 as m r) (hb : h (r 1) = aB Γ 300 bm) (ht : ∀ j, j < len → bm j = byt (t j) ∧ t j < 256) (hl : len ≤ 300) (h2 : z 2 = nI len) {R : Nat ⊕ List iT} {w0 x0 y0 o0 : Nat → Int32}
    (Kf : ∀ (g : Nat) (S9 : sT) (w x y o : Nat → Int32) (ls : List (Nat × Value)), R = .inl g → g ≤ len → low4 w0 x0 y0 o0 w x y o → lin ls [(0, .ref m)] → V Γ l mX9_town rX9_town Z 0 0 211 ls [] as (N8 Γ m r tc h (mz z (S9, some g)) w x y o f kp mt))
    (Ks : ∀ (L : List iT) (S9 : sT) (w x y o : Nat → Int32) (ls : List (Nat × Value)), R = .inr L → L.length ≤ 8 → st4 L w x y o → lin ls [(0, .ref m), (1, .int (nI L.length))] → V Γ l mX9_town rX9_town Z 0 0 211 ls [] as (N8 Γ m r tc h (mz z (S9, none)) w x y o f kp mt)) :
    ∀ (c : Nat) (acc : List iT) (S S9 : sT) (w x y o : Nat → Int32) (ls : List (Nat × Value)), acc.length + c = 8 → RS S S9 → sOK len S → okS len (S9, none) → st4 acc w x y o → low4 w0 x0 y0 o0 w x y o → R = addA acc (twnL t len c S) → lin ls [(0, .ref m), (1, .int (nI acc.length))] → V Γ l mX9_town rX9_town Z 0 0 17 ls [] as (N8 Γ m r tc h (mz z (S9, none)) w x y o f kp mt) := by
  have stop : ∀ (g : Nat) (T : St) (w x y o : Nat → Int32) (ls : List (Nat × Value)), T.2 = some g → okS len T → R = .inl g → low4 w0 x0 y0 o0 w x y o → lin ls [(0, .ref m)] → V Γ l mX9_town rX9_town Z 0 0 17 ls [] as (N8 Γ m r tc h (mz z T) w x y o f kp mt) := by
    intro g T w x y o ls hT hok hR hlo hls
    obtain ⟨S9, ft⟩ := T
    cases hT
    have hg : g ≤ len := hok.2.2.2.2 g rfl
    refine V.at ?_ hls
    refine q_aload_n dX9_town_17 rfl rfl ?_
    refine q_get dX9_town_18 fX9_town_101 (N8m d) rfl ?_
    refine q_bipush (v := (-9)) dX9_town_21 rfl ?_
    refine q_icmp_ne 211 dX9_town_23 (by decide) (fun _ => ?_) (fun z => absurd z (ft_ne (f := g) (by omega)))
    exact Kf g S9 w x y o _ hR hg hlo ⟨rfl, trivial⟩
  have fin : ∀ (acc : List iT) (S S9 : sT) (w x y o : Nat → Int32) (ls : List (Nat × Value)), acc.length ≤ 8 → RS S S9 → S.2.2.1 = 0 → st4 acc w x y o → R = .inr acc → lin ls [(0, .ref m), (1, .int (nI acc.length))] → V Γ l mX9_town rX9_town Z 0 0 17 ls [] as (N8 Γ m r tc h (mz z (S9, none)) w x y o f kp mt) := by
    intro acc S S9 w x y o ls hac hRS h0 hst hR hls
    have hso : S9.2.2.1 = 0 := by rw [hRS.2.1, h0]; rfl
    refine V.at ?_ hls
    refine q_aload_n dX9_town_17 rfl rfl ?_
    refine q_get dX9_town_18 fX9_town_101 (N8m d) rfl ?_
    refine q_bipush (v := (-9)) dX9_town_21 rfl ?_
    refine q_icmp_ne 211 dX9_town_23 (by decide) (fun z => absurd (rfl) z) (fun _ => ?_)
    refine q_aload_n dX9_town_26 rfl rfl ?_
    refine q_get dX9_town_27 fX9_town_76 (N8m d) rfl ?_
    refine q_if_eq 211 dX9_town_30 (by decide) (fun _ => ?_) (fun z => absurd (by show nI S9.2.2.1 = 0; rw [hso]; rfl) z)
    exact Ks acc S9 w x y o _ hR hac hst ⟨rfl, rfl, trivial⟩
  have go : ∀ (acc : List iT) (S S9 : sT) (w x y o : Nat → Int32) (ls : List (Nat × Value)), RS S S9 → sOK len S → okS len (S9, none) → ¬ S.2.2.1 = 0 → (∀ ls : List (Nat × Value), lin ls [(0, .ref m), (1, .int (nI acc.length))] → V Γ l mX9_town rX9_town Z 0 0 33 ls [] as (N8 Γ m r tc h (mz z (S9, none)) w x y o f kp mt)) → lin ls [(0, .ref m), (1, .int (nI acc.length))] → V Γ l mX9_town rX9_town Z 0 0 17 ls [] as (N8 Γ m r tc h (mz z (S9, none)) w x y o f kp mt) := by
    intro acc S S9 w x y o ls hRS hS hok h0 K hls
    have h5 : S9.2.2.1 ≤ 5 := hok.2.2.1
    have hso : ¬ S9.2.2.1 = 0 := by rw [hRS.2.1]; exact fun q => h0 ((sM_inv hS.2.2.1).1.mp q)
    refine V.at ?_ hls
    refine q_aload_n dX9_town_17 rfl rfl ?_
    refine q_get dX9_town_18 fX9_town_101 (N8m d) rfl ?_
    refine q_bipush (v := (-9)) dX9_town_21 rfl ?_
    refine q_icmp_ne 211 dX9_town_23 (by decide) (fun z => absurd (rfl) z) (fun _ => ?_)
    refine q_aload_n dX9_town_26 rfl rfl ?_
    refine q_get dX9_town_27 fX9_town_76 (N8m d) rfl ?_
    refine q_if_eq 211 dX9_town_30 (by decide) (fun z => absurd z (fun q => hso ((nI_eq (b := 0) (by omega) (by omega)).mp q))) (fun _ => ?_)
    exact K _ ⟨rfl, rfl, trivial⟩
  have lo : ∀ {w x y o : Nat → Int32} (p : Nat) (a b c e : Int32), low4 w0 x0 y0 o0 w x y o → low4 w0 x0 y0 o0 (upd w (kx p) a) (upd x (kx p) b) (upd y (kx p) c) (upd o (kx p) e) := fun p _ _ _ _ hlo => ⟨low_upd kx_ge hlo.1, low_upd kx_ge hlo.2.1, low_upd kx_ge hlo.2.2.1, low_upd kx_ge hlo.2.2.2⟩
  intro c
  induction c with
  | zero =>
    intro acc S S9 w x y o ls hac hRS hS hok hst hlo hR hls
    unfold twnL at hR
    by_cases h0 : S.2.2.1 = 0
    · rw [if_pos h0] at hR
      exact fin acc S S9 w x y o ls (by omega) hRS h0 hst (by rw [hR]; show Sum.inr (acc ++ []) = _; rw [List.append_nil]) hls
    · rw [if_neg h0] at hR
      refine go acc S S9 w x y o ls hRS hS hok h0 (fun ls1 hl1 => ?_) hls
      refine twB d hb ht hl h2 (p := acc.length) (by omega) hok (fun ls2 hl2 => ?_) hl1
      exact stop S.2.1 _ _ _ _ _ _ (stepF (by omega) hRS) (mU5_ok hok).2.2.2.2 hR (lo _ _ _ _ _ hlo) ⟨hl2.1, trivial⟩
  | succ c ih =>
    intro acc S S9 w x y o ls hac hRS hS hok hst hlo hR hls
    unfold twnL at hR
    by_cases h0 : S.2.2.1 = 0
    · rw [if_pos h0] at hR
      exact fin acc S S9 w x y o ls (by omega) hRS h0 hst (by rw [hR]; show Sum.inr (acc ++ []) = _; rw [List.append_nil]) hls
    · rw [if_neg h0] at hR
      refine go acc S S9 w x y o ls hRS hS hok h0 (fun ls1 hl1 => ?_) hls
      refine twB d hb ht hl h2 (p := acc.length) (by omega) hok (fun ls2 hl2 => ?_) hl1
      obtain ⟨sA, sB⟩ := stepS (t := t) (p := acc.length) (by omega) hRS hS
      cases hi : itm t len S with
      | inl g =>
        rw [hi] at hR
        exact stop g _ _ _ _ _ _ (sA g hi) (mU5_ok hok).2.2.2.2 hR (lo _ _ _ _ _ hlo) ⟨hl2.1, trivial⟩
      | inr i =>
        obtain ⟨i0, i1, i2, i3, S'⟩ := i
        obtain ⟨q1, q2, q3, q4, q5, q6, q7⟩ := sB i0 i1 i2 i3 S' hi
        have o5 := (mU5_ok (t := t) (p := acc.length) hok).2.2.2.2
        generalize hT : mU5 t len acc.length S9 = T at q1 q2 o5 ⊢
        obtain ⟨S5, ft⟩ := T
        cases q1
        have hk : kx acc.length = 8 + acc.length := by unfold kx; rw [if_pos (by omega)]
        rw [hi] at hR
        simp only at hR
        refine ih (acc ++ [(i0, i1, i2, i3)]) S' S5 _ _ _ _ _ (by rw [List.length_append]; show acc.length + 1 + c = 8; omega) q2 q3 o5 ?_ (lo _ _ _ _ _ hlo) ?_ (by rw [List.length_append]; exact hl2)
        · rw [hk, ← q4, ← q5, ← q6, ← q7]
          exact ⟨stA_s (i := (i0, i1, i2, i3)) hst.1, stA_s (i := (i0, i1, i2, i3)) hst.2.1, stA_s (i := (i0, i1, i2, i3)) hst.2.2.1, stA_s (i := (i0, i1, i2, i3)) hst.2.2.2⟩
        · rw [hR]
          cases hr : twnL t len c S' with
          | inl g => rfl
          | inr L' => show Sum.inr (acc ++ (i0, i1, i2, i3) :: L') = Sum.inr (acc ++ [(i0, i1, i2, i3)] ++ L'); rw [List.append_assoc]; rfl
def qTwM (Γ : gT) (m : Nat) (r : Nat → Nat) (tc : Int64) (len : Nat) (as : List Nat) (h : aH) (z w x y o f kp mt : Nat → Int32) (R : Nat ⊕ List iT) : qT := fun rr as' h' => as' = as ∧ match R with
  | .inl g => g ≤ len ∧ rr = some (.int (-10 - nI g)) ∧ ∃ (T : St) (w' x' y' o' : Nat → Int32), low4 w x y o w' x' y' o' ∧ h' = N8 Γ m r tc h (mz z T) w' x' y' o' f kp mt
  | .inr L => L.length ≤ 8 ∧ rr = some (.int (nI L.length)) ∧ ∃ (T : St) (w' x' y' o' : Nat → Int32), in4 L w' x' y' o' ∧ h' = N8 Γ m r tc h (upd (upd (upd (mz z T) 3 (nI L.length)) 19 0) 2 0) w' x' y' o' (zeroF 80 f) (upd (upd kp 0 0) 1 0) (fillF m9 mt 4)
theorem n_town (d : D9 as m r) (hb : h (r 1) = aB Γ 300 bm) (ht : ∀ j, j < len → bm j = byt (t j) ∧ t j < 256) (hl : len ≤ 300) (h2 : z 2 = nI len) {v : Nat} (hv : v ≤ 100) : Con Γ l mX9_town rX9_town [.ref m] as (N8 Γ m r tc h z w x y o f kp mt) (qTwM Γ m r tc len as h z w x y o f kp mt (twnL t len 8 (advF t len 0 v))) := by
  generalize hR : twnL t len 8 (advF t len 0 v) = R
  have mets : ∀ (L : List iT) (zz w' x' y' o' : Nat → Int32), R = .inr L → L.length ≤ 8 → in4 L w' x' y' o' → (∃ T : St, zz = upd (mz z T) 3 (nI L.length)) → ∀ (c i : Nat) (v2 : Int32) (ls : List (Nat × Value)) (h' : aH), i + c = 4 → v2 = nI i → h' = N8 Γ m r tc h zz w' x' y' o' (zeroF 80 f) (upd (upd kp 0 0) 1 0) (fillF m9 mt i) → lin ls [(0, .ref m), (1, .int (nI L.length)), (2, .int v2)] → V Γ l mX9_town rX9_town (Zm Γ rX9_town (qTwM Γ m r tc len as h z w x y o f kp mt R)) 0 0 343 ls [] as h' := by
    intro L zz w' x' y' o' hRL hL hin hzz c
    induction c with
    | zero =>
      intro i v2 ls h' hi hv2 hh hls
      have hi4 : i = 4 := by omega
      subst hi4 hv2 hh
      obtain ⟨T, rfl⟩ := hzz
      refine V.at ?_ hls
      refine q_iload_n dX9_town_343 rfl rfl ?_
      refine q_iconst (v := 4) dX9_town_344 rfl ?_
      refine q_icmp_ge 362 dX9_town_345 (by decide) (fun _ => ?_) (fun z => absurd (ge_c 4 rfl (by omega) (by omega)) z)
      refine q_aload_n dX9_town_362 rfl rfl ?_
      refine q_iconst (v := 0) dX9_town_363 rfl ?_
      refine q_put dX9_town_364 pX9_town_114 (N8m d) rfl rfl (Nat.le_of_ble_eq_true rfl) ?_
      refine V.hp (h' := N8 Γ m r tc h (upd (upd (mz z T) 3 (nI L.length)) 19 0) w' x' y' o' (zeroF 80 f) (upd (upd kp 0 0) 1 0) (fillF m9 mt 4)) ?_ (N8_m (z' := (upd (upd (mz z T) 3 (nI L.length)) 19 0)))
      refine q_aload_n dX9_town_367 rfl rfl ?_
      refine q_iconst (v := 0) dX9_town_368 rfl ?_
      refine q_put dX9_town_369 pX9_town_64 (N8m d) rfl rfl (Nat.le_of_ble_eq_true rfl) ?_
      refine V.hp (h' := N8 Γ m r tc h (upd (upd (upd (mz z T) 3 (nI L.length)) 19 0) 2 0) w' x' y' o' (zeroF 80 f) (upd (upd kp 0 0) 1 0) (fillF m9 mt 4)) ?_ (N8_m (z' := (upd (upd (upd (mz z T) 3 (nI L.length)) 19 0) 2 0)))
      refine q_iload_n dX9_town_372 rfl rfl ?_
      exact q_iret dX9_town_373 rfl (Nat.zero_le _) (Nat.zero_le _) (by rw [hRL]; exact ⟨rfl, hL, rfl, T, w', x', y', o', hin, rfl⟩)
    | succ c ih =>
      intro i v2 ls h' hi hv2 hh hls
      subst hv2 hh
      refine V.at ?_ hls
      refine q_iload_n dX9_town_343 rfl rfl ?_
      refine q_iconst (v := 4) dX9_town_344 rfl ?_
      refine q_icmp_ge 362 dX9_town_345 (by decide) (fun z => absurd z (lt_c 4 rfl (by omega) (by omega))) (fun _ => ?_)
      refine q_aload_n dX9_town_348 rfl rfl ?_
      refine q_get dX9_town_349 fX9_town_42 (N8m d) rfl ?_
      refine q_iload_n dX9_town_352 rfl rfl ?_
      refine q_bipush (v := (-9)) dX9_town_353 rfl ?_
      refine q_iast dX9_town_355 (N8t d) (in_nI (show i < 4 by omega) (by omega)) ?_
      refine q_iinc1 dX9_town_356 rfl (by decide) ?_
      refine q_goto 343 dX9_town_359 (by decide) ?_
      exact ih (i + 1) _ _ _ (by omega) (nI_s i) (by rw [N8_t d, nI_clamp (by omega)]; congr 1; exact fillF_s m9 mt i) ⟨rfl, rfl, rfl, trivial⟩
  have zer : ∀ (L : List iT) (zz w' x' y' o' : Nat → Int32), R = .inr L → L.length ≤ 8 → in4 L w' x' y' o' → (∃ T : St, zz = upd (mz z T) 3 (nI L.length)) → ∀ (c i : Nat) (v2 : Int32) (ls : List (Nat × Value)) (h' : aH), i + c = 80 → v2 = nI i → h' = N8 Γ m r tc h zz w' x' y' o' (zeroF i f) kp mt → lin ls [(0, .ref m), (1, .int (nI L.length)), (2, .int v2)] → V Γ l mX9_town rX9_town (Zm Γ rX9_town (qTwM Γ m r tc len as h z w x y o f kp mt R)) 0 0 308 ls [] as h' := by
    intro L zz w' x' y' o' hRL hL hin hzz c
    induction c with
    | zero =>
      intro i v2 ls h' hi hv2 hh hls
      have hi4 : i = 80 := by omega
      subst hi4 hv2 hh
      refine V.at ?_ hls
      refine q_iload_n dX9_town_308 rfl rfl ?_
      refine q_bipush (v := 80) dX9_town_309 rfl ?_
      refine q_icmp_ge 327 dX9_town_311 (by decide) (fun _ => ?_) (fun z => absurd (ge_c 80 rfl (by omega) (by omega)) z)
      refine q_aload_n dX9_town_327 rfl rfl ?_
      refine q_get dX9_town_328 fX9_town_35 (N8m d) rfl ?_
      refine q_iconst (v := 0) dX9_town_331 rfl ?_
      refine q_iconst (v := 0) dX9_town_332 rfl ?_
      refine q_zast dX9_town_333 (N8k d) (in_nI (k := 0) (by omega) (by omega)) ?_
      refine V.hp (h' := N8 Γ m r tc h zz w' x' y' o' (zeroF 80 f) (upd kp 0 0) mt) ?_ (N8_k d)
      refine q_aload_n dX9_town_334 rfl rfl ?_
      refine q_get dX9_town_335 fX9_town_35 (N8m d) rfl ?_
      refine q_iconst (v := 1) dX9_town_338 rfl ?_
      refine q_iconst (v := 0) dX9_town_339 rfl ?_
      refine q_zast dX9_town_340 (N8k d) (in_nI (k := 1) (by omega) (by omega)) ?_
      refine V.hp (h' := N8 Γ m r tc h zz w' x' y' o' (zeroF 80 f) (upd (upd kp 0 0) 1 0) mt) ?_ (N8_k d)
      refine q_iconst (v := 0) dX9_town_341 rfl ?_
      refine q_istore_n dX9_town_342 rfl (by decide) ?_
      exact mets L zz w' x' y' o' hRL hL hin hzz 4 0 _ _ _ (by omega) rfl (by rw [fillF_0]) ⟨rfl, rfl, rfl, trivial⟩
    | succ c ih =>
      intro i v2 ls h' hi hv2 hh hls
      subst hv2 hh
      refine V.at ?_ hls
      refine q_iload_n dX9_town_308 rfl rfl ?_
      refine q_bipush (v := 80) dX9_town_309 rfl ?_
      refine q_icmp_ge 327 dX9_town_311 (by decide) (fun z => absurd z (lt_c 80 rfl (by omega) (by omega))) (fun _ => ?_)
      refine q_aload_n dX9_town_314 rfl rfl ?_
      refine q_get dX9_town_315 fX9_town_26 (N8m d) rfl ?_
      refine q_iload_n dX9_town_318 rfl rfl ?_
      refine q_iconst (v := 0) dX9_town_319 rfl ?_
      refine q_iast dX9_town_320 (N8f d) (in_nI (show i < 240 by omega) (by omega)) ?_
      refine q_iinc1 dX9_town_321 rfl (by decide) ?_
      refine q_goto 308 dX9_town_324 (by decide) ?_
      exact ih (i + 1) _ _ _ (by omega) (nI_s i) (by rw [N8_f d, nI_clamp (by omega), zeroF_s]) ⟨rfl, rfl, rfl, trivial⟩
  have cop : ∀ (L : List iT) (T : St) (w' x' y' o' : Nat → Int32), R = .inr L → L.length ≤ 8 → st4 L w' x' y' o' → ∀ (c i : Nat) (v2 : Int32) (ls : List (Nat × Value)) (h' : aH), i + c = L.length → v2 = nI i → h' = N8 Γ m r tc h (mz z T) (cpU w' i) (cpU x' i) (cpU y' i) (cpU o' i) f kp mt → lin ls [(0, .ref m), (1, .int (nI L.length)), (2, .int v2)] → V Γ l mX9_town rX9_town (Zm Γ rX9_town (qTwM Γ m r tc len as h z w x y o f kp mt R)) 0 0 230 ls [] as h' := by
    intro L T w' x' y' o' hRL hL hst c
    induction c with
    | zero =>
      intro i v2 ls h' hi hv2 hh hls
      have hi4 : i = L.length := by omega
      subst hi4 hv2 hh
      have hin : in4 L (cpU w' L.length) (cpU x' L.length) (cpU y' L.length) (cpU o' L.length) := by
        intro j hj
        have cu : ∀ g : Nat → Int32, cpU g L.length j = g (8 + j) := fun g => if_pos hj
        rw [cu, cu, cu, cu]
        exact ⟨hst.1 j hj, hst.2.1 j hj, hst.2.2.1 j hj, hst.2.2.2 j hj⟩
      refine V.at ?_ hls
      refine q_iload_n dX9_town_230 rfl rfl ?_
      refine q_iload_n dX9_town_231 rfl rfl ?_
      refine q_icmp_ge 301 dX9_town_232 (by decide) (fun _ => ?_) (fun z => absurd (nI_le (Nat.le_refl _) (by omega)) z)
      refine q_aload_n dX9_town_301 rfl rfl ?_
      refine q_iload_n dX9_town_302 rfl rfl ?_
      refine q_put dX9_town_303 pX9_town_111 (N8m d) rfl rfl (Nat.le_of_ble_eq_true rfl) ?_
      refine V.hp (h' := N8 Γ m r tc h (upd (mz z T) 3 (nI L.length)) (cpU w' L.length) (cpU x' L.length) (cpU y' L.length) (cpU o' L.length) f kp mt) ?_ (N8_m (z' := (upd (mz z T) 3 (nI L.length))))
      refine q_iconst (v := 0) dX9_town_306 rfl ?_
      refine q_istore_n dX9_town_307 rfl (by decide) ?_
      exact zer L _ _ _ _ _ hRL hL hin ⟨T, rfl⟩ 80 0 _ _ _ (by omega) rfl rfl ⟨rfl, rfl, rfl, trivial⟩
    | succ c ih =>
      intro i v2 ls h' hi hv2 hh hls
      subst hv2 hh
      have e8 : (8 : Int32) + nI i = nI (8 + i) := nI_add 8 i
      refine V.at ?_ hls
      refine q_iload_n dX9_town_230 rfl rfl ?_
      refine q_iload_n dX9_town_231 rfl rfl ?_
      refine q_icmp_ge 301 dX9_town_232 (by decide) (fun z => absurd z (nI_ge (by omega) (by omega))) (fun _ => ?_)
      refine q_aload_n dX9_town_235 rfl rfl ?_
      refine q_get dX9_town_236 fX9_town_13 (N8m d) rfl ?_
      refine q_iload_n dX9_town_239 rfl rfl ?_
      refine q_aload_n dX9_town_240 rfl rfl ?_
      refine q_get dX9_town_241 fX9_town_13 (N8m d) rfl ?_
      refine q_bipush (v := 8) dX9_town_244 rfl ?_
      refine q_iload_n dX9_town_246 rfl rfl ?_
      refine q_iadd dX9_town_247 ?_
      rw [e8]
      refine q_iald dX9_town_248 (N8w d) (in_nI (show 8 + i < 16 by omega) (by omega)) ?_
      rw [nI_clamp (by omega)]
      refine q_iast dX9_town_249 (N8w d) (in_nI (show i < 16 by omega) (by omega)) ?_
      rw [nI_clamp (by omega)]
      refine V.hp (h' := N8 Γ m r tc h (mz z T) (cpU w' (i + 1)) (cpU x' i) (cpU y' i) (cpU o' i) f kp mt) ?_ (by rw [N8_w d, cpU_s])
      refine q_aload_n dX9_town_250 rfl rfl ?_
      refine q_get dX9_town_251 fX9_town_17 (N8m d) rfl ?_
      refine q_iload_n dX9_town_254 rfl rfl ?_
      refine q_aload_n dX9_town_255 rfl rfl ?_
      refine q_get dX9_town_256 fX9_town_17 (N8m d) rfl ?_
      refine q_bipush (v := 8) dX9_town_259 rfl ?_
      refine q_iload_n dX9_town_261 rfl rfl ?_
      refine q_iadd dX9_town_262 ?_
      rw [e8]
      refine q_iald dX9_town_263 (N8x d) (in_nI (show 8 + i < 16 by omega) (by omega)) ?_
      rw [nI_clamp (by omega)]
      refine q_iast dX9_town_264 (N8x d) (in_nI (show i < 16 by omega) (by omega)) ?_
      rw [nI_clamp (by omega)]
      refine V.hp (h' := N8 Γ m r tc h (mz z T) (cpU w' (i + 1)) (cpU x' (i + 1)) (cpU y' i) (cpU o' i) f kp mt) ?_ (by rw [N8_x d, cpU_s])
      refine q_aload_n dX9_town_265 rfl rfl ?_
      refine q_get dX9_town_266 fX9_town_20 (N8m d) rfl ?_
      refine q_iload_n dX9_town_269 rfl rfl ?_
      refine q_aload_n dX9_town_270 rfl rfl ?_
      refine q_get dX9_town_271 fX9_town_20 (N8m d) rfl ?_
      refine q_bipush (v := 8) dX9_town_274 rfl ?_
      refine q_iload_n dX9_town_276 rfl rfl ?_
      refine q_iadd dX9_town_277 ?_
      rw [e8]
      refine q_iald dX9_town_278 (N8y d) (in_nI (show 8 + i < 16 by omega) (by omega)) ?_
      rw [nI_clamp (by omega)]
      refine q_iast dX9_town_279 (N8y d) (in_nI (show i < 16 by omega) (by omega)) ?_
      rw [nI_clamp (by omega)]
      refine V.hp (h' := N8 Γ m r tc h (mz z T) (cpU w' (i + 1)) (cpU x' (i + 1)) (cpU y' (i + 1)) (cpU o' i) f kp mt) ?_ (by rw [N8_y d, cpU_s])
      refine q_aload_n dX9_town_280 rfl rfl ?_
      refine q_get dX9_town_281 fX9_town_23 (N8m d) rfl ?_
      refine q_iload_n dX9_town_284 rfl rfl ?_
      refine q_aload_n dX9_town_285 rfl rfl ?_
      refine q_get dX9_town_286 fX9_town_23 (N8m d) rfl ?_
      refine q_bipush (v := 8) dX9_town_289 rfl ?_
      refine q_iload_n dX9_town_291 rfl rfl ?_
      refine q_iadd dX9_town_292 ?_
      rw [e8]
      refine q_iald dX9_town_293 (N8o d) (in_nI (show 8 + i < 16 by omega) (by omega)) ?_
      rw [nI_clamp (by omega)]
      refine q_iast dX9_town_294 (N8o d) (in_nI (show i < 16 by omega) (by omega)) ?_
      rw [nI_clamp (by omega)]
      refine V.hp (h' := N8 Γ m r tc h (mz z T) (cpU w' (i + 1)) (cpU x' (i + 1)) (cpU y' (i + 1)) (cpU o' (i + 1)) f kp mt) ?_ (by rw [N8_o d, cpU_s])
      refine q_iinc1 dX9_town_295 rfl (by decide) ?_
      refine q_goto 230 dX9_town_298 (by decide) ?_
      exact ih (i + 1) _ _ _ (by omega) (nI_s i) rfl ⟨rfl, rfl, rfl, trivial⟩
  refine Con.of (by decide +kernel) rfl rfl (Nat.le_of_ble_eq_true rfl) ?_
  refine q_aload_n dX9_town_0 rfl rfl ?_
  refine q_iconst (v := 0) dX9_town_1 rfl ?_
  refine q_put dX9_town_2 pX9_town_70 (N8m d) rfl rfl (Nat.le_of_ble_eq_true rfl) ?_
  refine V.hp (h' := N8 Γ m r tc h (upd z 8 0) w x y o f kp mt) ?_ (N8_m (z' := (upd z 8 0)))
  refine q_aload_n dX9_town_5 rfl rfl ?_
  refine q_bipush (v := (-9)) dX9_town_6 rfl ?_
  refine q_put dX9_town_8 pX9_town_101 (N8m d) rfl rfl (Nat.le_of_ble_eq_true rfl) ?_
  refine V.hp (h' := N8 Γ m r tc h (upd (upd z 8 0) 12 (-9)) w x y o f kp mt) ?_ (N8_m (z' := (upd (upd z 8 0) 12 (-9))))
  refine q_iconst (v := 0) dX9_town_11 rfl ?_
  refine q_istore_n dX9_town_12 rfl (by decide) ?_
  refine q_aload_n dX9_town_13 rfl rfl ?_
  refine q_callVd dX9_town_14 wX9_town_104 (n_next (t := t) (a := 0) (Nat.zero_le _) hl (N8m d) h2 rfl (N8b d hb) ht) (N8m d) ⟨_, _, rfl⟩ rfl rfl (Nat.le_of_ble_eq_true rfl) ⟨⟨Nat.le_of_ble_eq_true rfl, Nat.le_of_ble_eq_true rfl⟩, Nat.le_of_ble_eq_true rfl, Nat.le_of_ble_eq_true rfl⟩ ?_
  refine V.hp (h' := N8 Γ m r tc h (mz z (nxF t len 0, none)) w x y o f kp mt) ?_ (N8_m (z' := (mz z (nxF t len 0, none))))
  refine twLoop (R := R) (w0 := w) (x0 := x) (y0 := y) (o0 := o) d hb ht hl h2 (fun g S9 w' x' y' o' ls hRg hg hlo hls => ?_) (fun L S9 w' x' y' o' ls hRL hL hst hls => ?_) 8 [] (advF t len 0 v) (nxF t len 0) w x y o _ rfl nx_adv (advF_le (Nat.zero_le _) hv) (nxF_ok (Nat.zero_le _)) ⟨fun j hj => absurd hj (Nat.not_lt_zero j), fun j hj => absurd hj (Nat.not_lt_zero j), fun j hj => absurd hj (Nat.not_lt_zero j), fun j hj => absurd hj (Nat.not_lt_zero j)⟩ ⟨fun _ _ => rfl, fun _ _ => rfl, fun _ _ => rfl, fun _ _ => rfl⟩ (by rw [hR]; cases R with | inl g => rfl | inr L => rfl) ⟨rfl, rfl, trivial⟩
  · refine V.at ?_ hls
    refine q_aload_n dX9_town_211 rfl rfl ?_
    refine q_get dX9_town_212 fX9_town_101 (N8m d) rfl ?_
    refine q_bipush (v := -9) dX9_town_215 rfl ?_
    refine q_icmp_eq 228 dX9_town_217 (by decide) (fun q => absurd q (ft_ne (f := g) (by omega))) (fun _ => ?_)
    refine q_bipush (v := -10) dX9_town_220 rfl ?_
    refine q_aload_n dX9_town_222 rfl rfl ?_
    refine q_get dX9_town_223 fX9_town_101 (N8m d) rfl ?_
    refine q_isub dX9_town_226 ?_
    exact q_iret dX9_town_227 rfl (Nat.zero_le _) (Nat.zero_le _) (by rw [hRg]; exact ⟨rfl, hg, rfl, (S9, some g), w', x', y', o', hlo, rfl⟩)
  · refine V.at ?_ hls
    refine q_aload_n dX9_town_211 rfl rfl ?_
    refine q_get dX9_town_212 fX9_town_101 (N8m d) rfl ?_
    refine q_bipush (v := -9) dX9_town_215 rfl ?_
    refine q_icmp_eq 228 dX9_town_217 (by decide) (fun _ => ?_) (fun q => absurd rfl q)
    refine q_iconst (v := 0) dX9_town_228 rfl ?_
    refine q_istore_n dX9_town_229 rfl (by decide) ?_
    exact cop L (S9, none) w' x' y' o' hRL hL hst L.length 0 _ _ _ (by omega) rfl rfl ⟨rfl, rfl, rfl, trivial⟩
end

