/-! TEXT (X5): readInto -/
theorem V.post {Γ : gT} {l : Launch} {μ : mT} {R : Room} {Q Q' : qT} {kc ks pc : Nat} {ls : List (Nat × Value)} {st : List Value} {as : List Nat} {h : aH} (k : V Γ l μ R (Zm Γ R Q) kc ks pc ls st as h) (hq : ∀ r as' h', Q r as' h' → Q' r as' h') : V Γ l μ R (Zm Γ R Q') kc ks pc ls st as h := by
  intro p e s m args below meth c H locs lsA C ho hP hS hl T hT X
  obtain ⟨t, a1, o, b1, b2, ⟨⟨r, as', h', e1, e2, e3⟩, b3⟩, b4⟩ := k p e s m args below meth c H locs lsA C ho hP hS hl T hT X
  exact ⟨t, a1, o, b1, b2, ⟨⟨r, as', h', e1, hq _ _ _ e2, e3⟩, b3⟩, b4⟩
theorem Con.post {Γ : gT} {l : Launch} {μ : mT} {R : Room} {Q Q' : qT} {av : List Value} {as : List Nat} {h : aH} (k : Con Γ l μ R av as h Q) (hq : ∀ r as' h', Q r as' h' → Q' r as' h') : Con Γ l μ R av as h Q' := by
  intro p e a1 a2 a3 s m args below a4 a5 a6 a7
  obtain ⟨k1, o, b1, b2, b3, ⟨⟨r, as', h', e1, e2, e3⟩, b4⟩, b5⟩ := k p e a1 a2 a3 s m args below a4 a5 a6 a7
  exact ⟨k1, o, b1, b2, b3, ⟨⟨r, as', h', e1, hq _ _ _ e2, e3⟩, b4⟩, b5⟩
abbrev iT : Type := Nat × Nat × Nat × Nat
/-- the town from a token on: the place of its fault, or its items -/
def twnL (t : Nat → Nat) (len : Nat) : Nat → sT → Nat ⊕ List iT
  | 0, S => if S.2.2.1 = 0 then .inr [] else .inl S.2.1
  | d + 1, S => if S.2.2.1 = 0 then .inr [] else match itm t len S with
    | .inl f => .inl f
    | .inr (i0, i1, i2, i3, S') => match twnL t len d S' with
      | .inl f => .inl f
      | .inr L => .inr ((i0, i1, i2, i3) :: L)
def putA (g : iT → Nat) : (Nat → Int32) → Nat → List iT → Nat → Int32
  | w, _, [] => w
  | w, p, i :: L => putA g (upd w p (nI (g i))) (p + 1) L
def qTwn (Γ : gT) (q tw aw ax ay ao b len : Nat) (as : List Nat) (h : aH) (p : Nat) (w x y o : Nat → Int32) (R : Nat ⊕ List iT) : qT := fun r as' h' => as' = as ∧ match R with
  | .inl f => f ≤ len ∧ r = some (.int (nI f)) ∧ ∃ (S' : sT) (n' : Nat) (w' x' y' o' : Nat → Int32), sOK len S' ∧ h' = H6 Γ q tw aw ax ay ao h (tqS b len S') n' w' x' y' o'
  | .inr L => r = some (.int (-1)) ∧ ∃ S' : sT, sOK len S' ∧ h' = H6 Γ q tw aw ax ay ao h (tqS b len S') (p + L.length) (putA (fun i => i.1) w p L) (putA (fun i => i.2.1) x p L) (putA (fun i => i.2.2.1) y p L) (putA (fun i => i.2.2.2) o p L)
theorem itm2_le {t : Nat → Nat} {len w x f : Nat} {S : sT} (hS : sOK len S) (h : itm2 t len w x S = .inl f) : f ≤ len := by
  have hS1 := adv1_ok (t := t) hS
  have hS2 := adv1_ok (t := t) hS1
  unfold itm2 at h
  split at h
  · split at h
    · split at h
      · cases h
      · cases h; exact hS2.2.1
    · cases h; exact hS1.2.1
  · cases h; exact hS.2.1
theorem itm_le {t : Nat → Nat} {len f : Nat} {S : sT} (hS : sOK len S) (h : itm t len S = .inl f) : f ≤ len := by
  have hS1 := adv1_ok (t := t) hS
  have hS2 := adv1_ok (t := t) hS1
  unfold itm at h
  split at h
  · split at h
    · split at h
      · exact itm2_le hS2 h
      · cases h; exact hS1.2.1
    · exact itm2_le hS1 h
  · cases h; exact hS.2.1
section
variable {Γ : gT} {l : Launch} {as : List Nat} {h : aH} {q tw aw ax ay ao b len n : Nat} {bx w x y o : Nat → Int32} {t : Nat → Nat}
theorem town_loop (d7 : D7 as q tw aw ax ay ao b) (hb : h b = aI Γ 300 bx) (ht : ∀ j, j < len → bx j = nI (t j) ∧ t j < 256) (hl : len ≤ 300) : ∀ (d p : Nat) (S : sT) (w x y o : Nat → Int32) (z : Int32) (ls : List (Nat × Value)), p + d = 8 → sOK len S → z = nI p → lin ls [(0, .ref q), (1, .ref tw), (2, .int z)] → V Γ l mX5_readInto rX5_readInto (Zm Γ rX5_readInto (qTwn Γ q tw aw ax ay ao b len as h p w x y o (twnL t len d S))) 0 0 16 ls [] as (H6 Γ q tw aw ax ay ao h (tqS b len S) p w x y o) := by
  intro d
  induction d with
  | zero =>
    intro p S w x y o z ls hp hS hz hll
    subst hz
    refine V.at ?_ hll
    unfold twnL
    refine q_iload_n dX5_readInto_16 rfl rfl ?_
    refine q_sipush (v := 300) dX5_readInto_17 rfl ?_
    refine q_icmp_gt 72 dX5_readInto_20 (by decide) (fun z => absurd z (nI_nlt (a := 300) (by omega) (by omega))) (fun _ => ?_)
    refine q_aload_n dX5_readInto_23 rfl rfl ?_
    refine q_get dX5_readInto_24 fX5_readInto_34 (at_q d7) rfl ?_
    refine q_if_eq 72 dX5_readInto_27 (by decide) (fun cK => ?_) (fun cK => ?_)
    · rw [if_pos ((nI_eq (b := 0) (Nat.lt_of_le_of_lt hS.2.2.1 (by omega)) (by omega)).mp cK)]
      refine q_iconst (v := (-1)) dX5_readInto_72 rfl ?_
      exact q_iret dX5_readInto_73 rfl (Nat.zero_le _) (Nat.zero_le _) (⟨rfl, rfl, S, hS, rfl⟩)
    · rw [if_neg (fun w => cK (by rw [w]; rfl))]
      refine q_aload_n dX5_readInto_30 rfl rfl ?_
      refine q_get dX5_readInto_31 fX5_readInto_26 (at_t d7) rfl ?_
      refine q_bipush (v := 8) dX5_readInto_34 rfl ?_
      refine q_icmp_ge 51 dX5_readInto_36 (by decide) (fun _ => ?_) (fun z => absurd (nI_le (a := 8) (by omega) (by omega)) z)
      refine q_aload_n dX5_readInto_51 rfl rfl ?_
      refine q_get dX5_readInto_52 fX5_readInto_41 (at_q d7) rfl ?_
      exact q_iret dX5_readInto_55 rfl (Nat.zero_le _) (Nat.zero_le _) (⟨rfl, hS.2.1, rfl, _, _, _, _, _, _, hS, rfl⟩)
  | succ d ih =>
    intro p S w x y o z ls hp hS hz hll
    subst hz
    refine V.at ?_ hll
    unfold twnL
    refine q_iload_n dX5_readInto_16 rfl rfl ?_
    refine q_sipush (v := 300) dX5_readInto_17 rfl ?_
    refine q_icmp_gt 72 dX5_readInto_20 (by decide) (fun z => absurd z (nI_nlt (a := 300) (by omega) (by omega))) (fun _ => ?_)
    refine q_aload_n dX5_readInto_23 rfl rfl ?_
    refine q_get dX5_readInto_24 fX5_readInto_34 (at_q d7) rfl ?_
    refine q_if_eq 72 dX5_readInto_27 (by decide) (fun cK => ?_) (fun cK => ?_)
    · rw [if_pos ((nI_eq (b := 0) (Nat.lt_of_le_of_lt hS.2.2.1 (by omega)) (by omega)).mp cK)]
      refine q_iconst (v := (-1)) dX5_readInto_72 rfl ?_
      exact q_iret dX5_readInto_73 rfl (Nat.zero_le _) (Nat.zero_le _) (⟨rfl, rfl, S, hS, rfl⟩)
    · rw [if_neg (fun w => cK (by rw [w]; rfl))]
      refine q_aload_n dX5_readInto_30 rfl rfl ?_
      refine q_get dX5_readInto_31 fX5_readInto_26 (at_t d7) rfl ?_
      refine q_bipush (v := 8) dX5_readInto_34 rfl ?_
      refine q_icmp_ge 51 dX5_readInto_36 (by decide) (fun z => absurd z (nI_ge (b := 8) (by omega) (by omega))) (fun _ => ?_)
      refine q_aload_n dX5_readInto_39 rfl rfl ?_
      refine q_aload_n dX5_readInto_40 rfl rfl ?_
      refine q_aload_n dX5_readInto_41 rfl rfl ?_
      refine q_get dX5_readInto_42 fX5_readInto_26 (at_t d7) rfl ?_
      refine q_callV dX5_readInto_45 wX5_readInto_37 (at_q d7) ⟨_, _, rfl⟩ (c_readItem (t := t) d7 hb ht hl hS (show p < 8 by omega)) rfl rfl (Nat.le_of_ble_eq_true rfl) ⟨⟨Nat.le_of_ble_eq_true rfl, Nat.le_of_ble_eq_true rfl⟩, Nat.le_of_ble_eq_true rfl, Nat.le_of_ble_eq_true rfl⟩ (fun r as' h' hq => ?_)
      obtain ⟨rfl, hq⟩ := hq
      cases hI : itm t len S with
      | inl f =>
        rw [hI] at hq
        obtain ⟨rfl, S', w', x', y', o', hf, hS', rfl⟩ := hq
        refine q_if_ne 56 dX5_readInto_48 (by decide) (fun z => absurd rfl z) (fun _ => ?_)
        refine q_aload_n dX5_readInto_51 rfl rfl ?_
        refine q_get dX5_readInto_52 fX5_readInto_41 (at_q d7) rfl ?_
        exact q_iret dX5_readInto_55 rfl (Nat.zero_le _) (Nat.zero_le _) ⟨rfl, itm_le hS hI, by rw [hf], _, _, _, _, _, _, hS', rfl⟩
      | inr I =>
        obtain ⟨i0, i1, i2, i3, S'⟩ := I
        rw [hI] at hq
        obtain ⟨rfl, hS', rfl⟩ := hq
        refine q_if_ne 56 dX5_readInto_48 (by decide) (fun _ => ?_) (fun z => absurd z (by decide))
        refine q_aload_n dX5_readInto_56 rfl rfl ?_
        refine q_dup dX5_readInto_57 rfl ?_
        refine q_get dX5_readInto_58 fX5_readInto_26 (at_t d7) rfl ?_
        refine q_iconst (v := 1) dX5_readInto_61 rfl ?_
        refine q_iadd dX5_readInto_62 ?_
        rw [nI_s]
        refine q_put dX5_readInto_63 pX5_readInto_26 (at_t d7) rfl rfl (Nat.le_of_ble_eq_true rfl) ?_
        refine V.hp ?_ (H6_n d7 (n' := p + 1))
        refine q_iinc1 dX5_readInto_66 rfl (by decide) ?_
        refine q_goto 16 dX5_readInto_69 (by decide) ?_
        refine V.post (ih (p + 1) S' _ _ _ _ _ _ (by omega) hS' (nI_s p) ⟨rfl, rfl, rfl, trivial⟩) ?_
        intro r as' h' hq
        obtain ⟨e1, hq⟩ := hq
        refine ⟨e1, ?_⟩
        dsimp only
        cases hT : twnL t len d S' with
        | inl f => rw [hT] at hq; exact hq
        | inr L =>
          rw [hT] at hq
          obtain ⟨e2, S2, e3, e4⟩ := hq
          refine ⟨e2, S2, e3, ?_⟩
          rw [e4, show p + 1 + L.length = p + ((i0, i1, i2, i3) :: L).length by rw [List.length_cons]; omega]
          rfl
theorem c_readInto {s k v : Nat} (d7 : D7 as q tw aw ax ay ao b) (hb : h b = aI Γ 300 bx) (ht : ∀ j, j < len → bx j = nI (t j) ∧ t j < 256) (hl : len ≤ 300) (hv : v ≤ 100) {a : Nat} : Con Γ l mX5_readInto rX5_readInto [.ref q, .ref tw] as (H6 Γ q tw aw ax ay ao h (tq b len a s k v) n w x y o) (qTwn Γ q tw aw ax ay ao b len as h 0 w x y o (twnL t len 8 (advF t len 0 v))) := by
  have hS := advF_le (t := t) (len := len) (a := 0) (v := v) (by omega) hv
  have := c_advance (Γ := Γ) (l := l) (t := t) (at_q (Γ := Γ) (h := h) (T := tq b len 0 s k v) (n := 0) (w := w) (x := x) (y := y) (o := o) d7) (at_b d7 hb) ht hl (by omega)
  rw [H6_q] at this
  refine Con.of (by decide +kernel) rfl rfl (Nat.le_of_ble_eq_true rfl) ?_
  refine q_aload_n dX5_readInto_0 rfl rfl ?_
  refine q_iconst (v := 0) dX5_readInto_1 rfl ?_
  refine q_put dX5_readInto_2 pX5_readInto_23 (at_q d7) rfl rfl (Nat.le_of_ble_eq_true rfl) ?_
  refine V.hp ?_ H6_q
  refine q_aload_n dX5_readInto_5 rfl rfl ?_
  refine q_iconst (v := 0) dX5_readInto_6 rfl ?_
  refine q_put dX5_readInto_7 pX5_readInto_26 (at_t d7) rfl rfl (Nat.le_of_ble_eq_true rfl) ?_
  refine V.hp ?_ (H6_n d7 (n' := 0))
  refine q_aload_n dX5_readInto_10 rfl rfl ?_
  refine q_callVd dX5_readInto_11 wX5_readInto_31 (this) (at_q d7) ⟨_, _, rfl⟩ rfl rfl (Nat.le_of_ble_eq_true rfl) ⟨⟨Nat.le_of_ble_eq_true rfl, Nat.le_of_ble_eq_true rfl⟩, Nat.le_of_ble_eq_true rfl, Nat.le_of_ble_eq_true rfl⟩ ?_
  refine q_iconst (v := 0) dX5_readInto_14 rfl ?_
  refine q_istore_n dX5_readInto_15 rfl (by decide) ?_
  exact town_loop d7 hb ht hl 8 0 _ _ _ _ _ _ _ (by omega) hS rfl ⟨rfl, rfl, rfl, trivial⟩
end

