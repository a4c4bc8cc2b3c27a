/-! THE REFERENCE (X9): due, town -/
def mz (z : Nat → Int32) (S : St) : Nat → Int32 := upd (zN z S.1) 12 (ftI S.2)
section
variable {Γ : gT} {l : Launch} {as : List Nat} {h : aH} {m : Nat} {tc : Int64} {r : Nat → Nat} {z : Nat → Int32} {t : Nat → Nat} {len a s e : Nat} {bm : Nat → Int32}
theorem ft_ne {f : Nat} (hf : f ≤ 300) : ¬ nI f = -9 := nI_m9 (by omega)
theorem n_due {S : St} {b : Bool} (hS : okS len S) (hl : len ≤ 300) (hM : hat as h m (mo tc r (mz z S))) (h2 : z 2 = nI len) (hb : hat as h (r 1) (aB Γ 300 bm)) (ht : ∀ j, j < len → bm j = byt (t j) ∧ t j < 256) : Det Γ l mX9_due rX9_due [.ref m, .int (bI b)] as h (some (.int (nI S.1.2.2.2))) (hset h m (mo tc r (mz z (dueM t len S b)))) := by
  obtain ⟨S0, ft⟩ := S
  cases ft with
  | some f =>
    have hf : f ≤ len := hS.2.2.2.2 f rfl
    refine Con.of (by decide +kernel) rfl rfl (Nat.le_of_ble_eq_true rfl) ?_
    refine q_aload_n dX9_due_0 rfl rfl ?_
    refine q_get dX9_due_1 fX9_due_83 (hM) rfl ?_
    refine q_istore_n dX9_due_4 rfl (by decide) ?_
    refine q_aload_n dX9_due_5 rfl rfl ?_
    refine q_get dX9_due_6 fX9_due_101 (hM) rfl ?_
    refine q_bipush (v := (-9)) dX9_due_9 rfl ?_
    refine q_icmp_ne 33 dX9_due_11 (by decide) (fun _ => ?_) (fun z => absurd z (ft_ne (f := f) (by omega)))
    refine q_iload_n dX9_due_33 rfl rfl ?_
    exact q_iret dX9_due_34 rfl (Nat.zero_le _) (Nat.zero_le _) (⟨rfl, rfl, (hset_same hM.2).symm⟩)
  | none =>
    cases b with
    | true =>
      refine Con.of (by decide +kernel) rfl rfl (Nat.le_of_ble_eq_true rfl) ?_
      refine q_aload_n dX9_due_0 rfl rfl ?_
      refine q_get dX9_due_1 fX9_due_83 (hM) rfl ?_
      refine q_istore_n dX9_due_4 rfl (by decide) ?_
      refine q_aload_n dX9_due_5 rfl rfl ?_
      refine q_get dX9_due_6 fX9_due_101 (hM) rfl ?_
      refine q_bipush (v := (-9)) dX9_due_9 rfl ?_
      refine q_icmp_ne 33 dX9_due_11 (by decide) (fun z => absurd (rfl) z) (fun _ => ?_)
      refine q_iload_n dX9_due_14 rfl rfl ?_
      refine q_if_eq 25 dX9_due_15 (by decide) (fun z => absurd z (by decide)) (fun _ => ?_)
      refine q_aload_n dX9_due_18 rfl rfl ?_
      refine q_callVd dX9_due_19 wX9_due_104 (n_next (t := t) (a := S0.1) hS.1 hl hM h2 rfl hb ht) (hM) ⟨_, _, rfl⟩ rfl rfl (Nat.le_of_ble_eq_true rfl) ⟨⟨Nat.le_of_ble_eq_true rfl, Nat.le_of_ble_eq_true rfl⟩, Nat.le_of_ble_eq_true rfl, Nat.le_of_ble_eq_true rfl⟩ ?_
      refine q_goto 33 dX9_due_22 (by decide) ?_
      refine q_iload_n dX9_due_33 rfl rfl ?_
      exact q_iret dX9_due_34 rfl (Nat.zero_le _) (Nat.zero_le _) (⟨rfl, rfl, rfl⟩)
    | false =>
      refine Con.of (by decide +kernel) rfl rfl (Nat.le_of_ble_eq_true rfl) ?_
      refine q_aload_n dX9_due_0 rfl rfl ?_
      refine q_get dX9_due_1 fX9_due_83 (hM) rfl ?_
      refine q_istore_n dX9_due_4 rfl (by decide) ?_
      refine q_aload_n dX9_due_5 rfl rfl ?_
      refine q_get dX9_due_6 fX9_due_101 (hM) rfl ?_
      refine q_bipush (v := (-9)) dX9_due_9 rfl ?_
      refine q_icmp_ne 33 dX9_due_11 (by decide) (fun z => absurd (rfl) z) (fun _ => ?_)
      refine q_iload_n dX9_due_14 rfl rfl ?_
      refine q_if_eq 25 dX9_due_15 (by decide) (fun _ => ?_) (fun z => absurd (by decide) z)
      refine q_aload_n dX9_due_25 rfl rfl ?_
      refine q_aload_n dX9_due_26 rfl rfl ?_
      refine q_get dX9_due_27 fX9_due_73 (hM) rfl ?_
      refine q_put dX9_due_30 pX9_due_101 (hM) rfl rfl (Nat.le_of_ble_eq_true rfl) ?_
      refine q_iload_n dX9_due_33 rfl rfl ?_
      exact q_iret dX9_due_34 rfl (Nat.zero_le _) (Nat.zero_le _) (⟨rfl, rfl, rfl⟩)
def A9 (m : Nat) (r : Nat → Nat) (i : Nat) : Nat := ([m, r 4, r 5, r 6, r 7, r 13, r 16, r 18, r 1] : List Nat).getD i 0
def D9 (as : List Nat) (m : Nat) (r : Nat → Nat) : Prop := (∀ i, i < 9 → A9 m r i ∈ as) ∧ ∀ i, i < 9 → ∀ j, j < 9 → i ≠ j → A9 m r i ≠ A9 m r j
def N8 (Γ : gT) (m : Nat) (r : Nat → Nat) (tc : Int64) (h : aH) (z w x y o f kp mt : Nat → Int32) : aH := fun j => if j = m then mo tc r z else if j = r 4 then aI Γ 16 w else if j = r 5 then aI Γ 16 x else if j = r 6 then aI Γ 16 y else if j = r 7 then aI Γ 16 o else if j = r 13 then aI Γ 240 f else if j = r 16 then aZ Γ 2 kp else if j = r 18 then aI Γ 4 mt else h j
variable {w x y o f kp mt : Nat → Int32}
theorem N8m (d : D9 as m r) : hat as (N8 Γ m r tc h z w x y o f kp mt) m (mo tc r z) := ⟨d.1 0 (by decide), if_pos rfl⟩
theorem N8w (d : D9 as m r) : hat as (N8 Γ m r tc h z w x y o f kp mt) (r 4) (aI Γ 16 w) := ⟨d.1 1 (by decide), by unfold N8; rw [if_neg (show r 4 ≠ m from d.2 1 (by decide) 0 (by decide) (by decide)), if_pos rfl]⟩
theorem N8x (d : D9 as m r) : hat as (N8 Γ m r tc h z w x y o f kp mt) (r 5) (aI Γ 16 x) := ⟨d.1 2 (by decide), by unfold N8; rw [if_neg (show r 5 ≠ m from d.2 2 (by decide) 0 (by decide) (by decide)), if_neg (show r 5 ≠ r 4 from d.2 2 (by decide) 1 (by decide) (by decide)), if_pos rfl]⟩
theorem N8y (d : D9 as m r) : hat as (N8 Γ m r tc h z w x y o f kp mt) (r 6) (aI Γ 16 y) := ⟨d.1 3 (by decide), by unfold N8; rw [if_neg (show r 6 ≠ m from d.2 3 (by decide) 0 (by decide) (by decide)), if_neg (show r 6 ≠ r 4 from d.2 3 (by decide) 1 (by decide) (by decide)), if_neg (show r 6 ≠ r 5 from d.2 3 (by decide) 2 (by decide) (by decide)), if_pos rfl]⟩
theorem N8o (d : D9 as m r) : hat as (N8 Γ m r tc h z w x y o f kp mt) (r 7) (aI Γ 16 o) := ⟨d.1 4 (by decide), by unfold N8; rw [if_neg (show r 7 ≠ m from d.2 4 (by decide) 0 (by decide) (by decide)), if_neg (show r 7 ≠ r 4 from d.2 4 (by decide) 1 (by decide) (by decide)), if_neg (show r 7 ≠ r 5 from d.2 4 (by decide) 2 (by decide) (by decide)), if_neg (show r 7 ≠ r 6 from d.2 4 (by decide) 3 (by decide) (by decide)), if_pos rfl]⟩
theorem N8f (d : D9 as m r) : hat as (N8 Γ m r tc h z w x y o f kp mt) (r 13) (aI Γ 240 f) := ⟨d.1 5 (by decide), by unfold N8; rw [if_neg (show r 13 ≠ m from d.2 5 (by decide) 0 (by decide) (by decide)), if_neg (show r 13 ≠ r 4 from d.2 5 (by decide) 1 (by decide) (by decide)), if_neg (show r 13 ≠ r 5 from d.2 5 (by decide) 2 (by decide) (by decide)), if_neg (show r 13 ≠ r 6 from d.2 5 (by decide) 3 (by decide) (by decide)), if_neg (show r 13 ≠ r 7 from d.2 5 (by decide) 4 (by decide) (by decide)), if_pos rfl]⟩
theorem N8k (d : D9 as m r) : hat as (N8 Γ m r tc h z w x y o f kp mt) (r 16) (aZ Γ 2 kp) := ⟨d.1 6 (by decide), by unfold N8; rw [if_neg (show r 16 ≠ m from d.2 6 (by decide) 0 (by decide) (by decide)), if_neg (show r 16 ≠ r 4 from d.2 6 (by decide) 1 (by decide) (by decide)), if_neg (show r 16 ≠ r 5 from d.2 6 (by decide) 2 (by decide) (by decide)), if_neg (show r 16 ≠ r 6 from d.2 6 (by decide) 3 (by decide) (by decide)), if_neg (show r 16 ≠ r 7 from d.2 6 (by decide) 4 (by decide) (by decide)), if_neg (show r 16 ≠ r 13 from d.2 6 (by decide) 5 (by decide) (by decide)), if_pos rfl]⟩
theorem N8t (d : D9 as m r) : hat as (N8 Γ m r tc h z w x y o f kp mt) (r 18) (aI Γ 4 mt) := ⟨d.1 7 (by decide), by unfold N8; rw [if_neg (show r 18 ≠ m from d.2 7 (by decide) 0 (by decide) (by decide)), if_neg (show r 18 ≠ r 4 from d.2 7 (by decide) 1 (by decide) (by decide)), if_neg (show r 18 ≠ r 5 from d.2 7 (by decide) 2 (by decide) (by decide)), if_neg (show r 18 ≠ r 6 from d.2 7 (by decide) 3 (by decide) (by decide)), if_neg (show r 18 ≠ r 7 from d.2 7 (by decide) 4 (by decide) (by decide)), if_neg (show r 18 ≠ r 13 from d.2 7 (by decide) 5 (by decide) (by decide)), if_neg (show r 18 ≠ r 16 from d.2 7 (by decide) 6 (by decide) (by decide)), if_pos rfl]⟩
theorem N8b (d : D9 as m r) (hb : h (r 1) = aB Γ 300 bm) : hat as (N8 Γ m r tc h z w x y o f kp mt) (r 1) (aB Γ 300 bm) := ⟨d.1 8 (by decide), by unfold N8; rw [if_neg (show r 1 ≠ m from d.2 8 (by decide) 0 (by decide) (by decide)), if_neg (show r 1 ≠ r 4 from d.2 8 (by decide) 1 (by decide) (by decide)), if_neg (show r 1 ≠ r 5 from d.2 8 (by decide) 2 (by decide) (by decide)), if_neg (show r 1 ≠ r 6 from d.2 8 (by decide) 3 (by decide) (by decide)), if_neg (show r 1 ≠ r 7 from d.2 8 (by decide) 4 (by decide) (by decide)), if_neg (show r 1 ≠ r 13 from d.2 8 (by decide) 5 (by decide) (by decide)), if_neg (show r 1 ≠ r 16 from d.2 8 (by decide) 6 (by decide) (by decide)), if_neg (show r 1 ≠ r 18 from d.2 8 (by decide) 7 (by decide) (by decide))]; exact hb⟩
theorem N8_m {z' : Nat → Int32} : hset (N8 Γ m r tc h z w x y o f kp mt) m (mo tc r z') = N8 Γ m r tc h z' w x y o f kp mt := by
  funext j
  by_cases hj : j = m
  · rw [hj, hset_eq]; exact (if_pos rfl).symm
  · rw [hset_ne hj]; simp only [N8, if_neg hj]
theorem N8_w (d : D9 as m r) {w' : Nat → Int32} : hset (N8 Γ m r tc h z w x y o f kp mt) (r 4) (aI Γ 16 w') = N8 Γ m r tc h z w' x y o f kp mt := by
  funext j
  by_cases hj : j = r 4
  · rw [hj, hset_eq]; exact (N8w d).2.symm
  · rw [hset_ne hj]; simp only [N8, if_neg hj]
theorem N8_x (d : D9 as m r) {w' : Nat → Int32} : hset (N8 Γ m r tc h z w x y o f kp mt) (r 5) (aI Γ 16 w') = N8 Γ m r tc h z w w' y o f kp mt := by
  funext j
  by_cases hj : j = r 5
  · rw [hj, hset_eq]; exact (N8x d).2.symm
  · rw [hset_ne hj]; simp only [N8, if_neg hj]
theorem N8_y (d : D9 as m r) {w' : Nat → Int32} : hset (N8 Γ m r tc h z w x y o f kp mt) (r 6) (aI Γ 16 w') = N8 Γ m r tc h z w x w' o f kp mt := by
  funext j
  by_cases hj : j = r 6
  · rw [hj, hset_eq]; exact (N8y d).2.symm
  · rw [hset_ne hj]; simp only [N8, if_neg hj]
theorem N8_o (d : D9 as m r) {w' : Nat → Int32} : hset (N8 Γ m r tc h z w x y o f kp mt) (r 7) (aI Γ 16 w') = N8 Γ m r tc h z w x y w' f kp mt := by
  funext j
  by_cases hj : j = r 7
  · rw [hj, hset_eq]; exact (N8o d).2.symm
  · rw [hset_ne hj]; simp only [N8, if_neg hj]
theorem N8_f (d : D9 as m r) {w' : Nat → Int32} : hset (N8 Γ m r tc h z w x y o f kp mt) (r 13) (aI Γ 240 w') = N8 Γ m r tc h z w x y o w' kp mt := by
  funext j
  by_cases hj : j = r 13
  · rw [hj, hset_eq]; exact (N8f d).2.symm
  · rw [hset_ne hj]; simp only [N8, if_neg hj]
theorem N8_k (d : D9 as m r) {w' : Nat → Int32} : hset (N8 Γ m r tc h z w x y o f kp mt) (r 16) (aZ Γ 2 w') = N8 Γ m r tc h z w x y o f w' mt := by
  funext j
  by_cases hj : j = r 16
  · rw [hj, hset_eq]; exact (N8k d).2.symm
  · rw [hset_ne hj]; simp only [N8, if_neg hj]
theorem N8_t (d : D9 as m r) {w' : Nat → Int32} : hset (N8 Γ m r tc h z w x y o f kp mt) (r 18) (aI Γ 4 w') = N8 Γ m r tc h z w x y o f kp w' := by
  funext j
  by_cases hj : j = r 18
  · rw [hj, hset_eq]; exact (N8t d).2.symm
  · rw [hset_ne hj]; simp only [N8, if_neg hj]
/-- where an item's numbers stand -/
def kx (p : Nat) : Nat := 8 + (if p < 8 then p else 0)
def stA (g : iT → Nat) (L : List iT) (w : Nat → Int32) : Prop := ∀ j, j < L.length → w (8 + j) = nI (g (L.getD j (0, 0, 0, 0)))
def lowA (w w' : Nat → Int32) : Prop := ∀ j, j < 8 → w' j = w j
theorem low_upd {w w' : Nat → Int32} {k : Nat} {v : Int32} (hk : 8 ≤ k) (h : lowA w w') : lowA w (upd w' k v) := fun j hj => by rw [pk_un (by omega)]; exact h j hj
theorem stA_s {g : iT → Nat} {L : List iT} {w : Nat → Int32} {i : iT} (h : stA g L w) : stA g (L ++ [i]) (upd w (8 + L.length) (nI (g i))) := by
  intro j hj
  rw [List.length_append] at hj
  by_cases e : j = L.length
  · subst e
    rw [pk_us]
    simp [List.getD]
  · have hj2 : j < L.length := by simp at hj; omega
    rw [pk_un (by omega), h j hj2]
    simp [List.getD, List.getElem?_append_left hj2]
def cpU (w : Nat → Int32) (k : Nat) : Nat → Int32 := fun j => if j < k then w (8 + j) else w j
theorem cpU_0 (w : Nat → Int32) : cpU w 0 = w := rfl
theorem cpU_s (w : Nat → Int32) (k : Nat) : upd (cpU w k) k (cpU w k (8 + k)) = cpU w (k + 1) := by
  funext j
  by_cases hj : j = k
  · subst hj
    rw [pk_us]
    show cpU w j (8 + j) = (if j < j + 1 then w (8 + j) else w j)
    rw [if_pos (by omega)]
    exact if_neg (by omega)
  · rw [pk_un hj]
    show (if j < k then w (8 + j) else w j) = (if j < k + 1 then w (8 + j) else w j)
    by_cases h1 : j < k
    · rw [if_pos h1, if_pos (by omega)]
    · rw [if_neg h1, if_neg (by omega)]
end

