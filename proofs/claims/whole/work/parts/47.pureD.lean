/-! PURE: the first day, seeds -/
theorem b_255 : ∀ i, i < 32 → bt 255 i = decide (i < 8) := by decide +kernel
theorem b_lo8 {x : Int32} (h : ∀ i, 8 ≤ i → i < 32 → bt x i = false) : ∃ S, S < 256 ∧ x = nI S := by
  obtain ⟨S, hS, e⟩ := pk_andE x (m := 255) 8 (by decide)
  refine ⟨S, hS, ?_⟩
  rw [← e]
  apply b_ext
  intro i hi
  rw [b_and, b_255 i hi]
  by_cases c : i < 8
  · rw [decide_eq_true c, Bool.and_true]
  · rw [h i (by omega) hi, Bool.false_and]
theorem b_hi8 : ∀ S, S < 256 → ∀ i, i < 32 → 8 ≤ i → bt (nI S) i = false := by
  intro S hS i hi h8
  have e : nI S &&& 255 = nI S := by
    rw [pk_andN (by omega) 8 (by decide)]
    exact congrArg nI (Nat.mod_eq_of_lt hS)
  rw [← e, b_and, b_255 i hi, decide_eq_false (by omega), Bool.and_false]
theorem bc_bs : ∀ S, S < 256 → bcI (nI S) = bsS (nI S) 8 := by decide +kernel
theorem b_sh : ∀ S, S < 256 → ∀ p, p < 8 → (((nI S >>> (nI p &&& 31)) &&& 1 = 0) ↔ bt (nI S) p = false) := by decide +kernel
theorem mo_bt {o : Nat → Int32} {S : Nat} (hS : S < 256) : ∀ m, m ≤ 8 → ∀ j, j < 32 → (bt (moS o (nI S) m) j = true ↔ j < m ∧ bt (nI S) j = false ∧ ¬ bsS (nI S) 8 < o j)
  | 0, _, j, _ => by
    rw [show moS o (nI S) 0 = 0 from rfl, b_0]
    exact ⟨fun h => (by cases h), fun ⟨h, _⟩ => absurd h (Nat.not_lt_zero j)⟩
  | m + 1, hm, j, hj => by
    have ih := mo_bt (o := o) hS m (by omega) j hj
    have hb := b_sh S hS m (by omega)
    unfold moS
    by_cases c : (nI S >>> (nI m &&& 31)) &&& 1 = 0 ∧ ¬ bsS (nI S) 8 < o m
    · rw [if_pos c, b_or, Bool.or_eq_true, ih, b_1s _ (by omega) _ hj, decide_eq_true_eq]
      constructor
      · rintro (⟨h1, h2⟩ | h)
        · exact ⟨by omega, h2⟩
        · subst h; exact ⟨by omega, hb.mp c.1, c.2⟩
      · rintro ⟨h1, h2⟩
        by_cases e : m = j
        · exact Or.inr e
        · exact Or.inl ⟨by omega, h2⟩
    · rw [if_neg c, ih]
      constructor
      · rintro ⟨h1, h2⟩; exact ⟨by omega, h2⟩
      · rintro ⟨h1, h2, h3⟩
        by_cases e : j = m
        · subst e; exact absurd ⟨hb.mpr h2, h3⟩ c
        · exact ⟨by omega, h2, h3⟩
theorem af_bt {o : Nat → Int32} {num t : Int32} : ∀ m, m ≤ 8 → ∀ j, j < 32 → (bt (afS o num t m) j = true ↔ bt t j = true ∨ (j < m ∧ ¬ num < o j))
  | 0, _, j, _ => ⟨fun h => Or.inl h, fun h => h.elim id (fun q => absurd q.1 (Nat.not_lt_zero j))⟩
  | m + 1, hm, j, hj => by
    have ih := af_bt (o := o) (num := num) (t := t) m (by omega) j hj
    unfold afS
    by_cases c : num < o m
    · rw [if_pos c, ih]
      constructor
      · rintro (h | ⟨h1, h2⟩)
        · exact Or.inl h
        · exact Or.inr ⟨by omega, h2⟩
      · rintro (h | ⟨h1, h2⟩)
        · exact Or.inl h
        · by_cases e : j = m
          · subst e; exact absurd c h2
          · exact Or.inr ⟨by omega, h2⟩
    · rw [if_neg c, b_or, Bool.or_eq_true, ih, b_1s _ (by omega) _ hj, decide_eq_true_eq]
      constructor
      · rintro ((h | ⟨h1, h2⟩) | h)
        · exact Or.inl h
        · exact Or.inr ⟨by omega, h2⟩
        · subst h; exact Or.inr ⟨by omega, c⟩
      · rintro (h | ⟨h1, h2⟩)
        · exact Or.inl (Or.inl h)
        · by_cases e : m = j
          · exact Or.inr e
          · exact Or.inl (Or.inr ⟨by omega, h2⟩)
theorem af_mo {o : Nat → Int32} {n S : Nat} (hn : n ≤ 8) (hS : S < 256) : afR o n (nI S) = nI S ||| moS o (nI S) n := by
  apply b_ext
  intro j hj
  unfold afR
  rw [Bool.eq_iff_iff, b_or, Bool.or_eq_true, af_bt n hn j hj, mo_bt hS n hn j hj, bc_bs S hS]
  constructor
  · rintro (h | ⟨h1, h2⟩)
    · exact Or.inl h
    · by_cases e : bt (nI S) j = true
      · exact Or.inl e
      · exact Or.inr ⟨h1, Bool.eq_false_iff.mpr e, h2⟩
  · rintro (h | ⟨h1, h2, h3⟩)
    · exact Or.inl h
    · exact Or.inr ⟨h1, h3⟩
theorem or_lo {o : Nat → Int32} {n S : Nat} (hn : n ≤ 8) (hS : S < 256) : ∃ S', S' < 256 ∧ nI S ||| moS o (nI S) n = nI S' := by
  refine b_lo8 (fun i h1 h2 => ?_)
  rw [b_or, b_hi8 S hS i h2 h1, Bool.false_or]
  apply Bool.eq_false_iff.mpr
  rw [ne_eq, mo_bt hS n hn i h2]
  rintro ⟨h, -⟩
  omega
theorem sp_lo {o : Nat → Int32} {n S : Nat} (hn : n ≤ 8) (hS : S < 256) : ∀ k, ∃ S', S' < 256 ∧ spI o n (nI S) k = nI S'
  | 0 => ⟨S, hS, rfl⟩
  | k + 1 => by
    obtain ⟨S', h', e⟩ := sp_lo (o := o) hn hS k
    show ∃ S'', S'' < 256 ∧ spI o n (nI S) k ||| moS o (spI o n (nI S) k) n = nI S''
    rw [e]
    exact or_lo hn h'
theorem tak_sp {o : Nat → Int32} {n S : Nat} (hn : n ≤ 8) (hS : S < 256) : ∀ k, takS o n (nI S) k = spI o n (nI S) k
  | 0 => rfl
  | k + 1 => by
    obtain ⟨S', h', e⟩ := sp_lo (o := o) hn hS k
    show afR o n (takS o n (nI S) k) = spI o n (nI S) k ||| moS o (spI o n (nI S) k) n
    rw [tak_sp hn hS k, e, af_mo hn h']
def cnB (s : Int32) : Nat := sN (fun i => if bt s i then 1 else 0) 8
theorem cnB_le (s : Int32) : cnB s ≤ 8 := sN_le (c := 1) 8 (fun i _ => by show (if bt s i then 1 else 0) ≤ 1; by_cases c : bt s i = true <;> simp [c])
theorem sN_lt {G H : Nat → Nat} : ∀ d, (∀ i, i < d → G i ≤ H i) → (∃ j, j < d ∧ G j < H j) → sN G d < sN H d
  | 0, _, ⟨j, h, _⟩ => absurd h (Nat.not_lt_zero j)
  | d + 1, h, ⟨j, hj, hl⟩ => by
    show sN G d + G d < sN H d + H d
    by_cases e : j = d
    · subst e
      have := sN_mono j (fun i hi => h i (by omega))
      omega
    · have h1 := sN_lt d (fun i hi => h i (by omega)) ⟨j, by omega, hl⟩
      have h2 := h d (by omega)
      omega
/-- a round in which somebody came: more than before -/
theorem mo_ne {o : Nat → Int32} {n S : Nat} (hn : n ≤ 8) (hS : S < 256) (h : ¬ moS o (nI S) n = 0) : ∃ j, j < n ∧ bt (nI S) j = false ∧ bt (moS o (nI S) n) j = true := by
  apply Classical.byContradiction
  intro hc
  apply h
  apply b_ext
  intro j hj
  rw [b_0]
  apply Bool.eq_false_iff.mpr
  intro e
  have q := (mo_bt hS n hn j hj).mp e
  exact hc ⟨j, q.1, q.2.1, e⟩
theorem cn_up {o : Nat → Int32} {n S : Nat} (hn : n ≤ 8) (hS : S < 256) (h : ¬ moS o (nI S) n = 0) : cnB (nI S) < cnB (nI S ||| moS o (nI S) n) := by
  obtain ⟨j, hj, h1, h2⟩ := mo_ne hn hS h
  refine sN_lt 8 (fun i hi => ?_) ⟨j, by omega, ?_⟩
  · show (if bt (nI S) i then 1 else 0) ≤ (if bt (nI S ||| moS o (nI S) n) i then 1 else 0)
    rw [b_or]
    by_cases c : bt (nI S) i = true
    · rw [c, Bool.true_or]; exact Nat.le_refl _
    · rw [if_neg c]; exact Nat.zero_le _
  · show (if bt (nI S) j then 1 else 0) < (if bt (nI S ||| moS o (nI S) n) j then 1 else 0)
    rw [b_or, h1, h2]
    decide
theorem sp_cn {o : Nat → Int32} {n S : Nat} (hn : n ≤ 8) (hS : S < 256) : ∀ k, (∀ j, j < k → ¬ moS o (spI o n (nI S) j) n = 0) → k ≤ cnB (spI o n (nI S) k)
  | 0, _ => Nat.zero_le _
  | k + 1, h => by
    have ih := sp_cn hn hS k (fun j hj => h j (by omega))
    obtain ⟨S', h', e⟩ := sp_lo (o := o) hn hS k
    have h0 := h k (by omega)
    show k + 1 ≤ cnB (spI o n (nI S) k ||| moS o (spI o n (nI S) k) n)
    rw [e] at ih h0 ⊢
    have := cn_up hn h' h0
    omega
theorem sp_end {o : Nat → Int32} {n S : Nat} (hn : n ≤ 8) (hS : S < 256) : ∃ d, d ≤ 8 ∧ moS o (spI o n (nI S) d) n = 0 ∧ ∀ k, k < d → ¬ moS o (spI o n (nI S) k) n = 0 := by
  have hex : ∃ k, moS o (spI o n (nI S) k) n = 0 := by
    apply Classical.byContradiction
    intro hc
    have h1 := sp_cn (o := o) hn hS 9 (fun j _ e => hc ⟨j, e⟩)
    have h2 := cnB_le (spI o n (nI S) 9)
    omega
  obtain ⟨d, h1, h2⟩ := pk_least _ hex
  have h3 := sp_cn (o := o) hn hS d h2
  have h4 := cnB_le (spI o n (nI S) d)
  exact ⟨d, by omega, h1, h2⟩
theorem or_0 (x : Int32) : x ||| 0 = x := by
  apply b_ext
  intro i hi
  rw [b_or, b_0, Bool.or_false]
theorem sp_stay {o : Nat → Int32} {n d : Nat} {s : Int32} (h : moS o (spI o n s d) n = 0) : ∀ e, spI o n s (d + e) = spI o n s d
  | 0 => rfl
  | e + 1 => by
    show spI o n s (d + e) ||| moS o (spI o n s (d + e)) n = _
    rw [sp_stay h e, h, or_0]
theorem tak_d {o : Nat → Int32} {n S d : Nat} (hn : n ≤ 8) (hS : S < 256) (hd : d ≤ 8) (h : moS o (spI o n (nI S) d) n = 0) : takS o n (nI S) 8 = spI o n (nI S) d := by
  rw [tak_sp hn hS 8, show 8 = d + (8 - d) by omega, sp_stay h]
theorem rnd_d {o : Nat → Int32} {n S d : Nat} (hn : n ≤ 8) (hS : S < 256) (hd : d ≤ 8) (h : moS o (spI o n (nI S) d) n = 0) (hne : ∀ k, k < d → ¬ moS o (spI o n (nI S) k) n = 0) : ∀ e k, k + e = d → rndS o n (8 - k) k (spI o n (nI S) k) = nI d
  | 0, k, hk => by
    have hk : k = d := hk
    subst hk
    obtain ⟨S', h', es⟩ := sp_lo (o := o) hn hS k
    by_cases c : k = 8
    · subst c; rfl
    · rw [show 8 - k = (7 - k) + 1 by omega]
      unfold rndS
      rw [if_pos]
      rw [es, af_mo hn h', ← es, h, or_0]
  | e + 1, k, hk => by
    obtain ⟨S', h', es⟩ := sp_lo (o := o) hn hS k
    have ea : afR o n (spI o n (nI S) k) = spI o n (nI S) (k + 1) := by
      show _ = spI o n (nI S) k ||| moS o (spI o n (nI S) k) n
      rw [es, af_mo hn h']
    have h0 := hne k (by omega)
    rw [show 8 - k = (8 - (k + 1)) + 1 by omega]
    unfold rndS
    rw [if_neg, ea]
    · exact rnd_d hn hS hd h hne e (k + 1) (by omega)
    · rw [es] at h0
      obtain ⟨j, hj, h1, h2⟩ := mo_ne hn h' h0
      rw [es, af_mo hn h']
      intro q
      have : bt (nI S' ||| moS o (nI S') n) j = bt (nI S') j := by rw [q]
      rw [b_or, h1, h2] at this
      exact absurd this (by decide)
theorem ev_n : ∀ n, n ≤ 8 → evI n = nI (2 ^ n - 1) ∧ 2 ^ n - 1 < 256 := by decide +kernel
theorem and_lo {n s : Nat} (hs : s < 256) (hn : n ≤ 8) : ∃ S, S < 256 ∧ nI s &&& evI n = nI S := by
  have h1 := ev_n n hn
  refine b_lo8 (fun i h8 hi => ?_)
  rw [b_and, b_hi8 s hs i hi h8, Bool.false_and]
/-- one first day: rounds, who takes it at last -/
theorem first_ok {o : Nat → Int32} {n s : Nat} (hn : n ≤ 8) (hs : s < 256) : ∃ d, moS o (spI o n (nI s &&& evI n) d) n = 0 ∧ (∀ k, k < d → ¬ moS o (spI o n (nI s &&& evI n) k) n = 0) ∧ spI o n (nI s &&& evI n) d = takF o n (nI s) ∧ rndF o n (nI s) = nI d := by
  obtain ⟨S, hS, e⟩ := and_lo (n := n) hs hn
  unfold takF rndF
  rw [e]
  obtain ⟨d, h1, h2, h3⟩ := sp_end (o := o) hn hS
  exact ⟨d, h2, h3, (tak_d hn hS h1 h2).symm, rnd_d hn hS h1 h2 h3 d 0 (by omega)⟩
/-! seeds: the least of the fewest, from below and from above -/
def aS (c : Nat → Nat) (P : Nat → Bool) (E : Nat) : Nat → Nat
  | 0 => E
  | k + 1 => if c k < c (aS c P E k) ∧ P k = true then k else aS c P E k
def dS (c : Nat → Nat) (P : Nat → Bool) (E : Nat) : Nat → Nat
  | 0 => E
  | j + 1 => if c (E - 1 - j) ≤ c (dS c P E j) ∧ P (E - 1 - j) = true then E - 1 - j else dS c P E j
theorem aS_ok {c : Nat → Nat} {P : Nat → Bool} {E : Nat} (hc : ∀ i, i < E → c i < c E) : ∀ k, k ≤ E → (aS c P E k = E ∨ (aS c P E k < k ∧ P (aS c P E k) = true)) ∧ ∀ i, i < k → P i = true → c (aS c P E k) < c i ∨ (c (aS c P E k) = c i ∧ aS c P E k ≤ i)
  | 0, _ => ⟨Or.inl rfl, fun i h => absurd h (Nat.not_lt_zero i)⟩
  | k + 1, hk => by
    obtain ⟨h1, h2⟩ := aS_ok hc k (by omega)
    unfold aS
    by_cases q : c k < c (aS c P E k) ∧ P k = true
    · rw [if_pos q]
      refine ⟨Or.inr ⟨by omega, q.2⟩, fun i hi hP => ?_⟩
      by_cases e : i = k
      · subst e; exact Or.inr ⟨rfl, Nat.le_refl _⟩
      · have := h2 i (by omega) hP
        have := q.1
        omega
    · rw [if_neg q]
      refine ⟨h1.elim Or.inl (fun r => Or.inr ⟨by omega, r.2⟩), fun i hi hP => ?_⟩
      by_cases e : i = k
      · subst e
        have hn : ¬ c i < c (aS c P E i) := fun r => q ⟨r, hP⟩
        rcases h1 with r | r
        · have := hc i (by omega)
          rw [r] at hn
          omega
        · omega
      · exact h2 i (by omega) hP
theorem dS_ok {c : Nat → Nat} {P : Nat → Bool} {E : Nat} : ∀ j, j ≤ E → (dS c P E j = E ∨ (dS c P E j < E ∧ P (dS c P E j) = true)) ∧ ∀ i, E - j ≤ i → i < E → P i = true → c (dS c P E j) < c i ∨ (c (dS c P E j) = c i ∧ dS c P E j ≤ i)
  | 0, _ => ⟨Or.inl rfl, fun i h1 h2 => absurd h2 (by omega)⟩
  | j + 1, hj => by
    obtain ⟨h1, h2⟩ := dS_ok (c := c) (P := P) (E := E) j (by omega)
    unfold dS
    by_cases q : c (E - 1 - j) ≤ c (dS c P E j) ∧ P (E - 1 - j) = true
    · rw [if_pos q]
      refine ⟨Or.inr ⟨by omega, q.2⟩, fun i hi hi2 hP => ?_⟩
      by_cases e : i = E - 1 - j
      · subst e; exact Or.inr ⟨rfl, Nat.le_refl _⟩
      · have := h2 i (by omega) hi2 hP
        have := q.1
        omega
    · rw [if_neg q]
      refine ⟨h1, fun i hi hi2 hP => ?_⟩
      by_cases e : i = E - 1 - j
      · subst e
        have hn : ¬ c (E - 1 - j) ≤ c (dS c P E j) := fun r => q ⟨r, hP⟩
        omega
      · exact h2 i (by omega) hi2 hP
theorem ad_eq {c : Nat → Nat} {P : Nat → Bool} {E : Nat} (hc : ∀ i, i < E → c i < c E) : aS c P E E = dS c P E E := by
  obtain ⟨a1, a2⟩ := aS_ok (P := P) hc E (Nat.le_refl _)
  obtain ⟨d1, d2⟩ := dS_ok (c := c) (P := P) (E := E) E (Nat.le_refl _)
  generalize aS c P E E = a at *
  generalize dS c P E E = d at *
  rcases a1 with ra | ⟨ra, pa⟩
  · rcases d1 with rd | ⟨rd, pd⟩
    · omega
    · have h1 := a2 d rd pd
      have h2 := hc d rd
      rw [ra] at h1
      omega
  · rcases d1 with rd | ⟨rd, pd⟩
    · have h1 := d2 a (by omega) ra pa
      have h2 := hc a ra
      rw [rd] at h1
      omega
    · have h1 := a2 d rd pd
      have h2 := d2 a (by omega) ra pa
      omega
def pcN (k : Nat) : Nat := (bcI (nI k)).toNatClampNeg
theorem pcN_ok : ∀ k, k < 256 → bcI (nI k) = nI (pcN k) ∧ bsS (nI k) 8 = nI (pcN k) ∧ pcN k ≤ 8 := by decide +kernel
theorem pcN_E : ∀ n, n ≤ 8 → ∀ k, k < 2 ^ n - 1 → pcN k < pcN (2 ^ n - 1) := by decide +kernel
theorem aS_le {c : Nat → Nat} {P : Nat → Bool} {E : Nat} : ∀ k, k ≤ E → aS c P E k ≤ E
  | 0, _ => Nat.le_refl _
  | k + 1, hk => by
    have := aS_le (c := c) (P := P) (E := E) k (by omega)
    unfold aS
    by_cases q : c k < c (aS c P E k) ∧ P k = true
    · rw [if_pos q]; omega
    · rw [if_neg q]; omega
theorem dS_le {c : Nat → Nat} {P : Nat → Bool} {E : Nat} : ∀ k, dS c P E k ≤ E
  | 0 => Nat.le_refl _
  | k + 1 => by
    have := dS_le (c := c) (P := P) (E := E) k
    unfold dS
    by_cases q : c (E - 1 - k) ≤ c (dS c P E k) ∧ P (E - 1 - k) = true
    · rw [if_pos q]; omega
    · rw [if_neg q]; omega
def skP (o : Nat → Int32) (n E k : Nat) : Bool := decide (takF o n (nI k) = nI E)
theorem ls_a {o : Nat → Int32} {n E : Nat} (hE : evI n = nI E) (hE2 : E < 256) : ∀ k, k ≤ E → lsS o n k = nI (aS pcN (skP o n E) E k)
  | 0, _ => hE
  | k + 1, hk => by
    have ih := ls_a (o := o) hE hE2 k (by omega)
    have hl := aS_le (c := pcN) (P := skP o n E) (E := E) k (by omega)
    have p1 := pcN_ok k (by omega)
    have p2 := pcN_ok (aS pcN (skP o n E) E k) (by omega)
    unfold lsS aS
    rw [ih, p1.1, p2.1, hE]
    have hq : (nI (pcN k) < nI (pcN (aS pcN (skP o n E) E k)) ∧ takF o n (nI k) = nI E) ↔ (pcN k < pcN (aS pcN (skP o n E) E k) ∧ skP o n E k = true) := by
      rw [nI_ltI (by omega) (by omega)]
      unfold skP
      rw [decide_eq_true_eq]
    by_cases q : pcN k < pcN (aS pcN (skP o n E) E k) ∧ skP o n E k = true
    · rw [if_pos q, if_pos (hq.mpr q)]
    · rw [if_neg q, if_neg (fun r => q (hq.mp r))]
theorem sd_d {o : Nat → Int32} {n E : Nat} (hE2 : E < 256) : ∀ j, sdS (fun k => takF o n (nI k)) E j = nI (dS pcN (skP o n E) E j)
  | 0 => rfl
  | j + 1 => by
    have ih := sd_d (o := o) (n := n) hE2 j
    have hl := dS_le (c := pcN) (P := skP o n E) (E := E) j
    have p1 := pcN_ok (E - 1 - j) (by omega)
    have p2 := pcN_ok (dS pcN (skP o n E) E j) (by omega)
    unfold sdS dS
    rw [ih, p1.2.1, p2.2.1]
    have hq : (nI (pcN (E - 1 - j)) ≤ nI (pcN (dS pcN (skP o n E) E j)) ∧ takF o n (nI (E - 1 - j)) = nI E) ↔ (pcN (E - 1 - j) ≤ pcN (dS pcN (skP o n E) E j) ∧ skP o n E (E - 1 - j) = true) := by
      rw [nI_leI (by omega) (by omega)]
      unfold skP
      rw [decide_eq_true_eq]
    by_cases q : pcN (E - 1 - j) ≤ pcN (dS pcN (skP o n E) E j) ∧ skP o n E (E - 1 - j) = true
    · rw [if_pos q, if_pos (hq.mpr q)]
    · rw [if_neg q, if_neg (fun r => q (hq.mp r))]
theorem seeds_ok {o : Nat → Int32} {n : Nat} (hn : n ≤ 8) : ∃ S, S < 256 ∧ lsS o n (2 ^ n - 1) = nI S ∧ sdS (fun k => takF o n (nI k)) (2 ^ n - 1) (2 ^ n - 1) = nI S ∧ bcI (nI S) = bsS (nI S) 8 := by
  have h1 := ev_n n hn
  have hl := aS_le (c := pcN) (P := skP o n (2 ^ n - 1)) (E := 2 ^ n - 1) (2 ^ n - 1) (Nat.le_refl _)
  refine ⟨aS pcN (skP o n (2 ^ n - 1)) (2 ^ n - 1) (2 ^ n - 1), by omega, ls_a h1.1 h1.2 _ (Nat.le_refl _), ?_, bc_bs _ (by omega)⟩
  rw [sd_d h1.2, ad_eq (pcN_E n hn)]

