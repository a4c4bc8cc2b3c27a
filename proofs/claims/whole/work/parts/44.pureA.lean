/-! PURE: sums within bounds, Euclid's steps, shabby, changer, cheapest -/
def sN (G : Nat → Nat) : Nat → Nat
  | 0 => 0
  | d + 1 => sN G d + G d
theorem sN_le {G : Nat → Nat} {c : Nat} : ∀ d, (∀ i, i < d → G i ≤ c) → sN G d ≤ d * c
  | 0, _ => Nat.zero_le _
  | d + 1, h => by
    have h1 := sN_le (G := G) (c := c) d (fun i hi => h i (by omega))
    have h2 := h d (by omega)
    have h3 : (d + 1) * c = d * c + c := Nat.succ_mul d c
    show sN G d + G d ≤ _
    omega
theorem sN_ge {G : Nat → Nat} : ∀ d i, i < d → G i ≤ sN G d
  | 0, i, h => absurd h (Nat.not_lt_zero i)
  | d + 1, i, h => by
    show G i ≤ sN G d + G d
    by_cases e : i = d
    · subst e; omega
    · have := sN_ge (G := G) d i (by omega); omega
theorem sr_sN {g : Nat → Int32} {G : Nat → Nat} : ∀ d, (∀ i, i < d → g i = nI (G i)) → sr g 0 d = nI (sN G d)
  | 0, _ => rfl
  | d + 1, h => by
    show sr g 0 d + g (0 + d) = nI (sN G d + G d)
    rw [sr_sN d (fun i hi => h i (by omega)), Nat.zero_add, h d (by omega), nI_add]
theorem sr_c {g g' : Nat → Int32} (a : Nat) : ∀ d, (∀ i, i < d → g (a + i) = g' (a + i)) → sr g a d = sr g' a d
  | 0, _ => rfl
  | d + 1, h => by
    show sr g a d + g (a + d) = sr g' a d + g' (a + d)
    rw [sr_c a d (fun i hi => h i (by omega)), h d (by omega)]
theorem bnd_nI {f : Nat → Int32} (hf : bnd f) {j : Nat} (hj : j < 80) : f j = nI (f j).toNatClampNeg ∧ (f j).toNatClampNeg ≤ 99 := by
  obtain ⟨k, hk, e⟩ := nI_of2 (M := 99) (n := 99) (by decide) (hf j hj).1 (hf j hj).2
  have : (f j).toNatClampNeg = k := by rw [e]; exact nI_clamp (by omega)
  rw [this]
  exact ⟨e, hk⟩
/-- coins of a weight, as a number -/
def Wf (f : Nat → Int32) (w : Nat) : Nat := sN (fun p => (f (p * 10 + w)).toNatClampNeg) 8
theorem Wf_ok {f : Nat → Int32} (hf : bnd f) {w : Nat} (hw : w < 10) : pWt f w = nI (Wf f w) ∧ Wf f w ≤ 792 := by
  refine ⟨sr_sN 8 (fun p hp => (bnd_nI hf (by omega)).1), ?_⟩
  exact Nat.le_trans (sN_le (c := 99) 8 (fun p hp => (bnd_nI hf (by omega)).2)) (by omega)
theorem Wf_W {f : Nat → Int32} (hf : bnd f) : ∀ j, j < 10 → pWt f j = nI (Wf f j) ∧ Wf f j < 1000 := fun j hj => ⟨(Wf_ok hf hj).1, by have := (Wf_ok hf hj).2; omega⟩
theorem cB_sN (W : Nat → Nat) : ∀ m, cB W wUp m = sN W m
  | 0 => rfl
  | m + 1 => by show cB W wUp m + W m = sN W m + W m; rw [cB_sN W m]
theorem pAll_W {f : Nat → Int32} (hf : bnd f) : pAll f = nI (sN (Wf f) 10) := by
  rw [← pAll_sw]
  exact sr_sN 10 (fun w hw => (Wf_ok hf hw).1)
theorem sN_W {f : Nat → Int32} (hf : bnd f) : sN (Wf f) 10 ≤ 7920 := Nat.le_trans (sN_le (c := 792) 10 (fun w hw => (Wf_ok hf hw).2)) (by omega)
def grN (W : Nat → Nat) (w : Nat) : Nat := W w * (10 - w)
theorem pGr_W {f : Nat → Int32} (hf : bnd f) : pGr f = nI (sN (grN (Wf f)) 10) := by
  refine sr_sN 10 (fun w hw => ?_)
  show pWt f w * (10 - nI w) = _
  rw [(Wf_ok hf hw).1, show (10 : Int32) = nI 10 from rfl, pk_sub (by omega), pk_mul]
  rfl
theorem grN_le {f : Nat → Int32} (hf : bnd f) : sN (grN (Wf f)) 10 ≤ 79200 := by
  refine Nat.le_trans (sN_le (c := 7920) 10 (fun w hw => ?_)) (by omega)
  have h1 := (Wf_ok hf hw).2
  exact Nat.le_trans (Nat.mul_le_mul h1 (show 10 - w ≤ 10 by omega)) (by omega)
theorem sN_mono {G H : Nat → Nat} : ∀ d, (∀ i, i < d → G i ≤ H i) → sN G d ≤ sN H d
  | 0, _ => Nat.le_refl _
  | d + 1, h => Nat.add_le_add (sN_mono d (fun i hi => h i (by omega))) (h d (by omega))
theorem gr_ge (W : Nat → Nat) : sN W 10 ≤ sN (grN W) 10 := sN_mono 10 (fun w hw => by
  have h1 : W w * 1 ≤ W w * (10 - w) := Nat.mul_le_mul_left _ (by omega)
  show W w ≤ W w * (10 - w)
  omega)
theorem all_pos {f : Nat → Int32} (hf : bnd f) {j : Nat} (hj : j < 80) (h : ¬ f j = 0) : 0 < sN (Wf f) 10 := by
  have h1 : 0 < (f j).toNatClampNeg := by
    rcases Nat.eq_zero_or_pos (f j).toNatClampNeg with e | e
    · exact absurd (by rw [(bnd_nI hf hj).1, e]; rfl) h
    · exact e
  have h2 : (f j).toNatClampNeg ≤ Wf f (j % 10) := by
    have := sN_ge (G := fun p => (f (p * 10 + j % 10)).toNatClampNeg) 8 (j / 10) (by omega)
    rw [show j / 10 * 10 + j % 10 = j by omega] at this
    exact this
  have h3 := sN_ge (G := Wf f) 10 (j % 10) (by omega)
  omega
theorem all_ne {f : Nat → Int32} (hf : bnd f) : ¬ pAll f = 0 ↔ ∃ j, j < 80 ∧ ¬ f j = 0 := by
  constructor
  · intro h
    apply Classical.byContradiction
    intro hn
    apply h
    have hz : ∀ w, w < 10 → Wf f w = 0 := fun w hw => by
      have : sN (fun p => (f (p * 10 + w)).toNatClampNeg) 8 ≤ 8 * 0 := sN_le 8 (fun p hp => by
        apply Classical.byContradiction
        intro hc
        exact hn ⟨p * 10 + w, by omega, fun e => hc (by rw [e]; decide)⟩)
      exact Nat.le_zero.mp this
    have : sN (Wf f) 10 ≤ 10 * 0 := sN_le 10 (fun w hw => by rw [hz w hw]; exact Nat.le_refl _)
    rw [pAll_W hf, Nat.le_zero.mp this]
    rfl
  · rintro ⟨j, hj, hn⟩
    rw [pAll_W hf]
    have h1 := all_pos hf hj hn
    have h2 := sN_W hf
    exact nI_ne0 h1 (by omega)
/-! Euclid -/
theorem stp_mono : ∀ d a b, stp d a b = true → stp (d + 1) a b = true
  | 0, a, 0, _ => rfl
  | 0, a, b + 1, h => by cases h
  | d + 1, a, 0, _ => rfl
  | d + 1, a, b + 1, h => stp_mono d (b + 1) (a % (b + 1)) h
theorem stp_up {d a b : Nat} (h : stp d a b = true) : ∀ e, stp (d + e) a b = true
  | 0 => h
  | e + 1 => stp_mono _ a b (stp_up h e)
theorem stp_ok : ∀ k a b, b < 2 ^ k → stp (2 * k + 1) a b = true
  | 0, a, b, h => by
    have : b = 0 := by omega
    subst this
    rfl
  | k + 1, a, 0, h => rfl
  | k + 1, a, b + 1, h => by
    show stp (2 * k + 1 + 1) (b + 1) (a % (b + 1)) = true
    have hr := Nat.mod_lt a (Nat.succ_pos b)
    cases hc : a % (b + 1) with
    | zero => rfl
    | succ r =>
      rw [hc] at hr
      show stp (2 * k + 1) (r + 1) ((b + 1) % (r + 1)) = true
      refine stp_ok k _ _ ?_
      have h1 := Nat.mod_add_div (b + 1) (r + 1)
      have h2 : 1 ≤ (b + 1) / (r + 1) := Nat.div_pos (by omega) (by omega)
      have h3 : (r + 1) * 1 ≤ (r + 1) * ((b + 1) / (r + 1)) := Nat.mul_le_mul_left _ h2
      have h4 : (b + 1) % (r + 1) < r + 1 := Nat.mod_lt _ (by omega)
      have h5 : 2 ^ (k + 1) = 2 * 2 ^ k := by rw [Nat.pow_succ]; omega
      omega
theorem stp200 {a b : Nat} (h : b < 2 ^ 63) : stp 200 a b = true := stp_up (d := 2 * 63 + 1) (stp_ok 63 a b h) 73
/-! purses that agree -/
def eq8 (f g : Nat → Int32) : Prop := ∀ j, j < 80 → f j = g j
theorem pWt_c {f g : Nat → Int32} (h : eq8 f g) {w : Nat} (hw : w < 10) : pWt f w = pWt g w := sr_c 0 8 (fun p hp => h _ (by omega))
theorem pCo_c {f g : Nat → Int32} (h : eq8 f g) {p : Nat} (hp : p < 8) : pCo f p = pCo g p := sr_c 0 10 (fun w hw => h _ (by omega))
theorem pAll_c {f g : Nat → Int32} (h : eq8 f g) : pAll f = pAll g := sr_c 0 8 (fun p hp => pCo_c h (by omega))
theorem pGr_c {f g : Nat → Int32} (h : eq8 f g) : pGr f = pGr g := sr_c 0 10 (fun w hw => by
  show pWt f (0 + w) * (10 - nI (0 + w)) = pWt g (0 + w) * (10 - nI (0 + w))
  rw [pWt_c h (by omega)])
theorem wear_c {f g : Nat → Int32} (h : eq8 f g) : eq8 (wearA f) (wearA g) := by
  intro j hj
  rw [wearA_at hj, wearA_at hj]
  unfold wearF
  by_cases e : j % 10 = 9
  · rw [if_pos e, if_pos e, h j hj, h (j - 1) (by omega)]
  · rw [if_neg e, if_neg e, h (j - 1) (by omega)]
theorem bnd_c {f g : Nat → Int32} (h : eq8 f g) (hf : bnd f) : bnd g := fun k hk => by rw [← h k hk]; exact hf k hk
theorem zro_c {n : Nat} {f g : Nat → Int32} (h : eq8 f g) (hf : zro n f) : zro n g := fun p h1 h2 w hw => by rw [← h _ (by omega)]; exact hf p h1 h2 w hw
theorem cpy_c {f g : Nat → Int32} : eq8 (va_cpy f g 0 0 80) f := fun j hj => by rw [pk_cpy_in (by omega) (by omega)]; congr 1; omega
theorem bnd_wear {f : Nat → Int32} (hf : bnd f) : bnd (wearA f) := by
  intro j hj
  rw [wearA_at hj]
  unfold wearF
  by_cases e : j % 10 = 9
  · rw [if_pos e]
    have h1 := bnd_nI hf hj
    have h2 := bnd_nI hf (j := j - 1) (by omega)
    rw [h1.1, h2.1, nI_add]
    by_cases e2 : nI ((f j).toNatClampNeg + (f (j - 1)).toNatClampNeg) < 99
    · rw [if_pos e2]
      exact ⟨nI_pos (by omega), Int32.le_of_lt e2⟩
    · rw [if_neg e2]
      exact ⟨by decide, by decide⟩
  · rw [if_neg e]
    by_cases e2 : j % 10 = 0
    · rw [if_pos e2]; exact ⟨by decide, by decide⟩
    · rw [if_neg e2]; exact hf _ (by omega)
theorem wear_ne {f : Nat → Int32} (hf : bnd f) (h : ¬ pAll f = 0) : ¬ pAll (wearA f) = 0 := by
  obtain ⟨j, hj, hn⟩ := (all_ne hf).mp h
  refine (all_ne (bnd_wear hf)).mpr ?_
  have add : ∀ i, i < 80 → i % 10 = 9 → (¬ f i = 0 ∨ ¬ f (i - 1) = 0) → ¬ wearA f i = 0 := by
    intro i hi e ho
    rw [wearA_at hi]
    unfold wearF
    rw [if_pos e]
    have h1 := bnd_nI hf hi
    have h2 := bnd_nI hf (j := i - 1) (by omega)
    have h3 : 0 < (f i).toNatClampNeg + (f (i - 1)).toNatClampNeg := by
      rcases ho with ho | ho
      · rcases Nat.eq_zero_or_pos (f i).toNatClampNeg with q | q
        · exact absurd (by rw [h1.1, q]; rfl) ho
        · omega
      · rcases Nat.eq_zero_or_pos (f (i - 1)).toNatClampNeg with q | q
        · exact absurd (by rw [h2.1, q]; rfl) ho
        · omega
    rw [h1.1, h2.1, nI_add]
    by_cases e2 : nI ((f i).toNatClampNeg + (f (i - 1)).toNatClampNeg) < 99
    · rw [if_pos e2]
      exact nI_ne0 h3 (by omega)
    · rw [if_neg e2]
      decide
  by_cases e : j % 10 = 9
  · exact ⟨j, hj, add j hj e (Or.inl hn)⟩
  · refine ⟨j + 1, by omega, ?_⟩
    by_cases e8 : (j + 1) % 10 = 9
    · exact add (j + 1) (by omega) e8 (Or.inr hn)
    · rw [wearA_at (by omega)]
      unfold wearF
      rw [if_neg e8, if_neg (by omega)]
      exact hn
/-! shabby -/
theorem sh_eq {m : Int32} {yy wr : Nat} : ∀ d y g g', 1 ≤ y → eq8 g g' → ¬ 10 * pGr g' ≤ m * pAll g' → shS m yy wr d y g = shN m yy wr d y g' := by
  intro d
  induction d with
  | zero => intro y g g' _ _ _; show (-9 : Int32) = -9; rfl
  | succ d ih =>
    intro y g g' hy he hn
    rw [shS, shN]
    by_cases e : (yy + y) % wr = 0
    · rw [if_pos e, if_pos (show 0 < y ∧ (yy + y) % wr = 0 from ⟨by omega, e⟩), pGr_c (wear_c he), pAll_c (wear_c he), Int32.mul_comm (pGr (wearA g')) 10]
      by_cases c : 10 * pGr (wearA g') ≤ m * pAll (wearA g')
      · rw [if_pos c, if_pos c]
      · rw [if_neg c, if_neg c]
        exact ih (y + 1) _ _ (by omega) (wear_c he) c
    · rw [if_neg e, if_neg (show ¬ (0 < y ∧ (yy + y) % wr = 0) from fun q => e q.2), if_neg hn]
      exact ih (y + 1) _ _ (by omega) he hn
theorem sh_all {m : Int32} {yy wr : Nat} {f g : Nat → Int32} : (if pGr f * 10 ≤ m * pAll f then 0 else shS m yy wr 1000 1 (va_cpy f g 0 0 80)) = shN m yy wr 1001 0 f := by
  rw [show (1001 : Nat) = 1000 + 1 from rfl, shN]
  rw [if_neg (show ¬ (0 < 0 ∧ (yy + 0) % wr = 0) from fun q => absurd q.1 (by omega)), Int32.mul_comm (pGr f) 10]
  by_cases c : 10 * pGr f ≤ m * pAll f
  · rw [if_pos c, if_pos c]; rfl
  · rw [if_neg c, if_neg c]
    exact sh_eq 1000 1 _ _ (by omega) cpy_c c
theorem sh_lo {k : Nat} {f : Nat → Int32} (hk : k < 10) (hf : bnd f) (h : ¬ pAll f = 0) : ¬ 10 * pGr f ≤ nI k * pAll f := by
  obtain ⟨j, hj, hn⟩ := (all_ne hf).mp h
  have h1 := all_pos hf hj hn
  have h2 := gr_ge (Wf f)
  have h3 := grN_le hf
  have h4 := sN_W hf
  rw [pGr_W hf, pAll_W hf, show (10 : Int32) = nI 10 from rfl, pk_mul, pk_mul]
  have h5 : k * sN (Wf f) 10 ≤ 9 * sN (Wf f) 10 := Nat.mul_le_mul_right _ (by omega)
  refine nI_ge ?_ (by omega)
  omega
theorem sh_none {k yy wr : Nat} (hk : k < 10) : ∀ d y f, bnd f → ¬ pAll f = 0 → shN (nI k) yy wr d y f = -9 := by
  intro d
  induction d with
  | zero => intro y f _ _; show (-9 : Int32) = -9; rfl
  | succ d ih =>
    intro y f hf h
    rw [shN]
    by_cases e : 0 < y ∧ (yy + y) % wr = 0
    · rw [if_pos e, if_neg (sh_lo hk (bnd_wear hf) (wear_ne hf h))]
      exact ih (y + 1) _ (bnd_wear hf) (wear_ne hf h)
    · rw [if_neg e, if_neg (sh_lo hk hf h)]
      exact ih (y + 1) _ hf h
/-! the changer -/
theorem hm_0 {f u : Nat → Int32} {p : Nat} (hp : p < 8) (hf : bnd f) : ∀ k, k ≤ 10 → ∃ M, M ≤ k * 990 ∧ hmS f u p (nI 0) k = (0, nI M)
  | 0, _ => ⟨0, by omega, rfl⟩
  | k + 1, hk => by
    obtain ⟨M, hM, e⟩ := hm_0 hp hf k (by omega)
    have h1 := bnd_nI hf (j := p * 10 + k) (by omega)
    refine ⟨M + (f (p * 10 + k)).toNatClampNeg * (10 - k), ?_, ?_⟩
    · have := Nat.mul_le_mul h1.2 (show 10 - k ≤ 10 by omega)
      omega
    · unfold hmS
      rw [if_neg (nI_nlt (a := k) (b := 0) (by omega) (by omega)), e]
      show (0, nI M + f (p * 10 + k) * (10 - nI k)) = _
      rw [show f (p * 10 + k) * (10 - nI k) = nI ((f (p * 10 + k)).toNatClampNeg * (10 - k)) by rw [show (10 : Int32) = nI 10 from rfl, pk_sub (by omega), ← pk_mul, ← h1.1], nI_add]
theorem hm_pos {f u : Nat → Int32} {p c : Nat} (hp : p < 8) (hf : bnd f) (hc : c ≤ 99) : ¬ hmF f u p (nI 0) (nI c) < -1 := by
  obtain ⟨M, hM, e⟩ := hm_0 (u := u) hp hf 10 (by omega)
  unfold hmF
  rw [e]
  show ¬ 0 + nI M * (100 - nI c) / 1000 * 10 < -1
  have h1 : M * (100 - c) ≤ 9900 * 100 := Nat.mul_le_mul (by omega) (by omega)
  rw [show (100 : Int32) = nI 100 from rfl, pk_sub (by omega), pk_mul, show (1000 : Int32) = nI 1000 from rfl, pk_div (by omega) (by omega) (by omega), show (10 : Int32) = nI 10 from rfl, pk_mul, show (0 : Int32) = nI 0 from rfl, nI_add]
  have h2 : M * (100 - c) / 1000 ≤ 990000 := Nat.le_trans (Nat.div_le_self _ _) h1
  intro q
  have h3 := nI_pos' (n := 0 + M * (100 - c) / 1000 * 10) (by omega)
  exact absurd (Int32.lt_of_le_of_lt h3 q) (by decide)
theorem ch_eq {f u : Nat → Int32} {p : Nat} {c : Int32} (h0 : ¬ hmF f u p (nI 0) c < -1) : ∀ k, chX f u p c (k + 1) = (nI (cmS f u p c k), hmF f u p (nI (cmS f u p c k)) c)
  | 0 => by
    unfold chX
    rw [if_neg (show ¬ hmF f u p (nI 0) c < (chX f u p c 0).2 from h0)]
    rfl
  | k + 1 => by
    unfold chX
    rw [ch_eq h0 k]
    show (if hmF f u p (nI (k + 1)) c < hmF f u p (nI (cmS f u p c k)) c then _ else _) = _
    rw [show cmS f u p c (k + 1) = if hmF f u p (nI (k + 1)) c < hmF f u p (nI (cmS f u p c k)) c then cmS f u p c k else k + 1 from rfl]
    by_cases e : hmF f u p (nI (k + 1)) c < hmF f u p (nI (cmS f u p c k)) c
    · rw [if_pos e, if_pos e]
    · rw [if_neg e, if_neg e]
/-! cheapest -/
theorem law_nI {lw : Nat → Int32} (hl : lwb lw) {s : Int32} {w : Nat} (hw : w < 3) : ∀ k, k ≤ 9 → ∃ a, a ≤ k * 99 ∧ lawS lw s w k = nI a
  | 0, _ => ⟨0, by omega, rfl⟩
  | k + 1, hk => by
    obtain ⟨a, ha, e⟩ := law_nI hl hw k (by omega)
    unfold lawS
    by_cases c : (s >>> (nI k &&& 31)) &&& 1 = 1
    · rw [if_pos c, e]
      obtain ⟨b, hb, e2⟩ := nI_of2 (M := 99) (n := 99) (by decide) (hl (k * 3 + w) (by omega)).1 (hl (k * 3 + w) (by omega)).2
      exact ⟨a + b, by omega, by rw [e2, nI_add]⟩
    · rw [if_neg c]
      exact ⟨a, by omega, e⟩
theorem ch_less {u a s : Nat} (hu : u ≤ 99) (ha : a ≤ 999) (hs : s ≤ 891) : nI u - nI a ≤ nI s ↔ nI u - nI s ≤ nI a := by
  rw [Int32.le_iff_toInt_le, Int32.le_iff_toInt_le, pk_sub_toInt (by omega) (by omega), pk_sub_toInt (by omega) (by omega), nI_toInt (by omega), nI_toInt (by omega)]
  omega
theorem ch_more {u b s : Nat} (hu : u ≤ 99) (hb : b ≤ 999) (hs : s ≤ 891) : nI b - nI u ≤ nI s ↔ nI b ≤ nI u + nI s := by
  rw [nI_add, Int32.le_iff_toInt_le, Int32.le_iff_toInt_le, pk_sub_toInt (by omega) (by omega), nI_toInt (by omega), nI_toInt (by omega), nI_toInt (by omega)]
  omega
theorem ch_all {lw : Nat → Int32} (hl : lwb lw) {u1 u2 a b : Nat} (h1 : u1 ≤ 99) (h2 : u2 ≤ 99) (ha : a ≤ 999) (hb : b ≤ 999) : ∀ k, k ≤ 512 → (xCh lw (nI u1 - nI a) (nI b - nI u2) k).1 = mCh lw (nI u1) (nI u2) (nI a) (nI b) k ∧ (mCh lw (nI u1) (nI u2) (nI a) (nI b) k = -9 → (xCh lw (nI u1 - nI a) (nI b - nI u2) k).2 = 2147483647) ∧ (¬ mCh lw (nI u1) (nI u2) (nI a) (nI b) k = -9 → (xCh lw (nI u1 - nI a) (nI b - nI u2) k).2 = lawS lw (mCh lw (nI u1) (nI u2) (nI a) (nI b) k) 0 9)
  | 0, _ => ⟨rfl, fun _ => rfl, fun h => absurd rfl h⟩
  | k + 1, hk => by
    obtain ⟨e1, e2, e3⟩ := ch_all hl h1 h2 ha hb k (by omega)
    obtain ⟨s0, q0, f0⟩ := law_nI hl (s := nI k) (w := 0) (by omega) 9 (by omega)
    obtain ⟨s1, q1, f1⟩ := law_nI hl (s := nI k) (w := 1) (by omega) 9 (by omega)
    obtain ⟨s2, q2, f2⟩ := law_nI hl (s := nI k) (w := 2) (by omega) 9 (by omega)
    have hk9 : ¬ nI k = -9 := nI_m9 (by omega)
    have hiff : (lawS lw (nI k) 0 9 < (xCh lw (nI u1 - nI a) (nI b - nI u2) k).2 ∧ nI u1 - nI a ≤ lawS lw (nI k) 1 9 ∧ nI b - nI u2 ≤ lawS lw (nI k) 2 9) ↔ ((nI u1 - lawS lw (nI k) 1 9 ≤ nI a ∧ nI b ≤ nI u2 + lawS lw (nI k) 2 9) ∧ (mCh lw (nI u1) (nI u2) (nI a) (nI b) k = -9 ∨ lawS lw (nI k) 0 9 < lawS lw (mCh lw (nI u1) (nI u2) (nI a) (nI b) k) 0 9)) := by
      rw [f1, f2, ch_less h1 ha (by omega), ch_more h2 hb (by omega)]
      by_cases c : mCh lw (nI u1) (nI u2) (nI a) (nI b) k = -9
      · rw [e2 c, f0]
        constructor
        · rintro ⟨-, x, y⟩; exact ⟨⟨x, y⟩, Or.inl c⟩
        · rintro ⟨⟨x, y⟩, -⟩; exact ⟨nI_lt (a := s0) (b := 2147483647) (by omega) (by omega), x, y⟩
      · rw [e3 c]
        constructor
        · rintro ⟨w, x, y⟩; exact ⟨⟨x, y⟩, Or.inr w⟩
        · rintro ⟨⟨x, y⟩, w⟩; exact ⟨w.resolve_left c, x, y⟩
    unfold xCh mCh
    by_cases c : lawS lw (nI k) 0 9 < (xCh lw (nI u1 - nI a) (nI b - nI u2) k).2 ∧ nI u1 - nI a ≤ lawS lw (nI k) 1 9 ∧ nI b - nI u2 ≤ lawS lw (nI k) 2 9
    · rw [if_pos c, if_pos (hiff.mp c)]
      exact ⟨rfl, fun h => absurd h hk9, fun _ => rfl⟩
    · rw [if_neg c, if_neg (fun q => c (hiff.mpr q))]
      exact ⟨e1, e2, e3⟩

