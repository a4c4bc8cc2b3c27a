/-! PURE: the days -/
def bt (x : Int32) (i : Nat) : Bool := x.toBitVec.getLsbD i
theorem b_ext {x y : Int32} (h : ∀ i, i < 32 → bt x i = bt y i) : x = y := Int32.toBitVec_inj.mp (BitVec.eq_of_getLsbD_eq (fun i hi => h i hi))
theorem b_or (x y : Int32) (i : Nat) : bt (x ||| y) i = (bt x i || bt y i) := by unfold bt; rw [Int32.toBitVec_or, BitVec.getLsbD_or]
theorem b_and (x y : Int32) (i : Nat) : bt (x &&& y) i = (bt x i && bt y i) := by unfold bt; rw [Int32.toBitVec_and, BitVec.getLsbD_and]
theorem b_xor (x y : Int32) (i : Nat) : bt (x ^^^ y) i = (bt x i ^^ bt y i) := by unfold bt; rw [Int32.toBitVec_xor, BitVec.getLsbD_xor]
theorem b_m1 : ∀ i, i < 32 → bt (-1) i = true := by decide +kernel
theorem b_0 (i : Nat) : bt 0 i = false := BitVec.getLsbD_zero
theorem b_1s : ∀ n, n < 32 → ∀ i, i < 32 → bt ((1 : Int32) <<< (nI n &&& 31)) i = decide (n = i) := by decide +kernel
theorem gG_le {W wt : Nat → Nat} {t : Nat} : ∀ m, gG W wt t m ≤ 10 * min t (cB W wt m)
  | 0 => Nat.zero_le _
  | m + 1 => by
    have h1 := gG_le (W := W) (wt := wt) (t := t) m
    have h2 : min (W (wt m)) (t - cB W wt m) * (10 - wt m) ≤ min (W (wt m)) (t - cB W wt m) * 10 := Nat.mul_le_mul_left _ (by omega)
    show gG W wt t m + min (W (wt m)) (t - cB W wt m) * (10 - wt m) ≤ 10 * min t (cB W wt m + W (wt m))
    generalize min (W (wt m)) (t - cB W wt m) * (10 - wt m) = q at *
    omega
theorem cB_dn (W : Nat → Nat) : cB W wDn 10 = sN W 10 := by
  show 0 + W 9 + W 8 + W 7 + W 6 + W 5 + W 4 + W 3 + W 2 + W 1 + W 0 = 0 + W 0 + W 1 + W 2 + W 3 + W 4 + W 5 + W 6 + W 7 + W 8 + W 9
  omega
theorem hv_at {W : Nat → Nat} {n j : Nat} {hv : Nat → Int32} (hn : n ≤ sN W 10) (hj : j ≤ n) : hvL W n hv j = nI (gG W wUp j 10) := by
  show gArr W wUp (min n (cB W wUp 10)) hv j = _
  rw [cB_sN, Nat.min_eq_left hn]
  exact if_pos hj
theorem lt_at {W : Nat → Nat} {n j : Nat} {lt : Nat → Int32} (hn : n ≤ sN W 10) (hj : j ≤ n) : ltL W n lt j = nI (gG W wDn j 10) := by
  show gArr W wDn (min n (cB W wDn 10)) lt j = _
  rw [cB_dn, Nat.min_eq_left hn]
  exact if_pos hj
theorem j32_mul {x y : Int32} {p : Int} (hp : x.toInt * y.toInt = p) (h1 : -2147483648 ≤ p) (h2 : p < 2147483648) : (x * y).toInt = p := by
  rw [Int32.toInt_mul, hp]
  exact Int.bmod_eq_of_le (by omega) (by omega)
theorem j64_mul {x y : Int64} {p : Int} (hp : x.toInt * y.toInt = p) (h1 : -9223372036854775808 ≤ p) (h2 : p < 9223372036854775808) : (x * y).toInt = p := by
  rw [Int64.toInt_mul, hp]
  exact Int.bmod_eq_of_le (by omega) (by omega)
theorem j64_sub {x y : Int64} {p : Int} (hp : x.toInt - y.toInt = p) (h1 : -9223372036854775808 ≤ p) (h2 : p < 9223372036854775808) : (x - y).toInt = p := by
  rw [Int64.toInt_sub, hp]
  exact Int.bmod_eq_of_le (by omega) (by omega)
theorem lk_x {a L K : Nat} (ha : a ≤ 300) (hL : L ≤ 99) (hK : K ≤ 30) : (10 * nI a - nI L * nI K).toInt = 10 * (a : Int) - ((L * K : Nat) : Int) ∧ L * K ≤ 2970 := by
  have h : L * K ≤ 99 * 30 := Nat.mul_le_mul hL hK
  rw [show (10 : Int32) = nI 10 from rfl, pk_mul, pk_mul, pk_sub_toInt (by omega) (by omega)]
  exact ⟨by omega, by omega⟩
theorem mul_30 {x : Int} {M : Nat} (h1 : -3000 ≤ x) (h2 : x ≤ 3000) (hM : M ≤ 30) : -90000 ≤ x * (M : Int) ∧ x * (M : Int) ≤ 90000 := by
  have e1 : x * (M : Int) ≤ 3000 * (M : Int) := Int.mul_le_mul_of_nonneg_right h2 (by omega)
  have e2 : -3000 * (M : Int) ≤ x * (M : Int) := Int.mul_le_mul_of_nonneg_right h1 (by omega)
  omega
theorem lk_v {a L K M : Nat} (ha : a ≤ 300) (hL : L ≤ 99) (hK : K ≤ 30) (hM : M ≤ 30) : ((10 * nI a - nI L * nI K) * nI M).toInt = (10 * (a : Int) - ((L * K : Nat) : Int)) * (M : Int) := by
  have hx := lk_x ha hL hK
  have hm := mul_30 (x := 10 * (a : Int) - ((L * K : Nat) : Int)) (M := M) (by omega) (by omega) hM
  exact j32_mul (by rw [hx.1, nI_toInt (by omega)]) (by omega) (by omega)
theorem tl_v {b K : Nat} (hb : b ≤ 300) (hK : K ≤ 30) : (10 * nI b * nI K).toInt = ((b * (10 * K) : Nat) : Int) ∧ b * (10 * K) ≤ 90000 := by
  have h : b * (10 * K) ≤ 300 * (10 * 30) := Nat.mul_le_mul hb (by omega)
  have e : 10 * b * K = b * (10 * K) := by rw [Nat.mul_comm 10 b, Nat.mul_assoc]
  rw [show (10 : Int32) = nI 10 from rfl, pk_mul, pk_mul, e, nI_toInt (by omega)]
  exact ⟨rfl, by omega⟩
theorem lov_v {a b L K M : Nat} (ha : a ≤ 300) (hb : b ≤ 300) (hL : L ≤ 99) (hK : K ≤ 30) (hM : M ≤ 30) : ((10 * nI a - nI L * nI K).toInt64 * (nI M).toInt64 - (nI b).toInt64 * (10 * nI K).toInt64).toInt = (10 * (a : Int) - ((L * K : Nat) : Int)) * (M : Int) - ((b * (10 * K) : Nat) : Int) := by
  have hx := lk_x ha hL hK
  have hm := mul_30 (x := 10 * (a : Int) - ((L * K : Nat) : Int)) (M := M) (by omega) (by omega) hM
  have ht := (tl_v hb hK).2
  have e1 : ((10 * nI a - nI L * nI K).toInt64 * (nI M).toInt64).toInt = (10 * (a : Int) - ((L * K : Nat) : Int)) * (M : Int) := j64_mul (by rw [Int32.toInt_toInt64, Int32.toInt_toInt64, hx.1, nI_toInt (by omega)]) (by omega) (by omega)
  have e2 : ((nI b).toInt64 * (10 * nI K).toInt64).toInt = ((b * (10 * K) : Nat) : Int) := by
    rw [show (10 : Int32) * nI K = nI (10 * K) from pk_mul 10 K, nI_l (by omega), nI_l (by omega), lN_mul, pk_lT (by omega)]
  exact j64_sub (by rw [e1, e2]) (by omega) (by omega)
theorem gG300 {W wt : Nat → Nat} {t : Nat} (ht : t ≤ 30) (m : Nat) : gG W wt t m ≤ 300 := by
  have h := gG_le (W := W) (wt := wt) (t := t) m
  omega
section
variable {W : Nat → Nat} {n k L : Nat} {hv lt : Nat → Int32}
theorem lov_at (hn : n ≤ 30) (hs : n ≤ sN W 10) (hL : L ≤ 99) (hk : k < n) : (lovT (hvL W n hv) (ltL W n lt) n (nI L) k).toInt = (lkU W (nI L) (k + 1) * nI (n - k)).toInt - (tlU W n k * nI (k + 1)).toInt := by
  unfold lovT lkU tlU
  rw [hv_at hs (by omega), lt_at hs (by omega), lov_v (gG300 (by omega) _) (gG300 (by omega) _) hL (by omega) (by omega), lk_v (gG300 (by omega) _) hL (by omega) (by omega), (tl_v (gG300 (by omega) _) (by omega)).1]
theorem i64_0 : (0 : Int64).toInt = 0 := Int64.toInt_zero
theorem pos_iff {v : Int64} {X Y : Int} (h : v.toInt = X - Y) : 0 < v ↔ Y < X := by
  rw [Int64.lt_iff_toInt_lt, h, i64_0]
  omega
theorem neg_iff {v : Int64} {X Y : Int} (h : v.toInt = X - Y) : v < 0 ↔ X < Y := by
  rw [Int64.lt_iff_toInt_lt, h, i64_0]
  omega
theorem and_dec {P Q Q' : Prop} [Decidable P] [Decidable Q] [Decidable Q'] (h : P → (Q ↔ Q')) : (decide P && decide Q) = (decide P && decide Q') := by
  by_cases hp : P
  · rw [decide_eq_true hp, Bool.true_and, Bool.true_and]
    exact decide_eq_decide.mpr (h hp)
  · rw [decide_eq_false hp, Bool.false_and, Bool.false_and]
theorem day_up (hn : n ≤ 30) (hs : n ≤ sN W 10) (hL : L ≤ 99) : dUp (hvL W n hv) (ltL W n lt) n (nI L) k = nUp W (nI L) n k := by
  unfold dUp nUp
  refine and_dec (fun hk => ?_)
  rw [Int32.lt_iff_toInt_lt]
  exact pos_iff (lov_at hn hs hL hk)
theorem day_dn (hn : n ≤ 30) (hs : n ≤ sN W 10) (hL : L ≤ 99) (hkn : k ≤ n) : dDn (hvL W n hv) (ltL W n lt) n (nI L) k = nDn W (nI L) n k := by
  unfold dDn nDn
  refine and_dec (fun hk => ?_)
  have h := lov_at (hv := hv) (lt := lt) (k := k - 1) hn hs hL (by omega)
  rw [show k - 1 + 1 = k by omega, show n - (k - 1) = n - k + 1 by omega] at h
  rw [Int32.lt_iff_toInt_lt]
  exact neg_iff h
end
section
variable {U D U' D' : Nat → Bool}
theorem rs_c : ∀ m, (∀ k, k < m → U k = U' k ∧ D k = D' k) → rsS U D m = rsS U' D' m
  | 0, _ => rfl
  | m + 1, h => by
    unfold rsS
    rw [rs_c m (fun k hk => h k (by omega)), (h m (by omega)).1, (h m (by omega)).2]
theorem en_c {n : Nat} (hU : ∀ k, U k = true → k < n) (h : ∀ k, k ≤ n → U k = U' k ∧ D k = D' k) : ∀ d k, k ≤ n → enS U D d k = enS U' D' d k
  | 0, _, _ => rfl
  | d + 1, k, hk => by
    show enS U D d (enT U D k) = enS U' D' d (enT U' D' k)
    have e : enT U D k = enT U' D' k := by unfold enT; rw [(h k hk).1, (h k hk).2]
    rw [en_c hU h d _ (enT_le hU hk), e]
theorem ti_c {n : Nat} (hU : ∀ k, U k = true → k < n) (h : ∀ k, k ≤ n → U k = U' k ∧ D k = D' k) : ∀ d k, k + d ≤ n + 1 → tiS U D n d k = tiS U' D' n d k
  | 0, _, _ => rfl
  | d + 1, k, hk => by
    unfold tiS
    rw [en_c hU h n k (by omega), ti_c hU h d (k + 1) (by omega)]
end
/-! out -/
theorem wo_bt {W wt : Nat → Nat} {L : Nat} : ∀ m, m ≤ 10 → (∀ i, i < m → wt i < 10) → ∀ j, j < 32 → (bt (woB W wt L m) j = true ↔ ∃ i, i < m ∧ wt i = j ∧ cB W wt i < L ∧ 0 < W (wt i))
  | 0, _, _, j, _ => by
    rw [show woB W wt L 0 = 0 from rfl, b_0]
    exact ⟨fun h => (by cases h), fun ⟨i, h, _⟩ => absurd h (Nat.not_lt_zero i)⟩
  | m + 1, hm, hw, j, hj => by
    have ih := wo_bt (W := W) (wt := wt) (L := L) m (by omega) (fun i hi => hw i (by omega)) j hj
    have hwm := hw m (by omega)
    unfold woB
    by_cases c : cB W wt m < L ∧ 0 < W (wt m)
    · rw [if_pos c, b_or, Bool.or_eq_true, ih, b_1s _ (by omega) _ hj, decide_eq_true_eq]
      constructor
      · rintro (⟨i, h1, h2⟩ | h)
        · exact ⟨i, by omega, h2⟩
        · exact ⟨m, by omega, h, c⟩
      · rintro ⟨i, h1, h2⟩
        by_cases e : i = m
        · subst e; exact Or.inr h2.1
        · exact Or.inl ⟨i, by omega, h2⟩
    · rw [if_neg c, ih]
      constructor
      · rintro ⟨i, h1, h2⟩; exact ⟨i, by omega, h2⟩
      · rintro ⟨i, h1, h2⟩
        by_cases e : i = m
        · subst e; exact absurd h2.2 c
        · exact ⟨i, by omega, h2⟩
theorem oS_bt {W : Nat → Nat} {k t : Nat} : ∀ m, m ≤ 10 → ∀ j, j < 32 → (bt (oS W k t m) j = true ↔ j < m ∧ 0 < W j ∧ ¬ (cB W wUp j < k ∨ t < cB W wUp j + W j))
  | 0, _, j, _ => by
    rw [show oS W k t 0 = 0 from rfl, b_0]
    exact ⟨fun h => (by cases h), fun ⟨h, _⟩ => absurd h (Nat.not_lt_zero j)⟩
  | m + 1, hm, j, hj => by
    have ih := oS_bt (W := W) (k := k) (t := t) m (by omega) j hj
    unfold oS
    by_cases c : 0 < W m ∧ ¬ (cB W wUp m < k ∨ t < cB W wUp m + W m)
    · rw [if_pos c, b_or, Bool.or_eq_true, ih, b_1s _ (by omega) _ hj, decide_eq_true_eq]
      constructor
      · rintro (⟨h1, h2⟩ | h)
        · exact ⟨by omega, h2⟩
        · subst h; exact ⟨by omega, c⟩
      · rintro ⟨h1, h2⟩
        by_cases e : m = j
        · exact Or.inr e
        · exact Or.inl ⟨by omega, h2⟩
    · rw [if_neg c, ih]
      constructor
      · rintro ⟨h1, h2⟩; exact ⟨by omega, h2⟩
      · rintro ⟨h1, h2⟩
        by_cases e : j = m
        · subst e; exact absurd h2 c
        · exact ⟨by omega, h2⟩
/-- what is heavier, what is lighter and the weight itself make all -/
theorem cB_ud (W : Nat → Nat) : ∀ j, j < 10 → cB W wDn (9 - j) + (cB W wUp j + W j) = sN W 10 := by
  intro j hj
  have h : j = 0 ∨ j = 1 ∨ j = 2 ∨ j = 3 ∨ j = 4 ∨ j = 5 ∨ j = 6 ∨ j = 7 ∨ j = 8 ∨ j = 9 := by omega
  have a0 : sN W 10 = 0 + W 0 + W 1 + W 2 + W 3 + W 4 + W 5 + W 6 + W 7 + W 8 + W 9 := rfl
  have u0 : cB W wUp 0 = 0 := rfl
  have u1 : cB W wUp 1 = 0 + W 0 := rfl
  have u2 : cB W wUp 2 = 0 + W 0 + W 1 := rfl
  have u3 : cB W wUp 3 = 0 + W 0 + W 1 + W 2 := rfl
  have u4 : cB W wUp 4 = 0 + W 0 + W 1 + W 2 + W 3 := rfl
  have u5 : cB W wUp 5 = 0 + W 0 + W 1 + W 2 + W 3 + W 4 := rfl
  have u6 : cB W wUp 6 = 0 + W 0 + W 1 + W 2 + W 3 + W 4 + W 5 := rfl
  have u7 : cB W wUp 7 = 0 + W 0 + W 1 + W 2 + W 3 + W 4 + W 5 + W 6 := rfl
  have u8 : cB W wUp 8 = 0 + W 0 + W 1 + W 2 + W 3 + W 4 + W 5 + W 6 + W 7 := rfl
  have u9 : cB W wUp 9 = 0 + W 0 + W 1 + W 2 + W 3 + W 4 + W 5 + W 6 + W 7 + W 8 := rfl
  have d0 : cB W wDn 0 = 0 := rfl
  have d1 : cB W wDn 1 = 0 + W 9 := rfl
  have d2 : cB W wDn 2 = 0 + W 9 + W 8 := rfl
  have d3 : cB W wDn 3 = 0 + W 9 + W 8 + W 7 := rfl
  have d4 : cB W wDn 4 = 0 + W 9 + W 8 + W 7 + W 6 := rfl
  have d5 : cB W wDn 5 = 0 + W 9 + W 8 + W 7 + W 6 + W 5 := rfl
  have d6 : cB W wDn 6 = 0 + W 9 + W 8 + W 7 + W 6 + W 5 + W 4 := rfl
  have d7 : cB W wDn 7 = 0 + W 9 + W 8 + W 7 + W 6 + W 5 + W 4 + W 3 := rfl
  have d8 : cB W wDn 8 = 0 + W 9 + W 8 + W 7 + W 6 + W 5 + W 4 + W 3 + W 2 := rfl
  have d9 : cB W wDn 9 = 0 + W 9 + W 8 + W 7 + W 6 + W 5 + W 4 + W 3 + W 2 + W 1 := rfl
  rcases h with rfl | rfl | rfl | rfl | rfl | rfl | rfl | rfl | rfl | rfl
  · show cB W wDn 9 + (cB W wUp 0 + W 0) = _; omega
  · show cB W wDn 8 + (cB W wUp 1 + W 1) = _; omega
  · show cB W wDn 7 + (cB W wUp 2 + W 2) = _; omega
  · show cB W wDn 6 + (cB W wUp 3 + W 3) = _; omega
  · show cB W wDn 5 + (cB W wUp 4 + W 4) = _; omega
  · show cB W wDn 4 + (cB W wUp 5 + W 5) = _; omega
  · show cB W wDn 3 + (cB W wUp 6 + W 6) = _; omega
  · show cB W wDn 2 + (cB W wUp 7 + W 7) = _; omega
  · show cB W wDn 1 + (cB W wUp 8 + W 8) = _; omega
  · show cB W wDn 0 + (cB W wUp 9 + W 9) = _; omega
theorem day_out {W : Nat → Nat} {n k : Nat} (hs : n ≤ sN W 10) (hA : sN W 10 < 100000) (hk : k ≤ n) : woB W wUp 2147483647 10 &&& ((woB W wUp k 10 ||| woB W wDn (n - k) 10) ^^^ (-1)) = oS W k (sN W 10 - (n - k)) 10 := by
  apply b_ext
  intro j hj
  have hu : ∀ i, i < 10 → wUp i < 10 := fun i hi => hi
  have hd : ∀ i, i < 10 → wDn i < 10 := fun i hi => by show 9 - i < 10; omega
  have e1 := wo_bt (W := W) (wt := wUp) (L := 2147483647) 10 (by omega) hu j hj
  have e2 := wo_bt (W := W) (wt := wUp) (L := k) 10 (by omega) hu j hj
  have e3 := wo_bt (W := W) (wt := wDn) (L := n - k) 10 (by omega) hd j hj
  have e4 := oS_bt (W := W) (k := k) (t := sN W 10 - (n - k)) 10 (by omega) j hj
  rw [Bool.eq_iff_iff, b_and, b_xor, b_or, b_m1 j hj, Bool.xor_true, Bool.and_eq_true, Bool.not_eq_true', Bool.or_eq_false_iff, e1, e4, ← Bool.not_eq_true, ← Bool.not_eq_true, e2, e3]
  by_cases hj10 : j < 10
  · have hh := cB_ud W j hj10
    constructor
    · rintro ⟨⟨i, h1, h2, h3, h4⟩, h5, h6⟩
      have h2 : i = j := h2
      subst h2
      have h4 : 0 < W i := h4
      have q5 : ¬ cB W wUp i < k := fun q => h5 ⟨i, h1, rfl, q, h4⟩
      have q6 : ¬ cB W wDn (9 - i) < n - k := fun q => h6 ⟨9 - i, by omega, (show 9 - (9 - i) = i by omega), q, by show 0 < W (9 - (9 - i)); rw [show 9 - (9 - i) = i by omega]; exact h4⟩
      exact ⟨h1, h4, by omega⟩
    · rintro ⟨-, h4, h5⟩
      refine ⟨⟨j, hj10, rfl, by omega, h4⟩, ?_, ?_⟩
      · rintro ⟨i, h1, h2, h3, -⟩
        have h2 : i = j := h2
        subst h2
        omega
      · rintro ⟨i, h1, h2, h3, -⟩
        have h2 : 9 - i = j := h2
        have h3' : cB W wDn (9 - j) < n - k := by rw [show 9 - j = i by omega]; exact h3
        omega
  · constructor
    · rintro ⟨⟨i, h1, h2, -⟩, -⟩
      have h2 : i = j := h2
      omega
    · rintro ⟨h, -⟩; omega
/-! gains in least terms -/
theorem gcd10 {g m : Nat} {b : Int32} (hg : g < 1000000) (hm : m < 1000000) (hm0 : 0 < m) : (if b = 0 then lN g else lN m) / lN (Nat.gcd g m) = (if b = 0 then lN (10 * g) else lN (10 * m)) / lN (Nat.gcd (10 * g) (10 * m)) := by
  have h0 : 0 < Nat.gcd g m := Nat.gcd_pos_of_pos_right _ hm0
  have h1 : Nat.gcd g m ≤ m := Nat.gcd_le_right _ hm0
  rw [Nat.gcd_mul_left]
  by_cases e : b = 0
  · rw [if_pos e, if_pos e, pk_lDiv (by omega) h0 (by omega), pk_lDiv (by omega) (by omega) (by omega), Nat.mul_div_mul_left _ _ (by omega)]
  · rw [if_neg e, if_neg e, pk_lDiv (by omega) h0 (by omega), pk_lDiv (by omega) (by omega) (by omega), Nat.mul_div_mul_left _ _ (by omega)]
theorem abs_l {v : Int64} (h1 : -2147483648 < v.toInt) (h2 : v.toInt < 2147483648) : ∃ g, g < 2147483648 ∧ (if 0 < v then v else -v) = lN g := by
  by_cases c : 0 < v
  · rw [if_pos c]
    rw [Int64.lt_iff_toInt_lt, show ((0 : Int64).toInt) = 0 from rfl] at c
    refine ⟨v.toInt.toNat, by omega, Int64.toInt_inj.mp ?_⟩
    rw [pk_lT (by omega)]
    omega
  · rw [if_neg c]
    rw [Int64.lt_iff_toInt_lt, show ((0 : Int64).toInt) = 0 from rfl] at c
    refine ⟨(-v.toInt).toNat, by omega, Int64.toInt_inj.mp ?_⟩
    rw [pk_lT (by omega), Int64.toInt_neg]
    rw [Int.bmod_eq_of_le (by omega) (by omega)]
    omega
theorem lk_abs {W : Nat → Nat} {k L : Nat} (hk : k ≤ 30) (hL : L ≤ 99) : ∃ g, g < 2 ^ 31 ∧ (if 0 < (lkU W (nI L) k).toInt64 then (lkU W (nI L) k).toInt64 else -(lkU W (nI L) k).toInt64) = lN g := by
  have hx := lk_x (a := gG W wUp k 10) (L := L) (K := k) (gG300 hk _) hL hk
  have hg := gG300 (W := W) (wt := wUp) hk 10
  have e : (lkU W (nI L) k).toInt64.toInt = 10 * (gG W wUp k 10 : Int) - ((L * k : Nat) : Int) := by
    rw [Int32.toInt_toInt64]; exact hx.1
  exact abs_l (by rw [e]; omega) (by rw [e]; omega)

