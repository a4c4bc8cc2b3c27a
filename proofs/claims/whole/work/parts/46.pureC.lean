/-! PURE: clips; what the tunes hold -/
theorem tun_n {u : Nat → Int32} (h : tun u) : (∃ n, n ≤ 9 ∧ u 0 = nI n) ∧ (∃ n, n ≤ 99 ∧ u 1 = nI n) ∧ (∃ n, n ≤ 99 ∧ u 2 = nI n) ∧ (∃ n, n ≤ 10 ∧ u 3 = nI n) ∧ (∃ n, n ≤ 20 ∧ u 4 = nI n) ∧ (∃ n, 1 ≤ n ∧ n ≤ 99 ∧ u 5 = nI n) := by
  have g0 : ∀ j, j < 6 → ¬ u j < 0 := fun j hj => Int32.not_lt.mpr (Int32.le_trans ((by decide +kernel : ∀ j, j < 6 → (0 : Int32) ≤ tuL j) j hj) (h j hj).1)
  refine ⟨nI_of2 (M := 9) (by decide) (g0 0 (by omega)) (h 0 (by omega)).2, nI_of2 (M := 99) (by decide) (g0 1 (by omega)) (h 1 (by omega)).2, nI_of2 (M := 99) (by decide) (g0 2 (by omega)) (h 2 (by omega)).2, nI_of2 (M := 10) (by decide) (g0 3 (by omega)) (h 3 (by omega)).2, nI_of2 (M := 20) (by decide) (g0 4 (by omega)) (h 4 (by omega)).2, ?_⟩
  obtain ⟨n, hn, e⟩ := nI_of2 (M := 99) (n := 99) (by decide) (g0 5 (by omega)) (h 5 (by omega)).2
  have h1 : (nI 1) ≤ u 5 := (h 5 (by omega)).1
  rw [e, nI_leI (by omega) (by omega)] at h1
  exact ⟨n, h1, hn, e⟩
theorem p10_l : ∀ k, p10 k = lN (10 ^ k)
  | 0 => rfl
  | k + 1 => by
    show p10 k * 10 = _
    rw [p10_l k, show (10 : Int64) = lN 10 from rfl, lN_mul, Nat.pow_succ]
def wB : Nat → Nat
  | 0 => 10
  | k + 1 => 10 * wB k + 200 * 10 ^ k
theorem wB_ok : ∀ k, k ≤ 9 → 10 * 10 ^ k ≤ wB k ∧ wB k < 1099511627776 ∧ 10 ^ k < 4294967296 := by decide +kernel
theorem asI_v {u : Nat → Int32} {w : Nat} (hw : w ≤ 9) : ∃ a, 1 ≤ a ∧ a ≤ 10 ∧ asI u w = nI a := by
  unfold asI
  by_cases c : u 0 < nI w
  · rw [if_pos c]; exact ⟨10 - w, by omega, by omega, pk_sub (a := 10) (by omega)⟩
  · rw [if_neg c]; exact ⟨10, by omega, by omega, rfl⟩
theorem clS_v {u : Nat → Int32} {k a f r s : Nat} (hk : k ≤ 8) (h2 : u 2 = nI f) (h3 : u 3 = nI r) (h4 : u 4 = nI s) (hf : f ≤ 99) (hr : r ≤ 10) (hs : s ≤ 20) : clS u (8 - k) (lN a) = lN ((10 - r) * (s * 10 ^ k + a)) - lN (r * f * 10 ^ k) := by
  unfold clS
  rw [show 8 - (8 - k) = k by omega, h2, h3, h4, p10_l, nI_l (n := r) (by omega), nI_l (n := s) (by omega), nI_l (n := f) (by omega), show (10 : Int64) = lN 10 from rfl, lN_sub hr, lN_mul s, lN_add, lN_mul (10 - r), lN_mul r, lN_mul (r * f)]
theorem wr_v {u : Nat → Int32} (h : tun u) : ∀ k, k ≤ 9 → ∃ a, 1 ≤ a ∧ a ≤ wB k ∧ wrW u k = lN a
  | 0, _ => by
    obtain ⟨a, h1, h2, e⟩ := asI_v (u := u) (w := 9) (by omega)
    exact ⟨a, h1, h2, by show (asI u 9).toInt64 = _; rw [e, nI_l (by omega)]⟩
  | k + 1, hk => by
    obtain ⟨a, h1, h2, e⟩ := wr_v h k (by omega)
    obtain ⟨c, g1, g2, ec⟩ := asI_v (u := u) (w := 8 - k) (by omega)
    obtain ⟨-, -, ⟨f, hf, ef⟩, ⟨r, hr, er⟩, ⟨s, hs, es⟩, -⟩ := tun_n h
    have b0 := wB_ok k (by omega)
    have b1 := wB_ok (k + 1) hk
    have eP : (asI u (8 - k)).toInt64 * p10 (k + 1) = lN (c * 10 ^ (k + 1)) := by rw [ec, nI_l (by omega), p10_l, lN_mul]
    have eP1 : c * 10 ^ (k + 1) ≤ 10 * 10 ^ (k + 1) := Nat.mul_le_mul_right _ g2
    have eP0 : 0 < c * 10 ^ (k + 1) := Nat.mul_pos g1 (Nat.pow_pos (by omega))
    have X1 : s * 10 ^ k ≤ 20 * 10 ^ k := Nat.mul_le_mul_right _ hs
    have X2 : (10 - r) * (s * 10 ^ k + a) ≤ 10 * (s * 10 ^ k + a) := Nat.mul_le_mul_right _ (by omega)
    have X3 : r * f * 10 ^ k ≤ 10 * 99 * 10 ^ k := Nat.mul_le_mul_right _ (Nat.mul_le_mul hr hf)
    have w1 : wB (k + 1) = 10 * wB k + 200 * 10 ^ k := rfl
    show ∃ b, 1 ≤ b ∧ b ≤ wB (k + 1) ∧ (if clS u (8 - k) (wrW u k) < (asI u (8 - k)).toInt64 * p10 (k + 1) then (asI u (8 - k)).toInt64 * p10 (k + 1) else clS u (8 - k) (wrW u k)) = lN b
    rw [e, clS_v (by omega) ef er es hf hr hs, eP]
    generalize (10 - r) * (s * 10 ^ k + a) = X at *
    generalize r * f * 10 ^ k = Y at *
    generalize c * 10 ^ (k + 1) = P at *
    generalize s * 10 ^ k = Q at *
    generalize 10 ^ (k + 1) = T1 at *
    generalize 10 ^ k = T at *
    by_cases hc : lN X - lN Y < lN P
    · rw [if_pos hc]; exact ⟨P, eP0, by omega, rfl⟩
    · rw [if_neg hc]
      have hYX : Y ≤ X := by
        apply Classical.byContradiction
        intro hn
        apply hc
        rw [Int64.lt_iff_toInt_lt, j64_sub (p := (X : Int) - Y) (by rw [pk_lT (by omega), pk_lT (by omega)]) (by omega) (by omega), pk_lT (by omega)]
        omega
      rw [lN_sub hYX] at hc ⊢
      rw [pk_lLT (by omega) (by omega)] at hc
      exact ⟨X - Y, by omega, by omega, rfl⟩
theorem clip_a {u : Nat → Int32} (h : tun u) {p : Nat} (hp : p < 10) : ∃ a b : Nat, (if 0 < wrW u (9 - p) then wrW u (9 - p) else -wrW u (9 - p)) = lN a ∧ a < 2 ^ 63 ∧ p10 (9 - p) = lN b ∧ 0 < b ∧ b < 2 ^ 63 := by
  obtain ⟨a, h1, h2, e⟩ := wr_v h (9 - p) (by omega)
  have b0 := wB_ok (9 - p) (by omega)
  refine ⟨a, 10 ^ (9 - p), ?_, by omega, p10_l _, Nat.pow_pos (by omega), by omega⟩
  rw [e]
  exact if_pos (show lN 0 < lN a from (pk_lLT (by omega) (by omega)).mpr h1)

