/-! PURE: typed bytes -/
theorem wb_tb (n : Nat) : (lN n).toBitVec = BitVec.ofNat 64 n := rfl
theorem wb_inj {a b : Int64} (h : a.toBitVec = b.toBitVec) : a = b := Int64.toBitVec_inj.mp h
theorem wb_tn {n : Nat} (h : n < 2 ^ 64) : (lN n).toBitVec.toNat = n := by rw [wb_tb, BitVec.toNat_ofNat, Nat.mod_eq_of_lt h]
theorem wb_of (x : Int64) : ∃ n, n < 2 ^ 64 ∧ x = lN n := ⟨x.toBitVec.toNat, x.toBitVec.isLt, wb_inj (by rw [wb_tb]; simp)⟩
theorem wb_c : ∀ k, k < 64 → ((nI k).toInt64 &&& 63) = lN k := by decide +kernel
theorem wb_cu : ∀ k, k < 64 → ((nI k).toInt64.toUInt64 &&& Int64.toUInt64 63) = UInt64.ofNat k := by decide +kernel
theorem wb_sm : ∀ k, k < 64 → (BitVec.ofNat 64 k).smod 64 = BitVec.ofNat 64 k := by decide +kernel
theorem wb_lt2 {a b : Nat} (h : a < b) : 2 ^ a < 2 ^ b := Nat.pow_lt_pow_right (by decide) h
theorem wb_shr {n k : Nat} (hn : n < 2 ^ 64) (hk : k < 64) : ((lN n).toUInt64 >>> ((nI k).toInt64.toUInt64 &&& Int64.toUInt64 63)).toInt64 = lN (n / 2 ^ k) := by
  rw [wb_cu k hk]
  apply wb_inj
  apply BitVec.eq_of_toNat_eq
  show ((lN n).toUInt64 >>> UInt64.ofNat k).toNat = (BitVec.ofNat 64 _).toNat
  have h1 : (UInt64.ofNat k).toNat = k := by
    show (BitVec.ofNat 64 k).toNat = k
    rw [BitVec.toNat_ofNat, Nat.mod_eq_of_lt (by omega)]
  have h2 : (lN n).toUInt64.toNat = n := wb_tn hn
  rw [UInt64.toNat_shiftRight, h1, h2, Nat.mod_eq_of_lt hk, Nat.shiftRight_eq_div_pow, BitVec.toNat_ofNat, Nat.mod_eq_of_lt (Nat.lt_of_le_of_lt (Nat.div_le_self _ _) hn)]
theorem wb_and {a b : Nat} (ha : a < 2 ^ 64) (hb : b < 2 ^ 64) : lN a &&& lN b = lN (a &&& b) := by
  apply wb_inj
  rw [Int64.toBitVec_and, wb_tb, wb_tb, wb_tb]
  apply BitVec.eq_of_toNat_eq
  rw [BitVec.toNat_and, BitVec.toNat_ofNat, BitVec.toNat_ofNat, BitVec.toNat_ofNat, Nat.mod_eq_of_lt ha, Nat.mod_eq_of_lt hb, Nat.mod_eq_of_lt (Nat.and_lt_two_pow _ hb)]
theorem wb_mask {n k : Nat} (hn : n < 2 ^ 64) (hk : k < 64) : lN n &&& lN (2 ^ k - 1) = lN (n % 2 ^ k) := by
  rw [wb_and hn (by have := wb_lt2 hk; omega), Nat.and_two_pow_sub_one_eq_mod]
theorem hi_255 : ∀ i, i < 64 → 8 ≤ i → (255 : Int64).toBitVec.getLsbD i = false := by decide +kernel
theorem sh_eqv (v : Int64) {k : Nat} (hk : k ≤ 56) : (v >>> ((nI k).toInt64 &&& 63)) &&& 255 = (v.toUInt64 >>> ((nI k).toInt64.toUInt64 &&& Int64.toUInt64 63)).toInt64 &&& 255 := by
  apply wb_inj
  apply BitVec.eq_of_getLsbD_eq
  intro i hi
  rw [Int64.toBitVec_and, Int64.toBitVec_and, BitVec.getLsbD_and, BitVec.getLsbD_and]
  by_cases h8 : i < 8
  · congr 1
    rw [wb_c k (by omega), wb_cu k (by omega), Int64.toBitVec_shiftRight, wb_tb, wb_sm k (by omega)]
    show (v.toBitVec.sshiftRight (BitVec.ofNat 64 k).toNat).getLsbD i = (v.toUInt64 >>> UInt64.ofNat k).toBitVec.getLsbD i
    rw [UInt64.toBitVec_shiftRight]
    show _ = (v.toBitVec >>> ((BitVec.ofNat 64 k) % 64).toNat).getLsbD i
    have h1 : (BitVec.ofNat 64 k).toNat = k := by rw [BitVec.toNat_ofNat, Nat.mod_eq_of_lt (by omega)]
    have h2 : ((BitVec.ofNat 64 k) % 64).toNat = k := by
      rw [BitVec.toNat_umod, h1]
      exact Nat.mod_eq_of_lt (show k < 64 by omega)
    rw [h1, h2, BitVec.getLsbD_sshiftRight, BitVec.getLsbD_ushiftRight, if_pos (by omega), decide_eq_false (by omega)]
    simp
  · rw [hi_255 i hi (by omega), Bool.and_false, Bool.and_false]
/-- the byte i of v -/
def vB (v : Int64) (i : Nat) : Nat := v.toBitVec.toNat / 2 ^ (8 * i) % 256
theorem vB_lt (v : Int64) (i : Nat) : vB v i < 256 := Nat.mod_lt _ (by omega)
theorem lsb_v (v : Int64) {i : Nat} (hi : i < 8) : (v.toUInt64 >>> ((8 * nI i).toInt64.toUInt64 &&& Int64.toUInt64 63)).toInt64 &&& 255 = lN (vB v i) := by
  obtain ⟨n, hn, rfl⟩ := wb_of v
  rw [show (8 : Int32) * nI i = nI (8 * i) from pk_mul 8 i, wb_shr hn (by omega), show (255 : Int64) = lN (2 ^ 8 - 1) from rfl, wb_mask (Nat.lt_of_le_of_lt (Nat.div_le_self _ _) hn) (by omega)]
  unfold vB
  rw [wb_tn hn]
theorem xB_v (v : Int64) {i : Nat} (hi : i < 8) : xB v i = nI (vB v i) := by
  unfold xB
  rw [lsb_v v hi, lN_i]
theorem mB_v (v : Int64) {i : Nat} (hi : i < 8) : vp_nar .byte ((v >>> ((8 * nI i).toInt64 &&& 63)) &&& 255).toInt32.toInt8.toInt32 = byt (vB v i) := by
  rw [pk_vb, show (8 : Int32) * nI i = nI (8 * i) from pk_mul 8 i, sh_eqv v (by omega), ← show (8 : Int32) * nI i = nI (8 * i) from pk_mul 8 i, lsb_v v hi, lN_i]
  rfl
theorem tyX_at {bx : Nat → Int32} {len n : Nat} {v : Int64} : ∀ c j, tyX bx len v n c j = if len ≤ j ∧ j < len + c then xB v (n - 1 - (j - len)) else bx j
  | 0, j => by rw [if_neg (by omega)]; rfl
  | c + 1, j => by
    show upd (tyX bx len v n c) (len + c) (xB v (n - 1 - c)) j = _
    by_cases e : j = len + c
    · subst e
      rw [pk_us, if_pos (by omega), Nat.add_sub_cancel_left]
    · rw [pk_un e, tyX_at c j]
      by_cases q : len ≤ j ∧ j < len + c
      · rw [if_pos q, if_pos (by omega)]
      · rw [if_neg q, if_neg (by omega)]
theorem tyM_at {bm : Nat → Int32} {len n : Nat} {v : Int64} : ∀ c j, tyM bm len v n c j = if len ≤ j ∧ j < len + c then vp_nar .byte ((v >>> ((8 * nI (n - 1 - (j - len))).toInt64 &&& 63)) &&& 255).toInt32.toInt8.toInt32 else bm j
  | 0, j => by rw [if_neg (by omega)]; rfl
  | c + 1, j => by
    show upd (tyM bm len v n c) (len + c) (vp_nar .byte ((v >>> ((8 * nI (n - 1 - c)).toInt64 &&& 63)) &&& 255).toInt32.toInt8.toInt32) j = _
    by_cases e : j = len + c
    · subst e
      rw [pk_us, if_pos (by omega), Nat.add_sub_cancel_left]
    · rw [pk_un e, tyM_at c j]
      by_cases q : len ≤ j ∧ j < len + c
      · rw [if_pos q, if_pos (by omega)]
      · rw [if_neg q, if_neg (by omega)]
theorem txt_ty {len m : Nat} {bx bm : Nat → Int32} {v : Int64} (hm : m ≤ 8) (h : txt len bx bm) : txt (len + m) (tyX bx len v m m) (tyM bm len v m m) := by
  obtain ⟨t, ht⟩ := h
  refine ⟨fun j => if len ≤ j then vB v (m - 1 - (j - len)) else t j, fun j hj => ?_⟩
  rw [tyX_at, tyM_at]
  by_cases c : len ≤ j
  · rw [if_pos ⟨c, hj⟩, if_pos ⟨c, hj⟩, xB_v v (by omega), mB_v v (by omega)]
    show _ = nI (if len ≤ j then _ else _) ∧ _ = byt (if len ≤ j then _ else _) ∧ (if len ≤ j then _ else _) < 256
    rw [if_pos c]
    exact ⟨rfl, rfl, vB_lt _ _⟩
  · rw [if_neg (fun q => c q.1), if_neg (fun q => c q.1)]
    show _ = nI (if len ≤ j then _ else _) ∧ _ = byt (if len ≤ j then _ else _) ∧ (if len ≤ j then _ else _) < 256
    rw [if_neg c]
    exact ht j (by omega)

