/-! THE REFERENCE (X9): word, next, due -/
section
variable {Γ : gT} {l : Launch} {as : List Nat} {h : aH} {m : Nat} {tc : Int64} {r : Nat → Nat} {z : Nat → Int32} {t : Nat → Nat} {len a s e : Nat} {bm : Nat → Int32}
theorem upd_self {f : Nat → Int32} {k : Nat} {v : Int32} (hv : f k = v) : upd f k v = f := by
  funext j
  by_cases hj : j = k
  · rw [hj, pk_us, hv]
  · rw [pk_un hj]
theorem n_word (hse : s ≤ e) (he : e ≤ len) (hl : len ≤ 300) (hM : hat as h m (mo tc r z)) (h8 : z 8 = nI e) (h9 : z 9 = nI s) (h11 : z 11 = 0) (hb : hat as h (r 1) (aB Γ 300 bm)) (ht : ∀ j, j < len → bm j = byt (t j) ∧ t j < 256) : Det Γ l mX9_word rX9_word [.ref m] as h none (hset h m (mo tc r (upd (upd z 10 (nI (wSo (wTok t s e)))) 11 (nI (wVa (wTok t s e)))))) := by
  have e1 := hat_ao hb hM
  have xM : ∀ v : Nat → Int32, hat as (hset h m (mo tc r v)) m (mo tc r v) := fun v => hat_set hM
  have xb : ∀ v : Nat → Int32, hat as (hset h m (mo tc r v)) (r 1) (aB Γ 300 bm) := fun v => hat_ne hb e1
  have sp : ∀ i, i < 5 → Det Γ l mX9_isSpelled rX9_isSpelled [.ref m, .int (nI (sLn i)), .int (nI (sCN i 0)), .int (nI (sCN i 1)), .int (nI (sCN i 2)), .int (nI (sCN i 3))] as (hset h m (mo tc r (upd z 10 5))) (some (.int (bI (wIs t s e i)))) (hset h m (mo tc r (upd z 10 5))) := fun i hi => n_isSpelled hi hse he hl (xM _) h8 h9 (xb _) ht
  have fin : ∀ (k : Nat) (x y : Int32), wTok t s e = k → x = nI (wSo k) → y = nI (wVa k) → hset (hset (hset h m (mo tc r (upd z 10 5))) m (mo tc r (upd (upd z 10 5) 10 x))) m (mo tc r (upd (upd (upd z 10 5) 10 x) 11 y)) = hset h m (mo tc r (upd (upd z 10 (nI (wSo (wTok t s e)))) 11 (nI (wVa (wTok t s e))))) := by
    intro k x y hk hx hy
    rw [hset_hset, hset_hset, hk, upd_upd, hx, hy]
  refine Con.of (by decide +kernel) rfl rfl (Nat.le_of_ble_eq_true rfl) ?_
  refine q_aload_n dX9_word_0 rfl rfl ?_
  refine q_iconst (v := 5) dX9_word_1 rfl ?_
  refine q_put dX9_word_2 pX9_word_76 (hM) rfl rfl (Nat.le_of_ble_eq_true rfl) ?_
  refine V.hp (h' := hset h m (mo tc r (upd z 10 5))) ?_ rfl
  refine q_aload_n dX9_word_5 rfl rfl ?_
  refine q_iconst (v := 4) dX9_word_6 rfl ?_
  refine q_bipush (v := 116) dX9_word_7 rfl ?_
  refine q_bipush (v := 97) dX9_word_9 rfl ?_
  refine q_bipush (v := 108) dX9_word_11 rfl ?_
  refine q_bipush (v := 101) dX9_word_13 rfl ?_
  refine q_callVd dX9_word_15 wX9_word_79 (sp 0 (by omega)) (xM _) ⟨_, _, rfl⟩ rfl rfl (Nat.le_of_ble_eq_true rfl) ⟨⟨Nat.le_of_ble_eq_true rfl, Nat.le_of_ble_eq_true rfl⟩, Nat.le_of_ble_eq_true rfl, Nat.le_of_ble_eq_true rfl⟩ ?_
  refine q_if_eq 34 dX9_word_18 (by decide) (fun cA => ?_) (fun cA => ?_)
  · refine q_aload_n dX9_word_34 rfl rfl ?_
    refine q_iconst (v := 4) dX9_word_35 rfl ?_
    refine q_bipush (v := 108) dX9_word_36 rfl ?_
    refine q_bipush (v := 111) dX9_word_38 rfl ?_
    refine q_bipush (v := 111) dX9_word_40 rfl ?_
    refine q_bipush (v := 107) dX9_word_42 rfl ?_
    refine q_callVd dX9_word_44 wX9_word_79 (sp 1 (by omega)) (xM _) ⟨_, _, rfl⟩ rfl rfl (Nat.le_of_ble_eq_true rfl) ⟨⟨Nat.le_of_ble_eq_true rfl, Nat.le_of_ble_eq_true rfl⟩, Nat.le_of_ble_eq_true rfl, Nat.le_of_ble_eq_true rfl⟩ ?_
    refine q_if_eq 63 dX9_word_47 (by decide) (fun cC => ?_) (fun cC => ?_)
    · refine q_aload_n dX9_word_63 rfl rfl ?_
      refine q_iconst (v := 4) dX9_word_64 rfl ?_
      refine q_bipush (v := 115) dX9_word_65 rfl ?_
      refine q_bipush (v := 111) dX9_word_67 rfl ?_
      refine q_bipush (v := 109) dX9_word_69 rfl ?_
      refine q_bipush (v := 101) dX9_word_71 rfl ?_
      refine q_callVd dX9_word_73 wX9_word_79 (sp 2 (by omega)) (xM _) ⟨_, _, rfl⟩ rfl rfl (Nat.le_of_ble_eq_true rfl) ⟨⟨Nat.le_of_ble_eq_true rfl, Nat.le_of_ble_eq_true rfl⟩, Nat.le_of_ble_eq_true rfl, Nat.le_of_ble_eq_true rfl⟩ ?_
      refine q_if_eq 92 dX9_word_76 (by decide) (fun cD => ?_) (fun cD => ?_)
      · refine q_aload_n dX9_word_92 rfl rfl ?_
        refine q_iconst (v := 5) dX9_word_93 rfl ?_
        refine q_bipush (v := 108) dX9_word_94 rfl ?_
        refine q_bipush (v := 105) dX9_word_96 rfl ?_
        refine q_bipush (v := 103) dX9_word_98 rfl ?_
        refine q_bipush (v := 104) dX9_word_100 rfl ?_
        refine q_callVd dX9_word_102 wX9_word_79 (sp 3 (by omega)) (xM _) ⟨_, _, rfl⟩ rfl rfl (Nat.le_of_ble_eq_true rfl) ⟨⟨Nat.le_of_ble_eq_true rfl, Nat.le_of_ble_eq_true rfl⟩, Nat.le_of_ble_eq_true rfl, Nat.le_of_ble_eq_true rfl⟩ ?_
        refine q_if_eq 121 dX9_word_105 (by decide) (fun cE => ?_) (fun cE => ?_)
        · refine q_aload_n dX9_word_121 rfl rfl ?_
          refine q_iconst (v := 5) dX9_word_122 rfl ?_
          refine q_bipush (v := 104) dX9_word_123 rfl ?_
          refine q_bipush (v := 101) dX9_word_125 rfl ?_
          refine q_bipush (v := 97) dX9_word_127 rfl ?_
          refine q_bipush (v := 118) dX9_word_129 rfl ?_
          refine q_callVd dX9_word_131 wX9_word_79 (sp 4 (by omega)) (xM _) ⟨_, _, rfl⟩ rfl rfl (Nat.le_of_ble_eq_true rfl) ⟨⟨Nat.le_of_ble_eq_true rfl, Nat.le_of_ble_eq_true rfl⟩, Nat.le_of_ble_eq_true rfl, Nat.le_of_ble_eq_true rfl⟩ ?_
          refine q_if_eq 147 dX9_word_134 (by decide) (fun cF => ?_) (fun cF => ?_)
          · have q : wTok t s e = 1 := by unfold wTok; rw [if_neg (by rw [bI_0.mp cA]; decide), if_neg (by rw [bI_0.mp cC]; decide), if_neg (by rw [bI_0.mp cD]; decide), if_neg (by rw [bI_0.mp cE]; decide), if_neg (by rw [bI_0.mp cF]; decide)]
            exact q_vret dX9_word_147 rfl (Nat.zero_le _) (Nat.zero_le _) ⟨rfl, rfl, by rw [q, show nI (wVa 1) = 0 from rfl, show nI (wSo 1) = 5 from rfl, upd_self (f := upd z 10 5) (k := 11) (v := 0) h11]⟩
          · have q : wTok t s e = 8 := by unfold wTok; rw [if_neg (by rw [bI_0.mp cA]; decide), if_neg (by rw [bI_0.mp cC]; decide), if_neg (by rw [bI_0.mp cD]; decide), if_neg (by rw [bI_0.mp cE]; decide), if_pos (bI_n.mp cF)]
            refine q_aload_n dX9_word_137 rfl rfl ?_
            refine q_iconst (v := 2) dX9_word_138 rfl ?_
            refine q_put dX9_word_139 pX9_word_76 (xM _) rfl rfl (Nat.le_of_ble_eq_true rfl) ?_
            refine q_aload_n dX9_word_142 rfl rfl ?_
            refine q_iconst (v := 1) dX9_word_143 rfl ?_
            refine q_put dX9_word_144 pX9_word_83 (hat_set (xM _)) rfl rfl (Nat.le_of_ble_eq_true rfl) ?_
            exact q_vret dX9_word_147 rfl (Nat.zero_le _) (Nat.zero_le _) ⟨rfl, rfl, fin 8 2 1 q rfl rfl⟩
        · have q : wTok t s e = 7 := by unfold wTok; rw [if_neg (by rw [bI_0.mp cA]; decide), if_neg (by rw [bI_0.mp cC]; decide), if_neg (by rw [bI_0.mp cD]; decide), if_pos (bI_n.mp cE)]
          refine q_aload_n dX9_word_108 rfl rfl ?_
          refine q_iconst (v := 2) dX9_word_109 rfl ?_
          refine q_put dX9_word_110 pX9_word_76 (xM _) rfl rfl (Nat.le_of_ble_eq_true rfl) ?_
          refine q_aload_n dX9_word_113 rfl rfl ?_
          refine q_iconst (v := 0) dX9_word_114 rfl ?_
          refine q_put dX9_word_115 pX9_word_83 (hat_set (xM _)) rfl rfl (Nat.le_of_ble_eq_true rfl) ?_
          refine q_goto 147 dX9_word_118 (by decide) ?_
          exact q_vret dX9_word_147 rfl (Nat.zero_le _) (Nat.zero_le _) ⟨rfl, rfl, fin 7 2 0 q rfl rfl⟩
      · have q : wTok t s e = 6 := by unfold wTok; rw [if_neg (by rw [bI_0.mp cA]; decide), if_neg (by rw [bI_0.mp cC]; decide), if_pos (bI_n.mp cD)]
        refine q_aload_n dX9_word_79 rfl rfl ?_
        refine q_iconst (v := 1) dX9_word_80 rfl ?_
        refine q_put dX9_word_81 pX9_word_76 (xM _) rfl rfl (Nat.le_of_ble_eq_true rfl) ?_
        refine q_aload_n dX9_word_84 rfl rfl ?_
        refine q_iconst (v := 2) dX9_word_85 rfl ?_
        refine q_put dX9_word_86 pX9_word_83 (hat_set (xM _)) rfl rfl (Nat.le_of_ble_eq_true rfl) ?_
        refine q_goto 147 dX9_word_89 (by decide) ?_
        exact q_vret dX9_word_147 rfl (Nat.zero_le _) (Nat.zero_le _) ⟨rfl, rfl, fin 6 1 2 q rfl rfl⟩
    · have q : wTok t s e = 5 := by unfold wTok; rw [if_neg (by rw [bI_0.mp cA]; decide), if_pos (bI_n.mp cC)]
      refine q_aload_n dX9_word_50 rfl rfl ?_
      refine q_iconst (v := 1) dX9_word_51 rfl ?_
      refine q_put dX9_word_52 pX9_word_76 (xM _) rfl rfl (Nat.le_of_ble_eq_true rfl) ?_
      refine q_aload_n dX9_word_55 rfl rfl ?_
      refine q_iconst (v := 1) dX9_word_56 rfl ?_
      refine q_put dX9_word_57 pX9_word_83 (hat_set (xM _)) rfl rfl (Nat.le_of_ble_eq_true rfl) ?_
      refine q_goto 147 dX9_word_60 (by decide) ?_
      exact q_vret dX9_word_147 rfl (Nat.zero_le _) (Nat.zero_le _) ⟨rfl, rfl, fin 5 1 1 q rfl rfl⟩
  · have q : wTok t s e = 4 := by unfold wTok; rw [if_pos (bI_n.mp cA)]
    refine q_aload_n dX9_word_21 rfl rfl ?_
    refine q_iconst (v := 1) dX9_word_22 rfl ?_
    refine q_put dX9_word_23 pX9_word_76 (xM _) rfl rfl (Nat.le_of_ble_eq_true rfl) ?_
    refine q_aload_n dX9_word_26 rfl rfl ?_
    refine q_iconst (v := 0) dX9_word_27 rfl ?_
    refine q_put dX9_word_28 pX9_word_83 (hat_set (xM _)) rfl rfl (Nat.le_of_ble_eq_true rfl) ?_
    refine q_goto 147 dX9_word_31 (by decide) ?_
    exact q_vret dX9_word_147 rfl (Nat.zero_le _) (Nat.zero_le _) ⟨rfl, rfl, fin 4 1 0 q rfl rfl⟩
abbrev zA (z : Nat → Int32) (a s : Nat) (v : Nat) : Nat → Int32 := upd (upd (upd z 8 (nI a)) 9 (nI s)) 11 (nI v)
theorem n_next (ha : a ≤ len) (hl : len ≤ 300) (hM : hat as h m (mo tc r z)) (h2 : z 2 = nI len) (h8 : z 8 = nI a) (hb : hat as h (r 1) (aB Γ 300 bm)) (ht : ∀ j, j < len → bm j = byt (t j) ∧ t j < 256) : Det Γ l mX9_next rX9_next [.ref m] as h none (hset h m (mo tc r (zN z (nxF t len a)))) := by
  have e1 := hat_ao hb hM
  have xM : ∀ v : Nat → Int32, hat as (hset h m (mo tc r v)) m (mo tc r v) := fun v => hat_set hM
  have xb : ∀ v : Nat → Int32, hat as (hset h m (mo tc r v)) (r 1) (aB Γ 300 bm) := fun v => hat_ne hb e1
  have lett : ∀ (s : Nat) (S : sT), s < len → S = (skp isLt t len (len - s) s, s, wSo (wTok t s (skp isLt t len (len - s) s)), wVa (wTok t s (skp isLt t len (len - s) s))) → ∀ (d a' : Nat) (ls : List (Nat × Value)) (h' : aH), a' ≤ len → s ≤ a' → len - a' = d → skp isLt t len (len - s) s = skp isLt t len d a' → h' = hset h m (mo tc r (zA z a' s 0)) → lin ls [(0, .ref m)] → V Γ l mX9_next rX9_next (Zm Γ rX9_next (qD none as (hset h m (mo tc r (zN z S))))) 0 0 66 ls [] as h' := by
    intro s S hs hS
    have tail : ∀ (a' : Nat) (ls : List (Nat × Value)), s ≤ a' → a' ≤ len → skp isLt t len (len - s) s = a' → lin ls [(0, .ref m)] → V Γ l mX9_next rX9_next (Zm Γ rX9_next (qD none as (hset h m (mo tc r (zN z S))))) 0 0 96 ls [] as (hset h m (mo tc r (zA z a' s 0))) := by
      intro a' ls h1 h2 h3 hll
      rw [h3] at hS
      subst hS
      refine V.at ?_ hll
      refine q_aload_n dX9_next_96 rfl rfl ?_
      refine q_callVd dX9_next_97 wX9_next_94 (n_word (t := t) h1 h2 hl (xM _) rfl rfl rfl (xb _) ht) (xM _) ⟨_, _, rfl⟩ rfl rfl (Nat.le_of_ble_eq_true rfl) ⟨⟨Nat.le_of_ble_eq_true rfl, Nat.le_of_ble_eq_true rfl⟩, Nat.le_of_ble_eq_true rfl, Nat.le_of_ble_eq_true rfl⟩ ?_
      refine q_goto 247 dX9_next_100 (by decide) ?_
      exact q_vret dX9_next_247 rfl (Nat.zero_le _) (Nat.zero_le _) (⟨rfl, rfl, by rw [hset_hset]; rfl⟩)
    intro d
    induction d with
    | zero =>
      intro a' ls h' g1 g2 g3 g4 hh hll
      subst hh
      refine V.at ?_ hll
      refine q_aload_n dX9_next_66 rfl rfl ?_
      refine q_callVd dX9_next_67 wX9_next_86 (n_here_end (len := len) (a := a') (by omega) (by omega) (xM _) h2 rfl) (xM _) ⟨_, _, rfl⟩ rfl rfl (Nat.le_of_ble_eq_true rfl) ⟨⟨Nat.le_of_ble_eq_true rfl, Nat.le_of_ble_eq_true rfl⟩, Nat.le_of_ble_eq_true rfl, Nat.le_of_ble_eq_true rfl⟩ ?_
      refine q_i2l dX9_next_70 ?_
      refine q_ldc2 (v := 97) dX9_next_71 (by decide +kernel) ?_
      refine q_ldc2 (v := 122) dX9_next_74 (by decide +kernel) ?_
      refine q_callSd dX9_next_77 wX9_next_60 (n_in) rfl rfl (Nat.le_of_ble_eq_true rfl) ⟨⟨Nat.le_of_ble_eq_true rfl, Nat.le_of_ble_eq_true rfl⟩, Nat.le_of_ble_eq_true rfl, Nat.le_of_ble_eq_true rfl⟩ ?_
      refine q_if_eq 96 dX9_next_80 (by decide) (fun _ => ?_) (fun z => absurd (by decide) z)
      exact tail a' _ g2 g1 g4 ⟨rfl, trivial⟩
    | succ d ih =>
      intro a' ls h' g1 g2 g3 g4 hh hll
      subst hh
      refine V.at ?_ hll
      have hta := ht a' (by omega)
      refine q_aload_n dX9_next_66 rfl rfl ?_
      refine q_callVd dX9_next_67 wX9_next_86 (n_here (t := t) (len := len) (a := a') (by omega) hl (xM _) h2 rfl (xb _) ht) (xM _) ⟨_, _, rfl⟩ rfl rfl (Nat.le_of_ble_eq_true rfl) ⟨⟨Nat.le_of_ble_eq_true rfl, Nat.le_of_ble_eq_true rfl⟩, Nat.le_of_ble_eq_true rfl, Nat.le_of_ble_eq_true rfl⟩ ?_
      refine q_i2l dX9_next_70 ?_
      refine q_ldc2 (v := 97) dX9_next_71 (by decide +kernel) ?_
      refine q_ldc2 (v := 122) dX9_next_74 (by decide +kernel) ?_
      refine q_callSd dX9_next_77 wX9_next_60 (n_in) rfl rfl (Nat.le_of_ble_eq_true rfl) ⟨⟨Nat.le_of_ble_eq_true rfl, Nat.le_of_ble_eq_true rfl⟩, Nat.le_of_ble_eq_true rfl, Nat.le_of_ble_eq_true rfl⟩ ?_
      rw [inB_Lt _ hta.2]
      refine q_if_eq 96 dX9_next_80 (by decide) (fun cL => ?_) (fun cL => ?_)
      · exact tail a' _ g2 g1 (by rw [g4]; simp only [skp]; rw [if_neg (by rw [bI_0.mp cL]; exact fun q => absurd q.2 (by decide))]) ⟨rfl, trivial⟩
      · refine q_aload_n dX9_next_83 rfl rfl ?_
        refine q_dup dX9_next_84 rfl ?_
        refine q_get dX9_next_85 fX9_next_70 (xM _) rfl ?_
        refine q_iconst (v := 1) dX9_next_88 rfl ?_
        refine q_iadd dX9_next_89 ?_
        refine q_put dX9_next_90 pX9_next_70 (xM _) rfl rfl (Nat.le_of_ble_eq_true rfl) ?_
        refine q_goto 66 dX9_next_93 (by decide) ?_
        exact ih (a' + 1) _ _ (by omega) (by omega) (by omega) (by rw [g4]; simp only [skp]; rw [if_pos ⟨by omega, bI_n.mp cL⟩]) (by rw [hset_hset, show zA z a' s 0 8 = nI a' from rfl, nI_s]; rfl) ⟨rfl, trivial⟩
  have digs : ∀ (s : Nat) (S : sT), s < len → S = ((numM t len (len - s) s 0).1, s, (if 99 < (numM t len (len - s) s 0).2 ∨ (t s = 48 ∧ 1 < (numM t len (len - s) s 0).1 - s) then 5 else 3), (numM t len (len - s) s 0).2) → ∀ (d a' v : Nat) (ls : List (Nat × Value)) (h' : aH), a' ≤ len → s ≤ a' → v ≤ 999 → len - a' = d → numM t len (len - s) s 0 = numM t len d a' v → h' = hset h m (mo tc r (zA z a' s v)) → lin ls [(0, .ref m), (1, .int (nI (t s)))] → V Γ l mX9_next rX9_next (Zm Γ rX9_next (qD none as (hset h m (mo tc r (zN z S))))) 0 0 117 ls [] as h' := by
    intro s S hs hS
    have tail : ∀ (a' v : Nat) (ls : List (Nat × Value)), s ≤ a' → a' ≤ len → v ≤ 999 → numM t len (len - s) s 0 = (a', v) → lin ls [(0, .ref m), (1, .int (nI (t s)))] → V Γ l mX9_next rX9_next (Zm Γ rX9_next (qD none as (hset h m (mo tc r (zN z S))))) 0 0 182 ls [] as (hset h m (mo tc r (zA z a' s v))) := by
      intro a' v ls h1 h2 h3 h4 hll
      rw [h4] at hS
      have hts := ht s hs
      refine V.at ?_ hll
      have jn : ∀ p : Int32, p = nI S.2.2.1 → V Γ l mX9_next rX9_next (Zm Γ rX9_next (qD none as (hset h m (mo tc r (zN z S))))) 0 0 216 [(0, .ref m)] [.int p, .ref m] as (hset h m (mo tc r (zA z a' s v))) := by
        intro p hp
        subst hp
        refine q_put dX9_next_216 pX9_next_76 (xM _) rfl rfl (Nat.le_of_ble_eq_true rfl) ?_
        refine q_goto 247 dX9_next_219 (by decide) ?_
        exact q_vret dX9_next_247 rfl (Nat.zero_le _) (Nat.zero_le _) (⟨rfl, rfl, by rw [hset_hset, hS]; rfl⟩)
      have hp5 : (99 < v ∨ (t s = 48 ∧ 1 < a' - s)) → (5 : Int32) = nI S.2.2.1 := fun q => by rw [hS]; show (5 : Int32) = nI (if 99 < v ∨ (t s = 48 ∧ 1 < a' - s) then 5 else 3); rw [if_pos q]; rfl
      have hp3 : ¬ (99 < v ∨ (t s = 48 ∧ 1 < a' - s)) → (3 : Int32) = nI S.2.2.1 := fun q => by rw [hS]; show (3 : Int32) = nI (if 99 < v ∨ (t s = 48 ∧ 1 < a' - s) then 5 else 3); rw [if_neg q]; rfl
      refine q_aload_n dX9_next_182 rfl rfl ?_
      refine q_aload_n dX9_next_183 rfl rfl ?_
      refine q_get dX9_next_184 fX9_next_83 (xM _) rfl ?_
      refine q_bipush (v := 99) dX9_next_187 rfl ?_
      refine q_icmp_gt 211 dX9_next_189 (by decide) (fun cA => ?_) (fun cA => ?_)
      · refine q_iconst (v := 5) dX9_next_211 rfl ?_
        refine q_goto 216 dX9_next_212 (by decide) ?_
        exact V.at (jn 5 (hp5 (by first | exact Or.inr ⟨(nI_eq (by omega) (by omega)).mp cC, by by_cases q : 1 < a' - s; exact q; exact absurd (nI_le (a := a' - s) (b := 1) (by omega) (by omega)) cD⟩ | exact Or.inl ((nI_ltI (a := 99) (by omega) (by omega)).mp cA)))) ⟨rfl, trivial⟩
      · have hA : ¬ 99 < v := fun q => cA (nI_lt (a := 99) q (by omega))
        refine q_iload_n dX9_next_192 rfl rfl ?_
        refine q_bipush (v := 48) dX9_next_193 rfl ?_
        refine q_icmp_ne 215 dX9_next_195 (by decide) (fun cC => ?_) (fun cC => ?_)
        · refine q_iconst (v := 3) dX9_next_215 rfl ?_
          exact V.at (jn 3 (hp3 (by rintro (q | ⟨q1, q2⟩); exact hA q; first | exact cC (by rw [q1]; rfl) | exact absurd cD (nI_ge (a := 1) (b := a' - s) q2 (by omega))))) ⟨rfl, trivial⟩
        · have hc : t s = 48 := (nI_eq (by omega) (by omega)).mp cC
          refine q_aload_n dX9_next_198 rfl rfl ?_
          refine q_get dX9_next_199 fX9_next_70 (xM _) rfl ?_
          refine q_aload_n dX9_next_202 rfl rfl ?_
          refine q_get dX9_next_203 fX9_next_73 (xM _) rfl ?_
          refine q_isub dX9_next_206 ?_
          rw [show zA z a' s v 8 = nI a' from rfl, show zA z a' s v 9 = nI s from rfl, pk_sub h1]
          refine q_iconst (v := 1) dX9_next_207 rfl ?_
          refine q_icmp_le 215 dX9_next_208 (by decide) (fun cD => ?_) (fun cD => ?_)
          · refine q_iconst (v := 3) dX9_next_215 rfl ?_
            exact V.at (jn 3 (hp3 (by rintro (q | ⟨q1, q2⟩); exact hA q; first | exact cC (by rw [q1]; rfl) | exact absurd cD (nI_ge (a := 1) (b := a' - s) q2 (by omega))))) ⟨rfl, trivial⟩
          · refine q_iconst (v := 5) dX9_next_211 rfl ?_
            refine q_goto 216 dX9_next_212 (by decide) ?_
            exact V.at (jn 5 (hp5 (by first | exact Or.inr ⟨(nI_eq (by omega) (by omega)).mp cC, by by_cases q : 1 < a' - s; exact q; exact absurd (nI_le (a := a' - s) (b := 1) (by omega) (by omega)) cD⟩ | exact Or.inl ((nI_ltI (a := 99) (by omega) (by omega)).mp cA)))) ⟨rfl, trivial⟩
    intro d
    induction d with
    | zero =>
      intro a' v ls h' g1 g2 gv g3 g4 hh hll
      subst hh
      refine V.at ?_ hll
      refine q_aload_n dX9_next_117 rfl rfl ?_
      refine q_callVd dX9_next_118 wX9_next_86 (n_here_end (len := len) (a := a') (by omega) (by omega) (xM _) h2 rfl) (xM _) ⟨_, _, rfl⟩ rfl rfl (Nat.le_of_ble_eq_true rfl) ⟨⟨Nat.le_of_ble_eq_true rfl, Nat.le_of_ble_eq_true rfl⟩, Nat.le_of_ble_eq_true rfl, Nat.le_of_ble_eq_true rfl⟩ ?_
      refine q_i2l dX9_next_121 ?_
      refine q_ldc2 (v := 48) dX9_next_122 (by decide +kernel) ?_
      refine q_ldc2 (v := 57) dX9_next_125 (by decide +kernel) ?_
      refine q_callSd dX9_next_128 wX9_next_60 (n_in) rfl rfl (Nat.le_of_ble_eq_true rfl) ⟨⟨Nat.le_of_ble_eq_true rfl, Nat.le_of_ble_eq_true rfl⟩, Nat.le_of_ble_eq_true rfl, Nat.le_of_ble_eq_true rfl⟩ ?_
      refine q_if_eq 182 dX9_next_131 (by decide) (fun _ => ?_) (fun z => absurd (by decide) z)
      exact tail a' v _ g2 g1 gv g4 ⟨rfl, rfl, trivial⟩
    | succ d ih =>
      intro a' v ls h' g1 g2 gv g3 g4 hh hll
      subst hh
      refine V.at ?_ hll
      have hta := ht a' (by omega)
      have st : ∀ (p : Int32) (v' : Nat), v' ≤ 999 → p = nI v' → numM t len (len - s) s 0 = numM t len d (a' + 1) v' → V Γ l mX9_next rX9_next (Zm Γ rX9_next (qD none as (hset h m (mo tc r (zN z S))))) 0 0 166 [(0, .ref m), (1, .int (nI (t s)))] [.int p, .ref m] as (hset h m (mo tc r (zA z a' s v))) := by
        intro p v' hv' hp g5
        subst hp
        refine q_put dX9_next_166 pX9_next_83 (xM _) rfl rfl (Nat.le_of_ble_eq_true rfl) ?_
        refine q_aload_n dX9_next_169 rfl rfl ?_
        refine q_dup dX9_next_170 rfl ?_
        refine q_get dX9_next_171 fX9_next_70 (hat_set (xM _)) rfl ?_
        refine q_iconst (v := 1) dX9_next_174 rfl ?_
        refine q_iadd dX9_next_175 ?_
        refine q_put dX9_next_176 pX9_next_70 (hat_set (xM _)) rfl rfl (Nat.le_of_ble_eq_true rfl) ?_
        refine q_goto 117 dX9_next_179 (by decide) ?_
        exact ih (a' + 1) v' _ _ (by omega) (by omega) hv' (by omega) g5 (by rw [hset_hset, hset_hset]; show hset h m (mo tc r (upd (upd (upd z 8 (nI a' + 1)) 9 (nI s)) 11 (nI v'))) = _; rw [nI_s]) ⟨rfl, rfl, trivial⟩
      refine q_aload_n dX9_next_117 rfl rfl ?_
      refine q_callVd dX9_next_118 wX9_next_86 (n_here (t := t) (len := len) (a := a') (by omega) hl (xM _) h2 rfl (xb _) ht) (xM _) ⟨_, _, rfl⟩ rfl rfl (Nat.le_of_ble_eq_true rfl) ⟨⟨Nat.le_of_ble_eq_true rfl, Nat.le_of_ble_eq_true rfl⟩, Nat.le_of_ble_eq_true rfl, Nat.le_of_ble_eq_true rfl⟩ ?_
      refine q_i2l dX9_next_121 ?_
      refine q_ldc2 (v := 48) dX9_next_122 (by decide +kernel) ?_
      refine q_ldc2 (v := 57) dX9_next_125 (by decide +kernel) ?_
      refine q_callSd dX9_next_128 wX9_next_60 (n_in) rfl rfl (Nat.le_of_ble_eq_true rfl) ⟨⟨Nat.le_of_ble_eq_true rfl, Nat.le_of_ble_eq_true rfl⟩, Nat.le_of_ble_eq_true rfl, Nat.le_of_ble_eq_true rfl⟩ ?_
      rw [inB_Dg _ hta.2]
      refine q_if_eq 182 dX9_next_131 (by decide) (fun cL => ?_) (fun cL => ?_)
      · exact tail a' v _ g2 g1 gv (by rw [g4]; simp only [numM]; rw [if_neg (by rw [bI_0.mp cL]; exact fun q => absurd q.2 (by decide))]) ⟨rfl, rfl, trivial⟩
      · have hdg := isDg_in (bI_n.mp cL)
        have hnm : numM t len (len - s) s 0 = numM t len d (a' + 1) (if 99 < v then v else 10 * v + t a' - 48) := by rw [g4]; simp only [numM]; rw [if_pos ⟨by omega, bI_n.mp cL⟩]
        refine q_aload_n dX9_next_134 rfl rfl ?_
        refine q_aload_n dX9_next_135 rfl rfl ?_
        refine q_get dX9_next_136 fX9_next_83 (xM _) rfl ?_
        refine q_bipush (v := 99) dX9_next_139 rfl ?_
        refine q_icmp_le 151 dX9_next_141 (by decide) (fun cV => ?_) (fun cV => ?_)
        · have hv : ¬ 99 < v := fun q => absurd cV (nI_ge (a := 99) (b := v) q (by omega))
          refine q_bipush (v := 10) dX9_next_151 rfl ?_
          refine q_aload_n dX9_next_153 rfl rfl ?_
          refine q_get dX9_next_154 fX9_next_83 (xM _) rfl ?_
          refine q_imul dX9_next_157 ?_
          refine q_aload_n dX9_next_158 rfl rfl ?_
          refine q_callVd dX9_next_159 wX9_next_86 (n_here (t := t) (len := len) (a := a') (by omega) hl (xM _) h2 rfl (xb _) ht) (xM _) ⟨_, _, rfl⟩ rfl rfl (Nat.le_of_ble_eq_true rfl) ⟨⟨Nat.le_of_ble_eq_true rfl, Nat.le_of_ble_eq_true rfl⟩, Nat.le_of_ble_eq_true rfl, Nat.le_of_ble_eq_true rfl⟩ ?_
          refine q_iadd dX9_next_162 ?_
          refine q_bipush (v := 48) dX9_next_163 rfl ?_
          refine q_isub dX9_next_165 ?_
          exact V.at (st _ (10 * v + t a' - 48) (by omega) (by show 10 * nI v + nI (t a') - 48 = _; rw [show (10 : Int32) = nI 10 from rfl, pk_mul, nI_add, show (48 : Int32) = nI 48 from rfl, pk_sub (by omega)]) (by rw [hnm, if_neg hv])) ⟨rfl, rfl, trivial⟩
        · have hv : 99 < v := by by_cases q : 99 < v; exact q; exact absurd (nI_le (a := v) (b := 99) (by omega) (by omega)) cV
          refine q_aload_n dX9_next_144 rfl rfl ?_
          refine q_get dX9_next_145 fX9_next_83 (xM _) rfl ?_
          refine q_goto 166 dX9_next_148 (by decide) ?_
          exact V.at (st _ v gv rfl (by rw [hnm, if_pos hv])) ⟨rfl, rfl, trivial⟩
  have from22 : ∀ (s : Nat), s ≤ len → V Γ l mX9_next rX9_next (Zm Γ rX9_next (qD none as (hset h m (mo tc r (zN z (nxS t len s)))))) 0 0 22 [(0, .ref m)] [] as (hset h m (mo tc r (upd z 8 (nI s)))) := by
    intro s hs
    by_cases hend : len ≤ s
    · rw [show nxS t len s = (s, s, 0, 0) from if_pos hend]
      refine q_aload_n dX9_next_22 rfl rfl ?_
      refine q_aload_n dX9_next_23 rfl rfl ?_
      refine q_get dX9_next_24 fX9_next_70 (xM _) rfl ?_
      refine q_put dX9_next_27 pX9_next_73 (xM _) rfl rfl (Nat.le_of_ble_eq_true rfl) ?_
      refine q_aload_n dX9_next_30 rfl rfl ?_
      refine q_iconst (v := 0) dX9_next_31 rfl ?_
      refine q_put dX9_next_32 pX9_next_83 (hat_set (xM _)) rfl rfl (Nat.le_of_ble_eq_true rfl) ?_
      refine V.hp (h' := hset h m (mo tc r (zA z s s 0))) ?_ (by rw [hset_hset, hset_hset]; rfl)
      refine q_aload_n dX9_next_35 rfl rfl ?_
      refine q_callVd dX9_next_36 wX9_next_86 (n_here_end (len := len) (a := s) hend (by omega) (xM _) h2 rfl) (xM _) ⟨_, _, rfl⟩ rfl rfl (Nat.le_of_ble_eq_true rfl) ⟨⟨Nat.le_of_ble_eq_true rfl, Nat.le_of_ble_eq_true rfl⟩, Nat.le_of_ble_eq_true rfl, Nat.le_of_ble_eq_true rfl⟩ ?_
      refine q_istore_n dX9_next_39 rfl (by decide) ?_
      refine q_iload_n dX9_next_40 rfl rfl ?_
      refine q_if_ge 52 dX9_next_41 (by decide) (fun z => absurd z (by decide)) (fun _ => ?_)
      refine q_aload_n dX9_next_44 rfl rfl ?_
      refine q_iconst (v := 0) dX9_next_45 rfl ?_
      refine q_put dX9_next_46 pX9_next_76 (xM _) rfl rfl (Nat.le_of_ble_eq_true rfl) ?_
      refine q_goto 247 dX9_next_49 (by decide) ?_
      exact q_vret dX9_next_247 rfl (Nat.zero_le _) (Nat.zero_le _) (⟨rfl, rfl, by rw [hset_hset]; rfl⟩)
    · have hts := ht s (by omega)
      generalize hS : nxS t len s = S
      unfold nxS at hS
      rw [if_neg hend] at hS
      refine q_aload_n dX9_next_22 rfl rfl ?_
      refine q_aload_n dX9_next_23 rfl rfl ?_
      refine q_get dX9_next_24 fX9_next_70 (xM _) rfl ?_
      refine q_put dX9_next_27 pX9_next_73 (xM _) rfl rfl (Nat.le_of_ble_eq_true rfl) ?_
      refine q_aload_n dX9_next_30 rfl rfl ?_
      refine q_iconst (v := 0) dX9_next_31 rfl ?_
      refine q_put dX9_next_32 pX9_next_83 (hat_set (xM _)) rfl rfl (Nat.le_of_ble_eq_true rfl) ?_
      refine V.hp (h' := hset h m (mo tc r (zA z s s 0))) ?_ (by rw [hset_hset, hset_hset]; rfl)
      refine q_aload_n dX9_next_35 rfl rfl ?_
      refine q_callVd dX9_next_36 wX9_next_86 (n_here (t := t) (len := len) (a := s) (by omega) hl (xM _) h2 rfl (xb _) ht) (xM _) ⟨_, _, rfl⟩ rfl rfl (Nat.le_of_ble_eq_true rfl) ⟨⟨Nat.le_of_ble_eq_true rfl, Nat.le_of_ble_eq_true rfl⟩, Nat.le_of_ble_eq_true rfl, Nat.le_of_ble_eq_true rfl⟩ ?_
      refine q_istore_n dX9_next_39 rfl (by decide) ?_
      refine q_iload_n dX9_next_40 rfl rfl ?_
      refine q_if_ge 52 dX9_next_41 (by decide) (fun _ => ?_) (fun z => absurd (nI_pos' (by omega)) z)
      refine q_iload_n dX9_next_52 rfl rfl ?_
      refine q_i2l dX9_next_53 ?_
      refine q_ldc2 (v := 97) dX9_next_54 (by decide +kernel) ?_
      refine q_ldc2 (v := 122) dX9_next_57 (by decide +kernel) ?_
      refine q_callSd dX9_next_60 wX9_next_60 (n_in) rfl rfl (Nat.le_of_ble_eq_true rfl) ⟨⟨Nat.le_of_ble_eq_true rfl, Nat.le_of_ble_eq_true rfl⟩, Nat.le_of_ble_eq_true rfl, Nat.le_of_ble_eq_true rfl⟩ ?_
      rw [inB_Lt _ hts.2]
      refine q_if_eq 103 dX9_next_63 (by decide) (fun cL => ?_) (fun cL => ?_)
      · rw [if_neg (by rw [bI_0.mp cL]; decide)] at hS
        refine q_iload_n dX9_next_103 rfl rfl ?_
        refine q_i2l dX9_next_104 ?_
        refine q_ldc2 (v := 48) dX9_next_105 (by decide +kernel) ?_
        refine q_ldc2 (v := 57) dX9_next_108 (by decide +kernel) ?_
        refine q_callSd dX9_next_111 wX9_next_60 (n_in) rfl rfl (Nat.le_of_ble_eq_true rfl) ⟨⟨Nat.le_of_ble_eq_true rfl, Nat.le_of_ble_eq_true rfl⟩, Nat.le_of_ble_eq_true rfl, Nat.le_of_ble_eq_true rfl⟩ ?_
        rw [inB_Dg _ hts.2]
        refine q_if_eq 222 dX9_next_114 (by decide) (fun cD => ?_) (fun cD => ?_)
        · rw [if_neg (by rw [bI_0.mp cD]; decide)] at hS
          refine q_aload_n dX9_next_222 rfl rfl ?_
          refine q_dup dX9_next_223 rfl ?_
          refine q_get dX9_next_224 fX9_next_70 (xM _) rfl ?_
          refine q_iconst (v := 1) dX9_next_227 rfl ?_
          refine q_iadd dX9_next_228 ?_
          refine q_put dX9_next_229 pX9_next_70 (xM _) rfl rfl (Nat.le_of_ble_eq_true rfl) ?_
          refine q_aload_n dX9_next_232 rfl rfl ?_
          refine q_iload_n dX9_next_233 rfl rfl ?_
          refine q_bipush (v := 59) dX9_next_234 rfl ?_
          refine q_icmp_ne 243 dX9_next_236 (by decide) (fun cS => ?_) (fun cS => ?_)
          · have e59 : ¬ t s = 59 := fun q => cS (by rw [q]; rfl)
            rw [if_neg e59] at hS
            subst hS
            refine q_iconst (v := 5) dX9_next_243 rfl ?_
            refine q_put dX9_next_244 pX9_next_76 (hat_set (xM _)) rfl rfl (Nat.le_of_ble_eq_true rfl) ?_
            exact q_vret dX9_next_247 rfl (Nat.zero_le _) (Nat.zero_le _) (⟨rfl, rfl, by rw [hset_hset, hset_hset, show zA z s s 0 8 = nI s from rfl, nI_s]; rfl⟩)
          · have e59 : t s = 59 := (nI_eq (by omega) (by omega)).mp cS
            rw [if_pos e59] at hS
            subst hS
            refine q_iconst (v := 4) dX9_next_239 rfl ?_
            refine q_goto 244 dX9_next_240 (by decide) ?_
            refine q_put dX9_next_244 pX9_next_76 (hat_set (xM _)) rfl rfl (Nat.le_of_ble_eq_true rfl) ?_
            exact q_vret dX9_next_247 rfl (Nat.zero_le _) (Nat.zero_le _) (⟨rfl, rfl, by rw [hset_hset, hset_hset, show zA z s s 0 8 = nI s from rfl, nI_s]; rfl⟩)
        · rw [if_pos (bI_n.mp cD)] at hS
          exact digs s S (by omega) hS.symm (len - s) s 0 _ _ (by omega) (Nat.le_refl _) (by omega) rfl rfl rfl ⟨rfl, rfl, trivial⟩
      · rw [if_pos (bI_n.mp cL)] at hS
        exact lett s S (by omega) hS.symm (len - s) s _ _ (by omega) (Nat.le_refl _) rfl rfl rfl ⟨rfl, trivial⟩
  have key : ∀ (d a' : Nat) (h' : aH), a' ≤ len → len - a' = d → skp isBl t len (len - a) a = skp isBl t len d a' → h' = hset h m (mo tc r (upd z 8 (nI a'))) → V Γ l mX9_next rX9_next (Zm Γ rX9_next (qD none as (hset h m (mo tc r (zN z (nxF t len a)))))) 0 0 0 [(0, .ref m)] [] as h' := by
    intro d
    induction d with
    | zero =>
      intro a' h' g1 g2 g3 hh
      subst hh
      unfold nxF
      rw [g3]
      refine q_aload_n dX9_next_0 rfl rfl ?_
      refine q_callVd dX9_next_1 wX9_next_86 (n_here_end (len := len) (a := a') (by omega) (by omega) (xM _) h2 rfl) (xM _) ⟨_, _, rfl⟩ rfl rfl (Nat.le_of_ble_eq_true rfl) ⟨⟨Nat.le_of_ble_eq_true rfl, Nat.le_of_ble_eq_true rfl⟩, Nat.le_of_ble_eq_true rfl, Nat.le_of_ble_eq_true rfl⟩ ?_
      refine q_bipush (v := 32) dX9_next_4 rfl ?_
      refine q_icmp_ne 22 dX9_next_6 (by decide) (fun _ => ?_) (fun z => absurd z (by decide))
      exact from22 a' g1
    | succ d ih =>
      intro a' h' g1 g2 g3 hh
      subst hh
      have hta := ht a' (by omega)
      refine q_aload_n dX9_next_0 rfl rfl ?_
      refine q_callVd dX9_next_1 wX9_next_86 (n_here (t := t) (len := len) (a := a') (by omega) hl (xM _) h2 rfl (xb _) ht) (xM _) ⟨_, _, rfl⟩ rfl rfl (Nat.le_of_ble_eq_true rfl) ⟨⟨Nat.le_of_ble_eq_true rfl, Nat.le_of_ble_eq_true rfl⟩, Nat.le_of_ble_eq_true rfl, Nat.le_of_ble_eq_true rfl⟩ ?_
      refine q_bipush (v := 32) dX9_next_4 rfl ?_
      refine q_icmp_ne 22 dX9_next_6 (by decide) (fun cE => ?_) (fun cE => ?_)
      · unfold nxF
        rw [g3, show skp isBl t len (d + 1) a' = a' by simp only [skp]; rw [if_neg (fun q => cE (by rw [show t a' = 32 from of_decide_eq_true q.2]; rfl))]]
        exact from22 a' g1
      · have e32 : t a' = 32 := (nI_eq (by omega) (by omega)).mp cE
        refine q_aload_n dX9_next_9 rfl rfl ?_
        refine q_dup dX9_next_10 rfl ?_
        refine q_get dX9_next_11 fX9_next_70 (xM _) rfl ?_
        refine q_iconst (v := 1) dX9_next_14 rfl ?_
        refine q_iadd dX9_next_15 ?_
        refine q_put dX9_next_16 pX9_next_70 (xM _) rfl rfl (Nat.le_of_ble_eq_true rfl) ?_
        refine q_goto 0 dX9_next_19 (by decide) ?_
        exact ih (a' + 1) _ (by omega) (by omega) (by rw [g3]; simp only [skp]; rw [if_pos ⟨by omega, by rw [e32]; rfl⟩]) (by rw [hset_hset]; show hset h m (mo tc r (upd z 8 (nI a' + 1))) = _; rw [nI_s])
  refine Con.of (by decide +kernel) rfl rfl (Nat.le_of_ble_eq_true rfl) ?_
  exact key (len - a) a h ha rfl rfl (by rw [upd_self h8, hset_same hM.2])
end

