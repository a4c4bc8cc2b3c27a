/-! THE REFERENCE (X9): meetings -/
theorem nI_m9 {k : Nat} (hk : k < 1000) : ¬ nI k = -9 := fun e => nI_pos (n := k) (by omega) (by rw [e]; decide)
theorem fstW_s {f : Nat → Int32} {p : Nat} : ∀ d w, w + d < 900 → fstW f p (d + 1) w = if fstW f p d w = -9 then (if f (p * 10 + (w + d)) ≤ 0 then -9 else nI (w + d)) else fstW f p d w := by
  intro d
  induction d with
  | zero =>
    intro w _
    simp only [fstW]
    rw [if_pos trivial, Nat.add_zero]
  | succ d ih =>
    intro w hw
    rw [show fstW f p (d + 1 + 1) w = if f (p * 10 + w) ≤ 0 then fstW f p (d + 1) (w + 1) else nI w from rfl]
    rw [show fstW f p (d + 1) w = if f (p * 10 + w) ≤ 0 then fstW f p d (w + 1) else nI w from rfl]
    by_cases h : f (p * 10 + w) ≤ 0
    · rw [if_pos h, if_pos h, ih (w + 1) (by omega), show w + 1 + d = w + (d + 1) by omega]
    · rw [if_neg h, if_neg h, if_neg (nI_m9 (by omega))]
theorem fd_heavy {f : Nat → Int32} {p lim : Nat} {lk : Bool} (hl : lim ≤ 9) : ∀ k, k ≤ 10 → fdS f p 1 (nI lim) lk k = fstW f p (min k ((if lk then lim else 9) + 1)) 0 := by
  intro k
  induction k with
  | zero => intro _; rw [Nat.zero_min]; rfl
  | succ k ih =>
    intro hk
    simp only [fdS]
    rw [ih (by omega)]
    by_cases hm : k < (if lk then lim else 9) + 1
    · rw [show min (k + 1) ((if lk then lim else 9) + 1) = k + 1 by omega, show min k ((if lk then lim else 9) + 1) = k by omega, fstW_s k 0 (by omega), Nat.zero_add]
      have hlk : lk = true → nI k ≤ nI lim := fun e => nI_le (by rw [if_pos e] at hm; omega) (by omega)
      by_cases h1 : fstW f p k 0 = -9
      · rw [if_pos h1]
        by_cases h2 : f (p * 10 + k) ≤ 0
        · rw [if_pos h2, if_neg (fun e => absurd e.1.1 (Int32.not_lt.mpr h2)), h1]
        · rw [if_neg h2, if_pos ⟨⟨Int32.not_le.mp h2, hlk⟩, Or.inl h1⟩]
      · rw [if_neg h1, if_neg (fun e => e.2.elim h1 (fun q => absurd q (by decide)))]
    · rw [show min (k + 1) ((if lk then lim else 9) + 1) = min k ((if lk then lim else 9) + 1) by omega]
      refine if_neg (fun e => ?_)
      cases lk with
      | false => rw [if_neg (by decide)] at hm; omega
      | true =>
        rw [if_pos rfl] at hm
        exact nI_ge (a := lim) (b := k) (by omega) (by omega) (e.1.2 rfl)
theorem fd_light {f : Nat → Int32} {p lim : Nat} {lk : Bool} (hl : lim ≤ 9) : ∀ k, k ≤ 10 → fdS f p 0 (nI lim) lk k = lstW f p (min k ((if lk then lim else 9) + 1)) := by
  intro k
  induction k with
  | zero => intro _; rw [Nat.zero_min]; rfl
  | succ k ih =>
    intro hk
    simp only [fdS]
    rw [ih (by omega)]
    by_cases hm : k < (if lk then lim else 9) + 1
    · rw [show min (k + 1) ((if lk then lim else 9) + 1) = k + 1 by omega, show min k ((if lk then lim else 9) + 1) = k by omega]
      have hlk : lk = true → nI k ≤ nI lim := fun e => nI_le (by rw [if_pos e] at hm; omega) (by omega)
      simp only [lstW]
      by_cases h2 : f (p * 10 + k) ≤ 0
      · rw [if_pos h2, if_neg (fun e => absurd e.1.1 (Int32.not_lt.mpr h2))]
      · rw [if_neg h2, if_pos ⟨⟨Int32.not_le.mp h2, hlk⟩, Or.inr trivial⟩]
    · rw [show min (k + 1) ((if lk then lim else 9) + 1) = min k ((if lk then lim else 9) + 1) by omega]
      refine if_neg (fun e => ?_)
      cases lk with
      | false => rw [if_neg (by decide)] at hm; omega
      | true =>
        rw [if_pos rfl] at hm
        exact nI_ge (a := lim) (b := k) (by omega) (by omega) (e.1.2 rfl)
theorem fd_wtp {f : Nat → Int32} {p lim : Nat} {lk : Bool} {pay : Int32} (hl : lim ≤ 9) (hp : pay = 0 ∨ pay = 1) : fdS f p pay (nI lim) lk 10 = wtp f p (if lk then lim else 9) pay := by
  have e : min 10 ((if lk then lim else 9) + 1) = (if lk then lim else 9) + 1 := by cases lk <;> simp <;> omega
  unfold wtp
  rcases hp with rfl | rfl
  · rw [fd_light hl 10 (by omega), e, if_neg (show ¬ (0 : Int32) = 1 by decide)]
  · rw [fd_heavy hl 10 (by omega), e, if_pos (show (1 : Int32) = 1 from rfl)]
section
variable {Γ : gT} {l : Launch} {as : List Nat} {h : aH} {m : Nat} {tc : Int64} {r : Nat → Nat} {z : Nat → Int32} {n lim : Nat} {f u w x y lo mt : Nat → Int32}
def mtF (mt : Nat → Int32) (s : msT) : Nat → Int32 := upd (upd (upd (upd mt 0 s.2.2.1) 1 s.2.2.2.1) 2 s.2.2.2.2.1) 3 s.2.2.2.2.2.1
/-- the reference's cells that a meeting writes -/
def nH (Γ : gT) (m : Nat) (tc : Int64) (r : Nat → Nat) (z lo mt : Nat → Int32) (h : aH) (s : msT) : aH := hset (hset (hset (hset h (r 14) (aI Γ 3 (upd lo 0 s.1))) (r 13) (aI Γ 240 s.2.1)) (r 18) (aI Γ 4 (mtF mt s))) m (mo tc r (upd z 19 s.2.2.2.2.2.2))
theorem n_moves {j p t : Nat} {a3 : Int32} {Z : zT} (hp : p < 8) (ht : t < 8) (hj : j < 10) (hM : hat as h m (mo tc r z)) (hf : hat as h (r 13) (aI Γ 240 f)) (K : V Γ l mX9_meetOnce rX9_meetOnce Z 0 0 224 [(0, .ref m), (1, .int (nI p)), (2, .int (nI t)), (3, .int a3), (4, .int (nI j))] [] as (hset h (r 13) (aI Γ 240 (moveF f (p * 10 + j) (t * 10 + j))))) : V Γ l mX9_meetOnce rX9_meetOnce Z 0 0 185 [(0, .ref m), (1, .int (nI p)), (2, .int (nI t)), (3, .int a3), (4, .int (nI j))] [] as h := by
  have e2 := hat_oa hM hf
  refine q_iload dX9_meetOnce_185 rfl ?_
  refine q_bipush (v := (-9)) dX9_meetOnce_187 rfl ?_
  refine q_icmp_eq 224 dX9_meetOnce_189 (by decide) (fun z => absurd z (nI_m9 (by omega))) (fun _ => ?_)
  refine q_aload_n dX9_meetOnce_192 rfl rfl ?_
  refine q_get dX9_meetOnce_193 fX9_meetOnce_26 (hM) rfl ?_
  refine q_bipush (v := 10) dX9_meetOnce_196 rfl ?_
  refine q_iload_n dX9_meetOnce_198 rfl rfl ?_
  refine q_imul dX9_meetOnce_199 ?_
  refine q_iload dX9_meetOnce_200 rfl ?_
  refine q_iadd dX9_meetOnce_202 ?_
  refine q_dup2 dX9_meetOnce_203 rfl rfl ?_
  refine q_iald dX9_meetOnce_204 (hf) (inM hp hj) ?_
  refine q_iconst (v := 1) dX9_meetOnce_205 rfl ?_
  refine q_isub dX9_meetOnce_206 ?_
  refine q_iast dX9_meetOnce_207 (hf) (inM hp hj) ?_
  refine q_aload_n dX9_meetOnce_208 rfl rfl ?_
  refine q_get dX9_meetOnce_209 fX9_meetOnce_26 (hat_ne hM e2) rfl ?_
  refine q_bipush (v := 10) dX9_meetOnce_212 rfl ?_
  refine q_iload_n dX9_meetOnce_214 rfl rfl ?_
  refine q_imul dX9_meetOnce_215 ?_
  refine q_iload dX9_meetOnce_216 rfl ?_
  refine q_iadd dX9_meetOnce_218 ?_
  refine q_dup2 dX9_meetOnce_219 rfl rfl ?_
  refine q_iald dX9_meetOnce_220 (hat_set hf) (inM ht hj) ?_
  refine q_iconst (v := 1) dX9_meetOnce_221 rfl ?_
  refine q_iadd dX9_meetOnce_222 ?_
  refine q_iast dX9_meetOnce_223 (hat_set hf) (inM ht hj) ?_
  exact V.hp K (by rw [hset_hset, clM hp hj, clM ht hj]; rfl)
theorem n_meetOnce (hn : z 3 = nI n) (hn2 : 2 ≤ n) (hn8 : n ≤ 8) (hlim : lim ≤ 9) (hu0 : u 0 = nI lim) (hM : hat as h m (mo tc r z)) (hlo : hat as h (r 14) (aI Γ 3 lo)) (hf : hat as h (r 13) (aI Γ 240 f)) (hmt : hat as h (r 18) (aI Γ 4 mt)) (hw : hat as h (r 4) (aI Γ 16 w)) (hx : hat as h (r 5) (aI Γ 16 x)) (hy : hat as h (r 6) (aI Γ 16 y)) (hu : hat as h (r 17) (aI Γ 6 u)) (hpay : ∀ p, p < n → y p = 0 ∨ y p = 1) (hf99 : ∀ j, j < 80 → f j ≤ 99) : Det Γ l mX9_meetOnce rX9_meetOnce [.ref m] as h (some (.int (mPaid w x y f n lim (lo 0)))) (nH Γ m tc r z lo mt h (mSt w x y n lim (lo 0, f, mt 0, mt 1, mt 2, mt 3, z 19))) := by
  have e1 := hat_oa hM hlo
  have e2 := hat_oa hM hf
  have e3 := hat_oa hM hmt
  have e4 := hat_nl hf hlo (by decide)
  have e5 := hat_nl hmt hlo (by decide)
  have e6 := hat_nl hmt hf (by decide)
  have e7 := hat_nl hw hlo (by decide)
  have e8 := hat_nl hx hlo (by decide)
  have e9 := hat_nl hy hlo (by decide)
  have e10 := hat_nl hu hlo (by decide)
  have hp := mPay_lt (lot := lo 0) hn2
  have htk := mTak_lt (lot := lo 0) hn2
  have hp8 : mPay n (lo 0) < 8 := by omega
  have ht8 : mTak n (lo 0) < 8 := by omega
  generalize hF : nH Γ m tc r z lo mt h (mSt w x y n lim (lo 0, f, mt 0, mt 1, mt 2, mt 3, z 19)) = hFin
  generalize qL : hset h (r 14) (aI Γ 3 (upd lo 0 (mLot w n (lo 0)))) = hL
  have lM : hat as hL m (mo tc r z) := by rw [← qL]; exact hat_ne hM e1
  have lf : hat as hL (r 13) (aI Γ 240 f) := by rw [← qL]; exact hat_ne hf e4
  have lmt : hat as hL (r 18) (aI Γ 4 mt) := by rw [← qL]; exact hat_ne hmt e5
  have ly : hat as hL (r 6) (aI Γ 16 y) := by rw [← qL]; exact hat_ne hy e9
  have lu : hat as hL (r 17) (aI Γ 6 u) := by rw [← qL]; exact hat_ne hu e10
  have fin : V Γ l mX9_meetOnce rX9_meetOnce (Zm Γ rX9_meetOnce (qD (some (.int (mPaid w x y f n lim (lo 0)))) as hFin)) 0 0 224 [(0, .ref m), (1, .int (nI (mPay n (lo 0)))), (2, .int (nI (mTak n (lo 0)))), (3, .int (bI (mLook w x n (lo 0)))), (4, .int (mPaid w x y f n lim (lo 0)))] [] as (hset hL (r 13) (aI Γ 240 (mF w x y f n lim (lo 0)))) := by
    generalize qG : hset hL (r 13) (aI Γ 240 (mF w x y f n lim (lo 0))) = hG
    have gM : hat as hG m (mo tc r z) := by rw [← qG]; exact hat_ne lM e2
    have gmt : hat as hG (r 18) (aI Γ 4 mt) := by rw [← qG]; exact hat_ne lmt e6
    have fin2 : ∀ q : Int32, q = bI (mLook w x n (lo 0)) → V Γ l mX9_meetOnce rX9_meetOnce (Zm Γ rX9_meetOnce (qD (some (.int (mPaid w x y f n lim (lo 0)))) as hFin)) 0 0 252 [(0, .ref m), (1, .int (nI (mPay n (lo 0)))), (2, .int (nI (mTak n (lo 0)))), (3, .int (bI (mLook w x n (lo 0)))), (4, .int (mPaid w x y f n lim (lo 0)))] [.int q, .int 2, .ref (r 18)] as (hset hG (r 18) (aI Γ 4 (upd (upd mt 0 (nI (mPay n (lo 0)))) 1 (nI (mTak n (lo 0)))))) := by
      intro q hq
      subst hq
      refine q_iast dX9_meetOnce_252 (hat_set gmt) (in_nI (k := 2) (by omega) (by omega)) ?_
      refine V.hp ?_ hset_hset
      refine q_aload_n dX9_meetOnce_253 rfl rfl ?_
      refine q_get dX9_meetOnce_254 fX9_meetOnce_42 (hat_ne gM e3) rfl ?_
      refine q_iconst (v := 3) dX9_meetOnce_257 rfl ?_
      refine q_iload dX9_meetOnce_258 rfl ?_
      refine q_iast dX9_meetOnce_260 (hat_set gmt) (in_nI (k := 3) (by omega) (by omega)) ?_
      refine V.hp ?_ hset_hset
      refine q_aload_n dX9_meetOnce_261 rfl rfl ?_
      refine q_dup dX9_meetOnce_262 rfl ?_
      refine q_get dX9_meetOnce_263 fX9_meetOnce_114 (hat_ne gM e3) rfl ?_
      refine q_iconst (v := 1) dX9_meetOnce_266 rfl ?_
      refine q_iadd dX9_meetOnce_267 ?_
      refine q_put dX9_meetOnce_268 pX9_meetOnce_114 (hat_ne gM e3) rfl rfl (Nat.le_of_ble_eq_true rfl) ?_
      refine q_iload dX9_meetOnce_271 rfl ?_
      exact q_iret dX9_meetOnce_273 rfl (Nat.zero_le _) (Nat.zero_le _) (⟨rfl, rfl, by rw [← hF, ← qG, ← qL]; rfl⟩)
    refine q_aload_n dX9_meetOnce_224 rfl rfl ?_
    refine q_get dX9_meetOnce_225 fX9_meetOnce_42 (gM) rfl ?_
    refine q_iconst (v := 0) dX9_meetOnce_228 rfl ?_
    refine q_iload_n dX9_meetOnce_229 rfl rfl ?_
    refine q_iast dX9_meetOnce_230 (gmt) (in_nI (k := 0) (by omega) (by omega)) ?_
    refine q_aload_n dX9_meetOnce_231 rfl rfl ?_
    refine q_get dX9_meetOnce_232 fX9_meetOnce_42 (hat_ne gM e3) rfl ?_
    refine q_iconst (v := 1) dX9_meetOnce_235 rfl ?_
    refine q_iload_n dX9_meetOnce_236 rfl rfl ?_
    refine q_iast dX9_meetOnce_237 (hat_set gmt) (in_nI (k := 1) (by omega) (by omega)) ?_
    refine V.hp ?_ hset_hset
    refine q_aload_n dX9_meetOnce_238 rfl rfl ?_
    refine q_get dX9_meetOnce_239 fX9_meetOnce_42 (hat_ne gM e3) rfl ?_
    refine q_iconst (v := 2) dX9_meetOnce_242 rfl ?_
    refine q_iload_n dX9_meetOnce_243 rfl rfl ?_
    refine q_if_eq 251 dX9_meetOnce_244 (by decide) (fun cL => ?_) (fun cL => ?_)
    · refine q_iconst (v := 0) dX9_meetOnce_251 rfl ?_
      exact V.at (fin2 0 cL.symm) ⟨rfl, rfl, rfl, rfl, rfl, trivial⟩
    · refine q_iconst (v := 1) dX9_meetOnce_247 rfl ?_
      refine q_goto 252 dX9_meetOnce_248 (by decide) ?_
      exact V.at (fin2 1 (by rw [bI_n.mp cL]; rfl)) ⟨rfl, rfl, rfl, rfl, rfl, trivial⟩
  have no : mGoB w x y f n lim (lo 0) = false → V Γ l mX9_meetOnce rX9_meetOnce (Zm Γ rX9_meetOnce (qD (some (.int (mPaid w x y f n lim (lo 0)))) as hFin)) 0 0 185 [(0, .ref m), (1, .int (nI (mPay n (lo 0)))), (2, .int (nI (mTak n (lo 0)))), (3, .int (bI (mLook w x n (lo 0)))), (4, .int (-9))] [] as hL := by
    intro hg
    have e : mPaid w x y f n lim (lo 0) = -9 := by unfold mPaid; rw [if_neg (by rw [hg]; decide)]
    have e' : mF w x y f n lim (lo 0) = f := by unfold mF; rw [if_neg (by rw [hg]; decide)]
    rw [e, e', hset_same lf.2] at fin
    rw [e]
    refine q_iload dX9_meetOnce_185 rfl ?_
    refine q_bipush (v := (-9)) dX9_meetOnce_187 rfl ?_
    refine q_icmp_eq 224 dX9_meetOnce_189 (by decide) (fun _ => ?_) (fun z => absurd (rfl) z)
    exact fin
  have tail : V Γ l mX9_meetOnce rX9_meetOnce (Zm Γ rX9_meetOnce (qD (some (.int (mPaid w x y f n lim (lo 0)))) as hFin)) 0 0 157 [(0, .ref m), (1, .int (nI (mPay n (lo 0)))), (2, .int (nI (mTak n (lo 0)))), (3, .int (bI (mLook w x n (lo 0)))), (4, .int (mWt w x y f n lim (lo 0)))] [] as hL := by
    refine q_iload dX9_meetOnce_157 rfl ?_
    refine q_bipush (v := (-9)) dX9_meetOnce_159 rfl ?_
    refine q_icmp_eq 185 dX9_meetOnce_161 (by decide) (fun cA => ?_) (fun cA => ?_)
    · first
      | exact V.at (no (by unfold mGoB; rw [decide_eq_false (fun q => q cA), Bool.false_and])) ⟨rfl, rfl, rfl, rfl, by rw [cA]; rfl, trivial⟩
      | (have hlt : f (mTak n (lo 0) * 10 + mWk w x y f n lim (lo 0)) < 99 := by
           have := hf99 (mTak n (lo 0) * 10 + mWk w x y f n lim (lo 0)) (by have := hk.1; omega)
           rw [clM ht8 hk.1] at cB
           exact Int32.lt_of_le_of_ne this cB
         exact yes hlt)
    · have hk := (mWt_in (w := w) (x := x) (y := y) (f := f) (n := n) (lot := lo 0) hlim).resolve_left cA
      have yes : f (mTak n (lo 0) * 10 + mWk w x y f n lim (lo 0)) < 99 → V Γ l mX9_meetOnce rX9_meetOnce (Zm Γ rX9_meetOnce (qD (some (.int (mPaid w x y f n lim (lo 0)))) as hFin)) 0 0 185 [(0, .ref m), (1, .int (nI (mPay n (lo 0)))), (2, .int (nI (mTak n (lo 0)))), (3, .int (bI (mLook w x n (lo 0)))), (4, .int (nI (mWk w x y f n lim (lo 0))))] [] as hL := by
        intro h3
        have hg : mGoB w x y f n lim (lo 0) = true := by unfold mGoB; rw [decide_eq_true cA, decide_eq_true h3]; rfl
        have e : mPaid w x y f n lim (lo 0) = nI (mWk w x y f n lim (lo 0)) := by unfold mPaid; rw [if_pos hg, hk.2]
        have e' : mF w x y f n lim (lo 0) = moveF f (mPay n (lo 0) * 10 + mWk w x y f n lim (lo 0)) (mTak n (lo 0) * 10 + mWk w x y f n lim (lo 0)) := by unfold mF; rw [if_pos hg]
        rw [e, e'] at fin
        rw [e]
        exact n_moves hp8 ht8 hk.1 lM lf fin
      refine V.at (ls' := [(0, .ref m), (1, .int (nI (mPay n (lo 0)))), (2, .int (nI (mTak n (lo 0)))), (3, .int (bI (mLook w x n (lo 0)))), (4, .int (nI (mWk w x y f n lim (lo 0))))]) ?_ ⟨rfl, rfl, rfl, rfl, by rw [← hk.2]; rfl, trivial⟩
      refine q_aload_n dX9_meetOnce_164 rfl rfl ?_
      refine q_get dX9_meetOnce_165 fX9_meetOnce_26 (lM) rfl ?_
      refine q_bipush (v := 10) dX9_meetOnce_168 rfl ?_
      refine q_iload_n dX9_meetOnce_170 rfl rfl ?_
      refine q_imul dX9_meetOnce_171 ?_
      refine q_iload dX9_meetOnce_172 rfl ?_
      refine q_iadd dX9_meetOnce_174 ?_
      refine q_iald dX9_meetOnce_175 (lf) (inM ht8 hk.1) ?_
      refine q_bipush (v := 99) dX9_meetOnce_176 rfl ?_
      refine q_icmp_ne 185 dX9_meetOnce_178 (by decide) (fun cB => ?_) (fun cB => ?_)
      · first
        | exact V.at (no (by unfold mGoB; rw [decide_eq_false (fun q => q cA), Bool.false_and])) ⟨rfl, rfl, rfl, rfl, by rw [cA]; rfl, trivial⟩
        | (have hlt : f (mTak n (lo 0) * 10 + mWk w x y f n lim (lo 0)) < 99 := by
             have := hf99 (mTak n (lo 0) * 10 + mWk w x y f n lim (lo 0)) (by have := hk.1; omega)
             rw [clM ht8 hk.1] at cB
             exact Int32.lt_of_le_of_ne this cB
           exact yes hlt)
      · rw [clM ht8 hk.1] at cB
        refine q_bipush (v := (-9)) dX9_meetOnce_181 rfl ?_
        refine q_istore dX9_meetOnce_183 (by decide) ?_
        exact V.at (no (by unfold mGoB; rw [decide_eq_false (p := f (mTak n (lo 0) * 10 + mWk w x y f n lim (lo 0)) < 99) (fun q => by rw [cB] at q; exact absurd q (by decide)), Bool.and_false])) ⟨rfl, rfl, rfl, rfl, rfl, trivial⟩
  have loop : ∀ (d k : Nat) (v4 v5 : Int32) (ls : List (Nat × Value)), k + d = 10 → v4 = fdS f (mPay n (lo 0)) (y (mPay n (lo 0))) (nI lim) (mLook w x n (lo 0)) k → v5 = nI k → lin ls [(0, .ref m), (1, .int (nI (mPay n (lo 0)))), (2, .int (nI (mTak n (lo 0)))), (3, .int (bI (mLook w x n (lo 0)))), (4, .int v4), (5, .int v5)] → V Γ l mX9_meetOnce rX9_meetOnce (Zm Γ rX9_meetOnce (qD (some (.int (mPaid w x y f n lim (lo 0)))) as hFin)) 0 0 77 ls [] as hL := by
    intro d
    induction d with
    | zero =>
      intro k v4 v5 ls hk e v hl
      have ek : k = 10 := by omega
      subst ek e v
      refine V.at ?_ hl
      refine q_iload dX9_meetOnce_77 rfl ?_
      refine q_bipush (v := 10) dX9_meetOnce_79 rfl ?_
      refine q_icmp_ge 157 dX9_meetOnce_81 (by decide) (fun _ => ?_) (fun z => absurd (Int32.le_refl _) z)
      refine V.at tail ⟨rfl, rfl, rfl, rfl, ?_, trivial⟩
      rw [show mWt w x y f n lim (lo 0) = fdS f (mPay n (lo 0)) (y (mPay n (lo 0))) (nI lim) (mLook w x n (lo 0)) 10 from (fd_wtp hlim (hpay _ hp)).symm]
      rfl
    | succ d ih =>
      intro k v4 v5 ls hk e v hl
      subst e v
      refine V.at ?_ hl
      have step : ∀ b : Bool, (b = true ↔ 0 < f (mPay n (lo 0) * 10 + k) ∧ (mLook w x n (lo 0) = true → nI k ≤ nI lim)) → V Γ l mX9_meetOnce rX9_meetOnce (Zm Γ rX9_meetOnce (qD (some (.int (mPaid w x y f n lim (lo 0)))) as hFin)) 0 0 119 [(0, .ref m), (1, .int (nI (mPay n (lo 0)))), (2, .int (nI (mTak n (lo 0)))), (3, .int (bI (mLook w x n (lo 0)))), (4, .int (fdS f (mPay n (lo 0)) (y (mPay n (lo 0))) (nI lim) (mLook w x n (lo 0)) k)), (5, .int (nI k))] [.int (bI b)] as hL := by
        intro b hb
        refine q_istore dX9_meetOnce_119 (by decide) ?_
        refine q_iload dX9_meetOnce_121 rfl ?_
        refine q_if_eq 147 dX9_meetOnce_123 (by decide) (fun cA => ?_) (fun cA => ?_)
        · have ef : fdS f (mPay n (lo 0)) (y (mPay n (lo 0))) (nI lim) (mLook w x n (lo 0)) (k + 1) = fdS f (mPay n (lo 0)) (y (mPay n (lo 0))) (nI lim) (mLook w x n (lo 0)) k := by
            simp only [fdS]
            refine if_neg (fun e => ?_)
            first | exact absurd (hb.mpr e.1) (by rw [bI_0.mp cA]; decide) | exact e.2.elim cB cC
          refine q_iload dX9_meetOnce_147 rfl ?_
          refine q_istore dX9_meetOnce_149 (by decide) ?_
          refine q_iinc1 dX9_meetOnce_151 rfl (by decide) ?_
          refine q_goto 77 dX9_meetOnce_154 (by decide) ?_
          exact ih (k + 1) _ _ _ (by omega) ef.symm (nI_s k) ⟨rfl, rfl, rfl, rfl, rfl, rfl, trivial⟩
        · refine q_iload dX9_meetOnce_126 rfl ?_
          refine q_bipush (v := (-9)) dX9_meetOnce_128 rfl ?_
          refine q_icmp_eq 142 dX9_meetOnce_130 (by decide) (fun cB => ?_) (fun cB => ?_)
          · have ef : fdS f (mPay n (lo 0)) (y (mPay n (lo 0))) (nI lim) (mLook w x n (lo 0)) (k + 1) = nI k := by
              simp only [fdS]
              refine if_pos ⟨hb.mp (bI_n.mp cA), ?_⟩
              first | exact Or.inr cC | exact Or.inl cB
            refine q_iload dX9_meetOnce_142 rfl ?_
            refine q_goto 149 dX9_meetOnce_144 (by decide) ?_
            refine q_istore dX9_meetOnce_149 (by decide) ?_
            refine q_iinc1 dX9_meetOnce_151 rfl (by decide) ?_
            refine q_goto 77 dX9_meetOnce_154 (by decide) ?_
            exact ih (k + 1) _ _ _ (by omega) ef.symm (nI_s k) ⟨rfl, rfl, rfl, rfl, rfl, rfl, trivial⟩
          · refine q_aload_n dX9_meetOnce_133 rfl rfl ?_
            refine q_get dX9_meetOnce_134 fX9_meetOnce_20 (lM) rfl ?_
            refine q_iload_n dX9_meetOnce_137 rfl rfl ?_
            refine q_iald dX9_meetOnce_138 (ly) (in_nI (show mPay n (lo 0) < 16 by omega) (by omega)) ?_
            rw [nI_clamp (by omega)]
            refine q_if_ne 147 dX9_meetOnce_139 (by decide) (fun cC => ?_) (fun cC => ?_)
            · have ef : fdS f (mPay n (lo 0)) (y (mPay n (lo 0))) (nI lim) (mLook w x n (lo 0)) (k + 1) = fdS f (mPay n (lo 0)) (y (mPay n (lo 0))) (nI lim) (mLook w x n (lo 0)) k := by
                simp only [fdS]
                refine if_neg (fun e => ?_)
                first | exact absurd (hb.mpr e.1) (by rw [bI_0.mp cA]; decide) | exact e.2.elim cB cC
              refine q_iload dX9_meetOnce_147 rfl ?_
              refine q_istore dX9_meetOnce_149 (by decide) ?_
              refine q_iinc1 dX9_meetOnce_151 rfl (by decide) ?_
              refine q_goto 77 dX9_meetOnce_154 (by decide) ?_
              exact ih (k + 1) _ _ _ (by omega) ef.symm (nI_s k) ⟨rfl, rfl, rfl, rfl, rfl, rfl, trivial⟩
            · have ef : fdS f (mPay n (lo 0)) (y (mPay n (lo 0))) (nI lim) (mLook w x n (lo 0)) (k + 1) = nI k := by
                simp only [fdS]
                refine if_pos ⟨hb.mp (bI_n.mp cA), ?_⟩
                first | exact Or.inr cC | exact Or.inl cB
              refine q_iload dX9_meetOnce_142 rfl ?_
              refine q_goto 149 dX9_meetOnce_144 (by decide) ?_
              refine q_istore dX9_meetOnce_149 (by decide) ?_
              refine q_iinc1 dX9_meetOnce_151 rfl (by decide) ?_
              refine q_goto 77 dX9_meetOnce_154 (by decide) ?_
              exact ih (k + 1) _ _ _ (by omega) ef.symm (nI_s k) ⟨rfl, rfl, rfl, rfl, rfl, rfl, trivial⟩
      refine q_iload dX9_meetOnce_77 rfl ?_
      refine q_bipush (v := 10) dX9_meetOnce_79 rfl ?_
      refine q_icmp_ge 157 dX9_meetOnce_81 (by decide) (fun z => absurd z (lt_c 10 rfl (by omega) (by omega))) (fun _ => ?_)
      refine q_aload_n dX9_meetOnce_84 rfl rfl ?_
      refine q_get dX9_meetOnce_85 fX9_meetOnce_26 (lM) rfl ?_
      refine q_bipush (v := 10) dX9_meetOnce_88 rfl ?_
      refine q_iload_n dX9_meetOnce_90 rfl rfl ?_
      refine q_imul dX9_meetOnce_91 ?_
      refine q_iload dX9_meetOnce_92 rfl ?_
      refine q_iadd dX9_meetOnce_94 ?_
      refine q_iald dX9_meetOnce_95 (lf) (inM hp8 (show k < 10 by omega)) ?_
      rw [clM hp8 (by omega)]
      refine q_if_le 118 dX9_meetOnce_96 (by decide) (fun cA => ?_) (fun cA => ?_)
      · refine q_iconst (v := 0) dX9_meetOnce_118 rfl ?_
        refine V.at (step false ⟨fun e => absurd e (by decide), fun e => ?_⟩) ⟨rfl, rfl, rfl, rfl, rfl, rfl, trivial⟩
        first | exact absurd (e.2 (bI_n.mp cB)) (Int32.not_le.mpr cC) | exact absurd e.1 (Int32.not_lt.mpr cA)
      · refine q_iload_n dX9_meetOnce_99 rfl rfl ?_
        refine q_if_eq 114 dX9_meetOnce_100 (by decide) (fun cB => ?_) (fun cB => ?_)
        · refine q_iconst (v := 1) dX9_meetOnce_114 rfl ?_
          refine q_goto 119 dX9_meetOnce_115 (by decide) ?_
          refine V.at (step true ⟨fun _ => ⟨Int32.not_le.mp cA, fun e => ?_⟩, fun _ => rfl⟩) ⟨rfl, rfl, rfl, rfl, rfl, rfl, trivial⟩
          first | exact Int32.not_lt.mp cC | exact absurd (bI_0.mp cB) (by rw [e]; decide)
        · refine q_iload dX9_meetOnce_103 rfl ?_
          refine q_aload_n dX9_meetOnce_105 rfl rfl ?_
          refine q_get dX9_meetOnce_106 fX9_meetOnce_39 (lM) rfl ?_
          refine q_iconst (v := 0) dX9_meetOnce_109 rfl ?_
          refine q_iald dX9_meetOnce_110 (lu) (in_nI (k := 0) (by omega) (by omega)) ?_
          rw [show u (0 : Int32).toNatClampNeg = nI lim from hu0]
          refine q_icmp_gt 118 dX9_meetOnce_111 (by decide) (fun cC => ?_) (fun cC => ?_)
          · refine q_iconst (v := 0) dX9_meetOnce_118 rfl ?_
            refine V.at (step false ⟨fun e => absurd e (by decide), fun e => ?_⟩) ⟨rfl, rfl, rfl, rfl, rfl, rfl, trivial⟩
            first | exact absurd (e.2 (bI_n.mp cB)) (Int32.not_le.mpr cC) | exact absurd e.1 (Int32.not_lt.mpr cA)
          · refine q_iconst (v := 1) dX9_meetOnce_114 rfl ?_
            refine q_goto 119 dX9_meetOnce_115 (by decide) ?_
            refine V.at (step true ⟨fun _ => ⟨Int32.not_le.mp cA, fun e => ?_⟩, fun _ => rfl⟩) ⟨rfl, rfl, rfl, rfl, rfl, rfl, trivial⟩
            first | exact Int32.not_lt.mp cC | exact absurd (bI_0.mp cB) (by rw [e]; decide)
  have mid : V Γ l mX9_meetOnce rX9_meetOnce (Zm Γ rX9_meetOnce (qD (some (.int (mPaid w x y f n lim (lo 0)))) as hFin)) 0 0 69 [(0, .ref m), (1, .int (nI (mPay n (lo 0)))), (2, .int (nI (mTak n (lo 0))))] [.int (bI (mLook w x n (lo 0)))] as hL := by
    refine q_istore_n dX9_meetOnce_69 rfl (by decide) ?_
    refine q_bipush (v := (-9)) dX9_meetOnce_70 rfl ?_
    refine q_istore dX9_meetOnce_72 (by decide) ?_
    refine q_iconst (v := 0) dX9_meetOnce_74 rfl ?_
    refine q_istore dX9_meetOnce_75 (by decide) ?_
    exact loop 10 0 _ _ _ (by omega) rfl rfl ⟨rfl, rfl, rfl, rfl, rfl, rfl, trivial⟩
  have b3 : drw (lotN (lotN (lo 0))) % (n - 1) < n - 1 := Nat.mod_lt _ (by omega)
  have u1 : upd (upd lo 0 (lotN (lo 0))) 0 (lotN (upd lo 0 (lotN (lo 0)) 0)) = upd lo 0 (lotN (lotN (lo 0))) := upd_upd _ _ _ _
  have u2 : upd (upd lo 0 (lotN (lotN (lo 0)))) 0 (lotN (upd lo 0 (lotN (lotN (lo 0))) 0)) = upd lo 0 (lotN (lotN (lotN (lo 0)))) := upd_upd _ _ _ _
  refine Con.of (by decide +kernel) rfl rfl (Nat.le_of_ble_eq_true rfl) ?_
  refine q_aload_n dX9_meetOnce_0 rfl rfl ?_
  refine q_aload_n dX9_meetOnce_1 rfl rfl ?_
  refine q_get dX9_meetOnce_2 fX9_meetOnce_111 (hM) rfl ?_
  rw [hn]
  refine q_callVd dX9_meetOnce_5 wX9_meetOnce_140 (n_draw (by omega) (by omega) hM hlo) (hM) ⟨_, _, rfl⟩ rfl rfl (Nat.le_of_ble_eq_true rfl) ⟨⟨Nat.le_of_ble_eq_true rfl, Nat.le_of_ble_eq_true rfl⟩, Nat.le_of_ble_eq_true rfl, Nat.le_of_ble_eq_true rfl⟩ ?_
  rw [show drw (lotN (lo 0)) % n = mPay n (lo 0) from rfl]
  refine q_istore_n dX9_meetOnce_8 rfl (by decide) ?_
  refine q_iload_n dX9_meetOnce_9 rfl rfl ?_
  refine q_iconst (v := 1) dX9_meetOnce_10 rfl ?_
  refine q_iadd dX9_meetOnce_11 ?_
  refine q_aload_n dX9_meetOnce_12 rfl rfl ?_
  refine q_aload_n dX9_meetOnce_13 rfl rfl ?_
  refine q_get dX9_meetOnce_14 fX9_meetOnce_111 (hat_ne hM e1) rfl ?_
  refine q_iconst (v := 1) dX9_meetOnce_17 rfl ?_
  refine q_isub dX9_meetOnce_18 ?_
  rw [nI_s, hn, show nI n - 1 = nI (n - 1) from pk_sub (b := 1) (by omega)]
  refine q_callVd dX9_meetOnce_19 wX9_meetOnce_140 (n_draw (by omega) (by omega) (hat_ne hM e1) (hat_set hlo)) (hat_ne hM e1) ⟨_, _, rfl⟩ rfl rfl (Nat.le_of_ble_eq_true rfl) ⟨⟨Nat.le_of_ble_eq_true rfl, Nat.le_of_ble_eq_true rfl⟩, Nat.le_of_ble_eq_true rfl, Nat.le_of_ble_eq_true rfl⟩ ?_
  rw [hset_hset, u1, show drw (lotN (upd lo 0 (lotN (lo 0)) 0)) = drw (lotN (lotN (lo 0))) from rfl]
  refine q_iadd dX9_meetOnce_22 ?_
  refine q_aload_n dX9_meetOnce_23 rfl rfl ?_
  refine q_get dX9_meetOnce_24 fX9_meetOnce_111 (hat_ne hM e1) rfl ?_
  rw [hn, nI_add]
  refine q_irem dX9_meetOnce_27 (nI_ne0 (by omega) (by omega)) ?_
  rw [pk_rem (by omega) (by omega) (by omega), show (mPay n (lo 0) + 1 + drw (lotN (lotN (lo 0))) % (n - 1)) % n = mTak n (lo 0) from rfl]
  refine q_istore_n dX9_meetOnce_28 rfl (by decide) ?_
  refine q_aload_n dX9_meetOnce_29 rfl rfl ?_
  refine q_get dX9_meetOnce_30 fX9_meetOnce_13 (hat_ne hM e1) rfl ?_
  refine q_iload_n dX9_meetOnce_33 rfl rfl ?_
  refine q_iald dX9_meetOnce_34 (hat_ne hw e7) (in_nI (show mTak n (lo 0) < 16 by omega) (by omega)) ?_
  refine q_iconst (v := 1) dX9_meetOnce_35 rfl ?_
  rw [nI_clamp (by omega)]
  refine q_icmp_eq 64 dX9_meetOnce_36 (by decide) (fun cA => ?_) (fun cA => ?_)
  · refine q_iconst (v := 1) dX9_meetOnce_64 rfl ?_
    refine q_goto 69 dX9_meetOnce_65 (by decide) ?_
    first
    | (refine V.hp (V.stk (V.at mid ⟨rfl, rfl, rfl, trivial⟩) ?_) ?_
       · unfold mLook; rw [if_pos cB, decide_eq_true (Int32.not_le.mp cC)]; rfl
       · rw [← qL]; unfold mLot; rw [if_pos cB])
    | (refine V.hp (V.stk (V.at mid ⟨rfl, rfl, rfl, trivial⟩) ?_) ?_
       · unfold mLook; rw [if_neg (fun e => by rw [cA] at e; exact absurd e (by decide)), decide_eq_true cA]; rfl
       · rw [← qL]; unfold mLot; rw [if_neg (fun e => by rw [cA] at e; exact absurd e (by decide))])
  · refine q_aload_n dX9_meetOnce_39 rfl rfl ?_
    refine q_get dX9_meetOnce_40 fX9_meetOnce_13 (hat_ne hM e1) rfl ?_
    refine q_iload_n dX9_meetOnce_43 rfl rfl ?_
    refine q_iald dX9_meetOnce_44 (hat_ne hw e7) (in_nI (show mTak n (lo 0) < 16 by omega) (by omega)) ?_
    refine q_iconst (v := 2) dX9_meetOnce_45 rfl ?_
    rw [nI_clamp (by omega)]
    refine q_icmp_ne 68 dX9_meetOnce_46 (by decide) (fun cB => ?_) (fun cB => ?_)
    · refine q_iconst (v := 0) dX9_meetOnce_68 rfl ?_
      first
      | (refine V.hp (V.stk (V.at mid ⟨rfl, rfl, rfl, trivial⟩) ?_) ?_
         · unfold mLook; rw [if_pos cB, decide_eq_false (Int32.not_lt.mpr cC)]; rfl
         · rw [← qL]; unfold mLot; rw [if_pos cB])
      | (refine V.hp (V.stk (V.at mid ⟨rfl, rfl, rfl, trivial⟩) ?_) ?_
         · unfold mLook; rw [if_neg cB, decide_eq_false cA]; rfl
         · rw [← qL]; unfold mLot; rw [if_neg cB])
    · refine q_aload_n dX9_meetOnce_49 rfl rfl ?_
      refine q_bipush (v := 10) dX9_meetOnce_50 rfl ?_
      refine q_callVd dX9_meetOnce_52 wX9_meetOnce_140 (n_draw (k := 10) (by omega) (by omega) (hat_ne hM e1) (hat_set hlo)) (hat_ne hM e1) ⟨_, _, rfl⟩ rfl rfl (Nat.le_of_ble_eq_true rfl) ⟨⟨Nat.le_of_ble_eq_true rfl, Nat.le_of_ble_eq_true rfl⟩, Nat.le_of_ble_eq_true rfl, Nat.le_of_ble_eq_true rfl⟩ ?_
      rw [hset_hset, u2, show drw (lotN (upd lo 0 (lotN (lotN (lo 0))) 0)) = drw (lotN (lotN (lotN (lo 0)))) from rfl]
      refine q_aload_n dX9_meetOnce_55 rfl rfl ?_
      refine q_get dX9_meetOnce_56 fX9_meetOnce_17 (hat_ne hM e1) rfl ?_
      refine q_iload_n dX9_meetOnce_59 rfl rfl ?_
      refine q_iald dX9_meetOnce_60 (hat_ne hx e8) (in_nI (show mTak n (lo 0) < 16 by omega) (by omega)) ?_
      rw [nI_clamp (by omega)]
      refine q_icmp_ge 68 dX9_meetOnce_61 (by decide) (fun cC => ?_) (fun cC => ?_)
      · refine q_iconst (v := 0) dX9_meetOnce_68 rfl ?_
        first
        | (refine V.hp (V.stk (V.at mid ⟨rfl, rfl, rfl, trivial⟩) ?_) ?_
           · unfold mLook; rw [if_pos cB, decide_eq_false (Int32.not_lt.mpr cC)]; rfl
           · rw [← qL]; unfold mLot; rw [if_pos cB])
        | (refine V.hp (V.stk (V.at mid ⟨rfl, rfl, rfl, trivial⟩) ?_) ?_
           · unfold mLook; rw [if_neg cB, decide_eq_false cA]; rfl
           · rw [← qL]; unfold mLot; rw [if_neg cB])
      · refine q_iconst (v := 1) dX9_meetOnce_64 rfl ?_
        refine q_goto 69 dX9_meetOnce_65 (by decide) ?_
        first
        | (refine V.hp (V.stk (V.at mid ⟨rfl, rfl, rfl, trivial⟩) ?_) ?_
           · unfold mLook; rw [if_pos cB, decide_eq_true (Int32.not_le.mp cC)]; rfl
           · rw [← qL]; unfold mLot; rw [if_pos cB])
        | (refine V.hp (V.stk (V.at mid ⟨rfl, rfl, rfl, trivial⟩) ?_) ?_
           · unfold mLook; rw [if_neg (fun e => by rw [cA] at e; exact absurd e (by decide)), decide_eq_true cA]; rfl
           · rw [← qL]; unfold mLot; rw [if_neg (fun e => by rw [cA] at e; exact absurd e (by decide))])
end

