/-! THE REFERENCE (X9): town -/
section
variable {Γ : gT} {l : Launch} {as : List Nat} {h : aH} {m : Nat} {tc : Int64} {r : Nat → Nat} {z : Nat → Int32} {t : Nat → Nat} {len a s e : Nat} {bm : Nat → Int32} {w x y o f kp mt : Nat → Int32} {Z : zT} {ls : List (Nat × Value)}
theorem n_dueN (d : D9 as m r) (hb : h (r 1) = aB Γ 300 bm) (ht : ∀ j, j < len → bm j = byt (t j) ∧ t j < 256) (hl : len ≤ 300) (h2 : z 2 = nI len) {S : St} {b : Bool} (hS : okS len S) : Det Γ l mX9_due rX9_due [.ref m, .int (bI b)] as (N8 Γ m r tc h (mz z S) w x y o f kp mt) (some (.int (nI S.1.2.2.2))) (N8 Γ m r tc h (mz z (dueM t len S b)) w x y o f kp mt) := by
  have q := n_due (Γ := Γ) (l := l) (t := t) (b := b) hS hl (N8m (Γ := Γ) (tc := tc) (h := h) (z := mz z S) (w := w) (x := x) (y := y) (o := o) (f := f) (kp := kp) (mt := mt) d) h2 (N8b d hb) ht
  rw [N8_m] at q
  exact q
theorem tw5 (d : D9 as m r) (hb : h (r 1) = aB Γ 300 bm) (ht : ∀ j, j < len → bm j = byt (t j) ∧ t j < 256) (hl : len ≤ 300) (h2 : z 2 = nI len) {S : St} {v1 : Int32} (hS : okS len S) (K : ∀ ls' : List (Nat × Value), lin ls' [(0, .ref m), (1, .int (v1 + 1))] → V Γ l mX9_town rX9_town Z 0 0 17 ls' [] as (N8 Γ m r tc h (mz z (mT5 t len S)) w x y o f kp mt)) (hls : lin ls [(0, .ref m), (1, .int v1)]) : V Γ l mX9_town rX9_town Z 0 0 187 ls [] as (N8 Γ m r tc h (mz z S) w x y o f kp mt) := by
  have h5 := hS.2.2.1
  have j : ∀ p : Int32, p = bI (mB5 S) → V Γ l mX9_town rX9_town Z 0 0 201 [(0, .ref m), (1, .int v1)] [.int p, .ref m] as (N8 Γ m r tc h (mz z S) w x y o f kp mt) := by
    intro p hp
    subst hp
    refine q_callVd dX9_town_201 wX9_town_107 (n_dueN d hb ht hl h2 hS) (N8m d) ⟨_, _, rfl⟩ rfl rfl (Nat.le_of_ble_eq_true rfl) ⟨⟨Nat.le_of_ble_eq_true rfl, Nat.le_of_ble_eq_true rfl⟩, Nat.le_of_ble_eq_true rfl, Nat.le_of_ble_eq_true rfl⟩ ?_
    refine q_pop dX9_town_204 rfl ?_
    refine q_iinc1 dX9_town_205 rfl (by decide) ?_
    refine q_goto 17 dX9_town_208 (by decide) ?_
    exact K _ ⟨rfl, rfl, trivial⟩
  refine V.at ?_ hls
  refine q_aload_n dX9_town_187 rfl rfl ?_
  refine q_aload_n dX9_town_188 rfl rfl ?_
  refine q_get dX9_town_189 fX9_town_76 (N8m d) rfl ?_
  refine q_iconst (v := 4) dX9_town_192 rfl ?_
  refine q_icmp_ne 200 dX9_town_193 (by decide) (fun c193 => ?_) (fun c193 => ?_)
  · refine q_iconst (v := 0) dX9_town_200 rfl ?_
    exact V.at (j 0 (by unfold mB5; rw [decide_eq_false (fun q => c193 (by show nI S.1.2.2.1 = 4; rw [q]; rfl))]; rfl)) ⟨rfl, rfl, trivial⟩
  · refine q_iconst (v := 1) dX9_town_196 rfl ?_
    refine q_goto 201 dX9_town_197 (by decide) ?_
    exact V.at (j 1 (by unfold mB5; rw [decide_eq_true ((nI_eq (b := 4) (by omega) (by omega)).mp c193)]; rfl)) ⟨rfl, rfl, trivial⟩
theorem tw4 (d : D9 as m r) (hb : h (r 1) = aB Γ 300 bm) (ht : ∀ j, j < len → bm j = byt (t j) ∧ t j < 256) (hl : len ≤ 300) (h2 : z 2 = nI len) {S : St} {v1 : Int32} {k : Nat} (hk : k < 16) (hS : okS len S) (K : ∀ ls' : List (Nat × Value), lin ls' [(0, .ref m), (1, .int v1)] → V Γ l mX9_town rX9_town Z 0 0 187 ls' [] as (N8 Γ m r tc h (mz z (mT4 t len S)) w x y (upd o k (nI S.1.2.2.2)) f kp mt)) (hls : lin ls [(0, .ref m), (1, .int v1), (2, .int (nI k))]) : V Γ l mX9_town rX9_town Z 0 0 155 ls [] as (N8 Γ m r tc h (mz z S) w x y o f kp mt) := by
  have h5 := hS.2.2.1
  have h9 := hS.2.2.2.1
  have j : ∀ p : Int32, p = bI (mB4 S) → V Γ l mX9_town rX9_town Z 0 0 183 [(0, .ref m), (1, .int v1), (2, .int (nI k))] [.int p, .ref m, .int (nI k), .ref (r 7)] as (N8 Γ m r tc h (mz z S) w x y o f kp mt) := by
    intro p hp
    subst hp
    refine q_callVd dX9_town_183 wX9_town_107 (n_dueN d hb ht hl h2 hS) (N8m d) ⟨_, _, rfl⟩ rfl rfl (Nat.le_of_ble_eq_true rfl) ⟨⟨Nat.le_of_ble_eq_true rfl, Nat.le_of_ble_eq_true rfl⟩, Nat.le_of_ble_eq_true rfl, Nat.le_of_ble_eq_true rfl⟩ ?_
    refine q_iast dX9_town_186 (N8o d) (in_nI hk (by omega)) ?_
    refine V.hp (h' := N8 Γ m r tc h (mz z (mT4 t len S)) w x y (upd o k (nI S.1.2.2.2)) f kp mt) (K _ ⟨rfl, rfl, trivial⟩) (by rw [nI_clamp (by omega)]; exact N8_o d)
  refine V.at ?_ hls
  refine q_aload_n dX9_town_155 rfl rfl ?_
  refine q_get dX9_town_156 fX9_town_23 (N8m d) rfl ?_
  refine q_iload_n dX9_town_159 rfl rfl ?_
  refine q_aload_n dX9_town_160 rfl rfl ?_
  refine q_aload_n dX9_town_161 rfl rfl ?_
  refine q_get dX9_town_162 fX9_town_76 (N8m d) rfl ?_
  refine q_iconst (v := 3) dX9_town_165 rfl ?_
  refine q_icmp_ne 182 dX9_town_166 (by decide) (fun c166 => ?_) (fun c166 => ?_)
  · refine q_iconst (v := 0) dX9_town_182 rfl ?_
    refine V.at (j 0 ?_) ⟨rfl, rfl, rfl, trivial⟩
    unfold mB4
    first | rw [decide_eq_false (p := S.1.2.2.2 ≤ 8) (fun q => absurd c175 (nI_nlt (a := 8) q (by omega))), Bool.and_false]; rfl | rw [decide_eq_false (p := S.1.2.2.1 = 3) (fun q => c166 (by show nI S.1.2.2.1 = 3; rw [q]; rfl)), Bool.false_and]; rfl
  · have q1 : S.1.2.2.1 = 3 := (nI_eq (b := 3) (by omega) (by omega)).mp c166
    refine q_aload_n dX9_town_169 rfl rfl ?_
    refine q_get dX9_town_170 fX9_town_83 (N8m d) rfl ?_
    refine q_bipush (v := 8) dX9_town_173 rfl ?_
    refine q_icmp_gt 182 dX9_town_175 (by decide) (fun c175 => ?_) (fun c175 => ?_)
    · refine q_iconst (v := 0) dX9_town_182 rfl ?_
      refine V.at (j 0 ?_) ⟨rfl, rfl, rfl, trivial⟩
      unfold mB4
      first | rw [decide_eq_false (p := S.1.2.2.2 ≤ 8) (fun q => absurd c175 (nI_nlt (a := 8) q (by omega))), Bool.and_false]; rfl | rw [decide_eq_false (p := S.1.2.2.1 = 3) (fun q => c166 (by show nI S.1.2.2.1 = 3; rw [q]; rfl)), Bool.false_and]; rfl
    · refine q_iconst (v := 1) dX9_town_178 rfl ?_
      refine q_goto 183 dX9_town_179 (by decide) ?_
      exact V.at (j 1 (by unfold mB4; rw [decide_eq_true q1, decide_eq_true (p := S.1.2.2.2 ≤ 8) (Nat.le_of_not_lt (fun q => c175 (nI_lt (a := 8) q (by omega))))]; rfl)) ⟨rfl, rfl, rfl, trivial⟩
theorem tw3 (d : D9 as m r) (hb : h (r 1) = aB Γ 300 bm) (ht : ∀ j, j < len → bm j = byt (t j) ∧ t j < 256) (hl : len ≤ 300) (h2 : z 2 = nI len) {S : St} {v1 : Int32} {k : Nat} (hk : k < 16) (hS : okS len S) (K : ∀ ls' : List (Nat × Value), lin ls' [(0, .ref m), (1, .int v1), (2, .int (nI k))] → V Γ l mX9_town rX9_town Z 0 0 155 ls' [] as (N8 Γ m r tc h (mz z (mT3 t len S)) w x (upd y k (nI S.1.2.2.2)) o f kp mt)) (hls : lin ls [(0, .ref m), (1, .int v1), (2, .int (nI k))]) : V Γ l mX9_town rX9_town Z 0 0 132 ls [] as (N8 Γ m r tc h (mz z S) w x y o f kp mt) := by
  have h5 := hS.2.2.1
  have j : ∀ p : Int32, p = bI (mB3 S) → V Γ l mX9_town rX9_town Z 0 0 151 [(0, .ref m), (1, .int v1), (2, .int (nI k))] [.int p, .ref m, .int (nI k), .ref (r 6)] as (N8 Γ m r tc h (mz z S) w x y o f kp mt) := by
    intro p hp
    subst hp
    refine q_callVd dX9_town_151 wX9_town_107 (n_dueN d hb ht hl h2 hS) (N8m d) ⟨_, _, rfl⟩ rfl rfl (Nat.le_of_ble_eq_true rfl) ⟨⟨Nat.le_of_ble_eq_true rfl, Nat.le_of_ble_eq_true rfl⟩, Nat.le_of_ble_eq_true rfl, Nat.le_of_ble_eq_true rfl⟩ ?_
    refine q_iast dX9_town_154 (N8y d) (in_nI hk (by omega)) ?_
    refine V.hp (h' := N8 Γ m r tc h (mz z (mT3 t len S)) w x (upd y k (nI S.1.2.2.2)) o f kp mt) (K _ ⟨rfl, rfl, rfl, trivial⟩) (by rw [nI_clamp (by omega)]; exact N8_y d)
  refine V.at ?_ hls
  refine q_aload_n dX9_town_132 rfl rfl ?_
  refine q_get dX9_town_133 fX9_town_20 (N8m d) rfl ?_
  refine q_iload_n dX9_town_136 rfl rfl ?_
  refine q_aload_n dX9_town_137 rfl rfl ?_
  refine q_aload_n dX9_town_138 rfl rfl ?_
  refine q_get dX9_town_139 fX9_town_76 (N8m d) rfl ?_
  refine q_iconst (v := 2) dX9_town_142 rfl ?_
  refine q_icmp_ne 150 dX9_town_143 (by decide) (fun c143 => ?_) (fun c143 => ?_)
  · refine q_iconst (v := 0) dX9_town_150 rfl ?_
    exact V.at (j 0 (by unfold mB3; rw [decide_eq_false (fun q => c143 (by show nI S.1.2.2.1 = 2; rw [q]; rfl))]; rfl)) ⟨rfl, rfl, rfl, trivial⟩
  · refine q_iconst (v := 1) dX9_town_146 rfl ?_
    refine q_goto 151 dX9_town_147 (by decide) ?_
    exact V.at (j 1 (by unfold mB3; rw [decide_eq_true ((nI_eq (b := 2) (by omega) (by omega)).mp c143)]; rfl)) ⟨rfl, rfl, rfl, trivial⟩
theorem tw2 (d : D9 as m r) (hb : h (r 1) = aB Γ 300 bm) (ht : ∀ j, j < len → bm j = byt (t j) ∧ t j < 256) (hl : len ≤ 300) (h2 : z 2 = nI len) {S : St} {S9 : sT} {v1 : Int32} {k : Nat} (hk : k < 16) (hS : okS len S) (h9 : S9.2.2.2 ≤ 999) (hwk : w k = nI S9.2.2.2) (K : ∀ ls' : List (Nat × Value), lin ls' [(0, .ref m), (1, .int v1), (2, .int (nI k))] → V Γ l mX9_town rX9_town Z 0 0 132 ls' [] as (N8 Γ m r tc h (mz z (mT2 t len (mCB S9 S) S)) w (upd x k (nI (if mCB S9 S then S.1.2.2.2 else 0))) y o f kp mt)) (hls : lin ls [(0, .ref m), (1, .int v1), (2, .int (nI k))]) : V Γ l mX9_town rX9_town Z 0 0 77 ls [] as (N8 Γ m r tc h (mz z S) w x y o f kp mt) := by
  have h5 := hS.2.2.1
  have hv := hS.2.2.2.1
  have j1 : ∀ (p : Int32) (S' : St), mT2 t len (mCB S9 S) S = S' → p = nI (if mCB S9 S then S.1.2.2.2 else 0) → V Γ l mX9_town rX9_town Z 0 0 131 [(0, .ref m), (1, .int v1), (2, .int (nI k))] [.int p, .int (nI k), .ref (r 5)] as (N8 Γ m r tc h (mz z S') w x y o f kp mt) := by
    intro p S' hS' hp
    subst hp hS'
    refine q_iast dX9_town_131 (N8x d) (in_nI hk (by omega)) ?_
    refine V.hp (h' := N8 Γ m r tc h (mz z (mT2 t len (mCB S9 S) S)) w (upd x k (nI (if mCB S9 S then S.1.2.2.2 else 0))) y o f kp mt) (K _ ⟨rfl, rfl, rfl, trivial⟩) (by rw [nI_clamp (by omega)]; exact N8_x d)
  have j : ∀ p : Int32, mCB S9 S = true → p = bI (mB2 S) → V Γ l mX9_town rX9_town Z 0 0 124 [(0, .ref m), (1, .int v1), (2, .int (nI k))] [.int p, .ref m, .int (nI k), .ref (r 5)] as (N8 Γ m r tc h (mz z S) w x y o f kp mt) := by
    intro p hc hp
    subst hp
    refine q_callVd dX9_town_124 wX9_town_107 (n_dueN d hb ht hl h2 hS) (N8m d) ⟨_, _, rfl⟩ rfl rfl (Nat.le_of_ble_eq_true rfl) ⟨⟨Nat.le_of_ble_eq_true rfl, Nat.le_of_ble_eq_true rfl⟩, Nat.le_of_ble_eq_true rfl, Nat.le_of_ble_eq_true rfl⟩ ?_
    refine q_goto 131 dX9_town_127 (by decide) ?_
    exact V.at (j1 _ _ (by rw [hc]; rfl) (by rw [hc]; rfl)) ⟨rfl, rfl, rfl, trivial⟩
  have jn : mCB S9 S = false → V Γ l mX9_town rX9_town Z 0 0 130 [(0, .ref m), (1, .int v1), (2, .int (nI k))] [.int (nI k), .ref (r 5)] as (N8 Γ m r tc h (mz z S) w x y o f kp mt) := by
    intro hc
    refine q_iconst (v := 0) dX9_town_130 rfl ?_
    exact V.at (j1 _ _ (by rw [hc]; rfl) (by rw [hc]; rfl)) ⟨rfl, rfl, rfl, trivial⟩
  have nf : ¬ ftI S.2 = -9 → mCB S9 S = false := by
    intro q
    unfold mCB
    rw [decide_eq_false (p := S.2 = none) (fun e => q (by rw [e]; rfl)), Bool.false_and]
  have nv : ¬ nI S9.2.2.2 = 2 → mCB S9 S = false := by
    intro q
    unfold mCB
    rw [decide_eq_false (p := S9.2.2.2 = 2) (fun e => q (by rw [e]; rfl)), Bool.and_false]
  have yf : ftI S.2 = -9 → nI S9.2.2.2 = 2 → mCB S9 S = true := by
    intro q1 q2
    unfold mCB
    rw [decide_eq_true (p := S9.2.2.2 = 2) ((nI_eq (b := 2) (by omega) (by omega)).mp q2), Bool.and_true]
    refine decide_eq_true ?_
    cases e : S.2 with
    | none => rfl
    | some f0 =>
      rw [e] at q1
      exact absurd q1 (ft_ne (by have := hS.2.2.2.2 f0 e; omega))
  refine V.at ?_ hls
  refine q_aload_n dX9_town_77 rfl rfl ?_
  refine q_get dX9_town_78 fX9_town_17 (N8m d) rfl ?_
  refine q_iload_n dX9_town_81 rfl rfl ?_
  refine q_aload_n dX9_town_82 rfl rfl ?_
  refine q_get dX9_town_83 fX9_town_101 (N8m d) rfl ?_
  refine q_bipush (v := (-9)) dX9_town_86 rfl ?_
  refine q_icmp_ne 130 dX9_town_88 (by decide) (fun c88 => ?_) (fun c88 => ?_)
  · first | exact V.at (jn (nv c98)) ⟨rfl, rfl, rfl, trivial⟩ | exact V.at (jn (nf c88)) ⟨rfl, rfl, rfl, trivial⟩
  · refine q_aload_n dX9_town_91 rfl rfl ?_
    refine q_get dX9_town_92 fX9_town_13 (N8m d) rfl ?_
    refine q_iload_n dX9_town_95 rfl rfl ?_
    refine q_iald dX9_town_96 (N8w d) (in_nI hk (by omega)) ?_
    rw [nI_clamp (by omega), hwk]
    refine q_iconst (v := 2) dX9_town_97 rfl ?_
    refine q_icmp_ne 130 dX9_town_98 (by decide) (fun c98 => ?_) (fun c98 => ?_)
    · first | exact V.at (jn (nv c98)) ⟨rfl, rfl, rfl, trivial⟩ | exact V.at (jn (nf c88)) ⟨rfl, rfl, rfl, trivial⟩
    · have hc := yf c88 c98
      refine q_aload_n dX9_town_101 rfl rfl ?_
      refine q_aload_n dX9_town_102 rfl rfl ?_
      refine q_get dX9_town_103 fX9_town_76 (N8m d) rfl ?_
      refine q_iconst (v := 3) dX9_town_106 rfl ?_
      refine q_icmp_ne 123 dX9_town_107 (by decide) (fun c107 => ?_) (fun c107 => ?_)
      · refine q_iconst (v := 0) dX9_town_123 rfl ?_
        refine V.at (j 0 hc ?_) ⟨rfl, rfl, rfl, trivial⟩
        unfold mB2
        first | rw [decide_eq_false (p := S.1.2.2.2 ≤ 10) (fun q => absurd c116 (nI_nlt (a := 10) q (by omega))), Bool.and_false]; rfl | rw [decide_eq_false (p := S.1.2.2.1 = 3) (fun q => c107 (by show nI S.1.2.2.1 = 3; rw [q]; rfl)), Bool.false_and]; rfl
      · have q1 : S.1.2.2.1 = 3 := (nI_eq (b := 3) (by omega) (by omega)).mp c107
        refine q_aload_n dX9_town_110 rfl rfl ?_
        refine q_get dX9_town_111 fX9_town_83 (N8m d) rfl ?_
        refine q_bipush (v := 10) dX9_town_114 rfl ?_
        refine q_icmp_gt 123 dX9_town_116 (by decide) (fun c116 => ?_) (fun c116 => ?_)
        · refine q_iconst (v := 0) dX9_town_123 rfl ?_
          refine V.at (j 0 hc ?_) ⟨rfl, rfl, rfl, trivial⟩
          unfold mB2
          first | rw [decide_eq_false (p := S.1.2.2.2 ≤ 10) (fun q => absurd c116 (nI_nlt (a := 10) q (by omega))), Bool.and_false]; rfl | rw [decide_eq_false (p := S.1.2.2.1 = 3) (fun q => c107 (by show nI S.1.2.2.1 = 3; rw [q]; rfl)), Bool.false_and]; rfl
        · refine q_iconst (v := 1) dX9_town_119 rfl ?_
          refine q_goto 124 dX9_town_120 (by decide) ?_
          exact V.at (j 1 hc (by unfold mB2; rw [decide_eq_true q1, decide_eq_true (p := S.1.2.2.2 ≤ 10) (Nat.le_of_not_lt (fun q => c116 (nI_lt (a := 10) q (by omega))))]; rfl)) ⟨rfl, rfl, rfl, trivial⟩
theorem kx_lt {p : Nat} : kx p < 16 := by
  unfold kx
  split <;> omega
theorem kx_ge {p : Nat} : 8 ≤ kx p := by
  unfold kx
  omega
theorem tw1 (d : D9 as m r) (hb : h (r 1) = aB Γ 300 bm) (ht : ∀ j, j < len → bm j = byt (t j) ∧ t j < 256) (hl : len ≤ 300) (h2 : z 2 = nI len) {S9 : sT} {p : Nat} (hp : p ≤ 8) (hS : okS len (S9, none)) (K : ∀ ls' : List (Nat × Value), lin ls' [(0, .ref m), (1, .int (nI p)), (2, .int (nI (kx p)))] → V Γ l mX9_town rX9_town Z 0 0 77 ls' [] as (N8 Γ m r tc h (mz z (mT1 t len p S9)) (upd w (kx p) (nI S9.2.2.2)) x y o f kp mt)) (hls : lin ls [(0, .ref m), (1, .int (nI p))]) : V Γ l mX9_town rX9_town Z 0 0 33 ls [] as (N8 Γ m r tc h (mz z (S9, none)) w x y o f kp mt) := by
  have h5 : S9.2.2.1 ≤ 5 := hS.2.2.1
  have hk := kx_lt (p := p)
  have j : ∀ q : Int32, q = bI (mB1 p S9) → V Γ l mX9_town rX9_town Z 0 0 73 [(0, .ref m), (1, .int (nI p)), (2, .int (nI (kx p)))] [.int q, .ref m, .int (nI (kx p)), .ref (r 4)] as (N8 Γ m r tc h (mz z (S9, none)) w x y o f kp mt) := by
    intro q hq
    subst hq
    refine q_callVd dX9_town_73 wX9_town_107 (n_dueN d hb ht hl h2 hS) (N8m d) ⟨_, _, rfl⟩ rfl rfl (Nat.le_of_ble_eq_true rfl) ⟨⟨Nat.le_of_ble_eq_true rfl, Nat.le_of_ble_eq_true rfl⟩, Nat.le_of_ble_eq_true rfl, Nat.le_of_ble_eq_true rfl⟩ ?_
    refine q_iast dX9_town_76 (N8w d) (in_nI hk (by omega)) ?_
    refine V.hp (h' := N8 Γ m r tc h (mz z (mT1 t len p S9)) (upd w (kx p) (nI S9.2.2.2)) x y o f kp mt) (K _ ⟨rfl, rfl, rfl, trivial⟩) (by rw [nI_clamp (by omega)]; exact N8_w d)
  have j46 : ∀ q : Int32, 8 + q = nI (kx p) → V Γ l mX9_town rX9_town Z 0 0 46 [(0, .ref m), (1, .int (nI p))] [.int q, .int 8] as (N8 Γ m r tc h (mz z (S9, none)) w x y o f kp mt) := by
    intro q hq
    refine q_iadd dX9_town_46 ?_
    rw [hq]
    refine q_istore_n dX9_town_47 rfl (by decide) ?_
    refine q_aload_n dX9_town_48 rfl rfl ?_
    refine q_get dX9_town_49 fX9_town_13 (N8m d) rfl ?_
    refine q_iload_n dX9_town_52 rfl rfl ?_
    refine q_aload_n dX9_town_53 rfl rfl ?_
    refine q_aload_n dX9_town_54 rfl rfl ?_
    refine q_get dX9_town_55 fX9_town_76 (N8m d) rfl ?_
    refine q_iconst (v := 1) dX9_town_58 rfl ?_
    refine q_icmp_ne 72 dX9_town_59 (by decide) (fun c59 => ?_) (fun c59 => ?_)
    · refine q_iconst (v := 0) dX9_town_72 rfl ?_
      refine V.at (j 0 ?_) ⟨rfl, rfl, rfl, trivial⟩
      unfold mB1
      first | rw [decide_eq_false (p := p < 8) (fun q => absurd c65 (nI_ge (b := 8) q (by omega))), Bool.and_false]; rfl | rw [decide_eq_false (p := S9.2.2.1 = 1) (fun q => c59 (by show nI S9.2.2.1 = 1; rw [q]; rfl)), Bool.false_and]; rfl
    · have q1 : S9.2.2.1 = 1 := (nI_eq (b := 1) (by omega) (by omega)).mp c59
      refine q_iload_n dX9_town_62 rfl rfl ?_
      refine q_bipush (v := 8) dX9_town_63 rfl ?_
      refine q_icmp_ge 72 dX9_town_65 (by decide) (fun c65 => ?_) (fun c65 => ?_)
      · refine q_iconst (v := 0) dX9_town_72 rfl ?_
        refine V.at (j 0 ?_) ⟨rfl, rfl, rfl, trivial⟩
        unfold mB1
        first | rw [decide_eq_false (p := p < 8) (fun q => absurd c65 (nI_ge (b := 8) q (by omega))), Bool.and_false]; rfl | rw [decide_eq_false (p := S9.2.2.1 = 1) (fun q => c59 (by show nI S9.2.2.1 = 1; rw [q]; rfl)), Bool.false_and]; rfl
      · refine q_iconst (v := 1) dX9_town_68 rfl ?_
        refine q_goto 73 dX9_town_69 (by decide) ?_
        exact V.at (j 1 (by unfold mB1; rw [decide_eq_true q1, decide_eq_true (p := p < 8) (Nat.lt_of_not_le (fun q => c65 (nI_le (a := 8) q (by omega))))]; rfl)) ⟨rfl, rfl, rfl, trivial⟩
  refine V.at ?_ hls
  refine q_bipush (v := 8) dX9_town_33 rfl ?_
  refine q_iload_n dX9_town_35 rfl rfl ?_
  refine q_bipush (v := 8) dX9_town_36 rfl ?_
  refine q_icmp_ge 45 dX9_town_38 (by decide) (fun c38 => ?_) (fun c38 => ?_)
  · refine q_iconst (v := 0) dX9_town_45 rfl ?_
    exact V.at (j46 0 (by unfold kx; rw [if_neg (fun q => absurd c38 (nI_ge (b := 8) q (by omega)))]; rfl)) ⟨rfl, rfl, trivial⟩
  · refine q_iload_n dX9_town_41 rfl rfl ?_
    refine q_goto 46 dX9_town_42 (by decide) ?_
    exact V.at (j46 (nI p) (by unfold kx; rw [if_pos (Nat.lt_of_not_le (fun q => c38 (nI_le (a := 8) q (by omega))))]; exact nI_add 8 p)) ⟨rfl, rfl, trivial⟩
theorem twB (d : D9 as m r) (hb : h (r 1) = aB Γ 300 bm) (ht : ∀ j, j < len → bm j = byt (t j) ∧ t j < 256) (hl : len ≤ 300) (h2 : z 2 = nI len) {S9 : sT} {p : Nat} (hp : p ≤ 8) (hS : okS len (S9, none)) (K : ∀ ls' : List (Nat × Value), lin ls' [(0, .ref m), (1, .int (nI (p + 1)))] → V Γ l mX9_town rX9_town Z 0 0 17 ls' [] as (N8 Γ m r tc h (mz z (mU5 t len p S9)) (upd w (kx p) (nI S9.2.2.2)) (upd x (kx p) (nI (mX1 t len p S9))) (upd y (kx p) (nI (mU2 t len p S9).1.2.2.2)) (upd o (kx p) (nI (mU3 t len p S9).1.2.2.2)) f kp mt)) (hls : lin ls [(0, .ref m), (1, .int (nI p))]) : V Γ l mX9_town rX9_town Z 0 0 33 ls [] as (N8 Γ m r tc h (mz z (S9, none)) w x y o f kp mt) := by
  obtain ⟨o1, o2, o3, o4, o5⟩ := mU5_ok (t := t) (p := p) hS
  refine tw1 d hb ht hl h2 hp hS (fun ls1 h1 => ?_) hls
  refine tw2 (S9 := S9) d hb ht hl h2 kx_lt o1 hS.2.2.2.1 pk_us (fun ls2 h3 => ?_) h1
  refine tw3 d hb ht hl h2 kx_lt o2 (fun ls3 h4 => ?_) h3
  refine tw4 d hb ht hl h2 kx_lt o3 (fun ls4 h5 => ?_) h4
  refine tw5 d hb ht hl h2 o4 (fun ls5 h6 => ?_) h5
  exact K ls5 (by rw [nI_s] at h6; exact h6)
end

