/-! THE LAW: its cases -/
theorem vOK_i {v : Value} (h : vOK (some .int) v) : ∃ i : Int32, v = .int i := by
  cases v <;> first | exact ⟨_, rfl⟩ | exact False.elim h
theorem vOK_l {v : Value} (h : vOK (some .long) v) : ∃ i : Int64, v = .long i := by
  cases v <;> first | exact ⟨_, rfl⟩ | exact False.elim h
theorem lgc_s (x : Int64) : lg_cmp x x = 0 := by
  unfold lg_cmp
  rw [if_neg (show ¬ x > x from Int64.lt_irrefl), if_pos rfl]
def sc (Γ : gT) (j : Nat) : Int32 := Γ.2.2.2.2.2 j
theorem sc_in {Γ : gT} {i k : Nat} (h : i + k < Γ.2.2.2.2.1) (hN : Γ.2.2.2.2.1 ≤ 2560) : vp_in (nI i + nI k) Γ.2.2.2.2.1 := by rw [nI_add]; exact vp_in_nI h (by omega)
theorem sc_v {Γ : gT} {i k : Nat} (h : i + k < 2560) : (fun j => Value.int (Γ.2.2.2.2.2 j)) (nI i + nI k).toNatClampNeg = .int (sc Γ (i + k)) := by
  show Value.int (Γ.2.2.2.2.2 (nI i + nI k).toNatClampNeg) = _
  rw [nI_add, nI_clamp (by omega)]
  rfl
abbrev lsL (Γ : gT) (X m : Nat) (x : Int32) : List (Nat × Value) := [(0, .ref (gX Γ 1000)), (1, .ref X), (2, .ref m), (3, .int x)]
section
variable {Γ : gT} {l : Launch} {Z : zT} {as : List Nat} {h : aH} {X m i : Nat} {ls : List (Nat × Value)}
theorem q_sc {μ : mT} {R : Room} {kc ks pc k : Nat} {st : List Value} (c : Int32) (hc : c = nI k) (hd : decode μ.2.2.1 pc = .ok (.iaload, 1)) (hi : i + k < Γ.2.2.2.2.1) (hN : Γ.2.2.2.2.1 ≤ 2560) (kk : V Γ l μ R Z kc ks (pc + 1) ls (.int (sc Γ (i + k)) :: st) as h) : V Γ l μ R Z kc ks pc ls (.int (nI i + c) :: .ref (gX Γ 1000) :: st) as h := by
  subst hc
  exact q_ti hd (fun U H q => q.1) (sc_in hi hN) (sc_v (by omega)) kk
theorem q_callVc {μ : mT} {R : Room} {kc ks pc : Nat} {st : List Value} {index na a ci : Nat} {μ' : mT} {fr lo : Nat} {fs As : List Value} {Q' : qT} {st0 : List Value} (hd : decode μ.2.2.1 pc = .ok (.invokevirtual index, 3)) (cw : CWV μ index μ' na) (hM : Con Γ l μ' { frames := fr, cells := 0, slots := 0, locals := lo } (.ref a :: As) as h Q') (ha : hat as h a (ob ci fs)) (hci : ∃ T N, vwCl[ci]? = some (μ'.2.1, T, N)) (hna : As.length = na) (hst : st0 = As.reverse ++ .ref a :: st) (hcat : (st.map fun v => v.category).sum ≤ 8) (hR : fitR R μ' { frames := fr, cells := 0, slots := 0, locals := lo } kc ks)
    (k : ∀ (r : Option Value) (as' : List Nat) (h' : aH), Q' r as' h' → V Γ l μ R Z kc ks (pc + 3) ls (r.toList ++ st) as' h') : V Γ l μ R Z kc ks pc ls st0 as h := q_callV hd cw ha hci hM hna hst hcat hR k
theorem lw_c0 (hi : INV Γ as X m h) (hL : i + 5 ≤ Γ.2.2.2.2.1) (hN : Γ.2.2.2.2.1 ≤ 2560) (K : ∀ (h1 : aH) (ls1 : List (Nat × Value)), INV Γ as X m h1 → lin ls1 (lsL Γ X m (nI i)) → V Γ l mL_law room_1 Z 49 1618 1052 ls1 [] as h1) (hls : lin ls (lsL Γ X m (nI i))) : V Γ l mL_law room_1 Z 49 1618 168 ls [] as h := by
  obtain ⟨h0, he, A, φ, z, ν, d3, d4, tc, gw, rfl, rfl, hI, hR⟩ := hi
  obtain ⟨v, hv, c8⟩ := s_type (l := l) (v := ((sc Γ (i + 1)).toInt64 <<< ((32 : Int32).toInt64 &&& 63)) ||| ((sc Γ (i + 2)).toInt64 &&& 4294967295)) (q := sc Γ (i + 3)) hI hR
  obtain ⟨v, rfl⟩ := vOK_i hv
  refine V.eqv he ?_
  refine V.at ?_ hls
  refine q_aload_n dL_law_168 rfl rfl ?_
  refine q_aload_n dL_law_169 rfl rfl ?_
  refine q_iload_n dL_law_170 rfl rfl ?_
  refine q_iconst (v := 1) dL_law_171 rfl ?_
  refine q_iadd dL_law_172 ?_
  refine q_sc (i := i) (k := 1) 1 rfl dL_law_173 (by omega) hN ?_
  refine q_i2l dL_law_174 ?_
  refine q_bipush (v := 32) dL_law_175 rfl ?_
  refine q_lshl dL_law_177 ?_
  refine q_aload_n dL_law_178 rfl rfl ?_
  refine q_iload_n dL_law_179 rfl rfl ?_
  refine q_iconst (v := 2) dL_law_180 rfl ?_
  refine q_iadd dL_law_181 ?_
  refine q_sc (i := i) (k := 2) 2 rfl dL_law_182 (by omega) hN ?_
  refine q_i2l dL_law_183 ?_
  refine q_ldc2 (v := 4294967295) dL_law_184 (by decide +kernel) ?_
  refine q_land dL_law_187 ?_
  refine q_lor dL_law_188 ?_
  refine q_aload_n dL_law_189 rfl rfl ?_
  refine q_iload_n dL_law_190 rfl rfl ?_
  refine q_iconst (v := 3) dL_law_191 rfl ?_
  refine q_iadd dL_law_192 ?_
  refine q_sc (i := i) (k := 3) 3 rfl dL_law_193 (by omega) hN ?_
  refine q_callVc dL_law_194 wL_law_15 c8 (K0 hI) ⟨_, _, rfl⟩ rfl rfl (Nat.le_of_ble_eq_true rfl) ⟨⟨Nat.le_of_ble_eq_true rfl, Nat.le_of_ble_eq_true rfl⟩, Nat.le_of_ble_eq_true rfl, Nat.le_of_ble_eq_true rfl⟩ (fun r as1 h1 hq => ?_)
  obtain ⟨rfl, rfl, ⟨fs, hm⟩, c9⟩ := hq
  refine q_aload_n dL_law_197 rfl rfl ?_
  refine q_aload_n dL_law_198 rfl rfl ?_
  refine q_iload_n dL_law_199 rfl rfl ?_
  refine q_iconst (v := 1) dL_law_200 rfl ?_
  refine q_iadd dL_law_201 ?_
  refine q_sc (i := i) (k := 1) 1 rfl dL_law_202 (by omega) hN ?_
  refine q_i2l dL_law_203 ?_
  refine q_bipush (v := 32) dL_law_204 rfl ?_
  refine q_lshl dL_law_206 ?_
  refine q_aload_n dL_law_207 rfl rfl ?_
  refine q_iload_n dL_law_208 rfl rfl ?_
  refine q_iconst (v := 2) dL_law_209 rfl ?_
  refine q_iadd dL_law_210 ?_
  refine q_sc (i := i) (k := 2) 2 rfl dL_law_211 (by omega) hN ?_
  refine q_i2l dL_law_212 ?_
  refine q_ldc2 (v := 4294967295) dL_law_213 (by decide +kernel) ?_
  refine q_land dL_law_216 ?_
  refine q_lor dL_law_217 ?_
  refine q_aload_n dL_law_218 rfl rfl ?_
  refine q_iload_n dL_law_219 rfl rfl ?_
  refine q_iconst (v := 3) dL_law_220 rfl ?_
  refine q_iadd dL_law_221 ?_
  refine q_sc (i := i) (k := 3) 3 rfl dL_law_222 (by omega) hN ?_
  refine q_callVc dL_law_223 wL_law_19 c9 hm ⟨_, _, rfl⟩ rfl rfl (Nat.le_of_ble_eq_true rfl) ⟨⟨Nat.le_of_ble_eq_true rfl, Nat.le_of_ble_eq_true rfl⟩, Nat.le_of_ble_eq_true rfl, Nat.le_of_ble_eq_true rfl⟩ (fun r as2 h2 hq => ?_)
  obtain ⟨rfl, rfl, hi2⟩ := hq
  exact q_icmp_eq 1052 dL_law_226 (by decide) (fun _ => K _ _ hi2 ⟨rfl, rfl, rfl, rfl, trivial⟩) (fun q => absurd rfl q)
theorem lw_c1 (hi : INV Γ as X m h) (hL : i + 5 ≤ Γ.2.2.2.2.1) (hN : Γ.2.2.2.2.1 ≤ 2560) (K : ∀ (h1 : aH) (ls1 : List (Nat × Value)), INV Γ as X m h1 → lin ls1 (lsL Γ X m (nI i)) → V Γ l mL_law room_1 Z 49 1618 1052 ls1 [] as h1) (hls : lin ls (lsL Γ X m (nI i))) : V Γ l mL_law room_1 Z 49 1618 231 ls [] as h := by
  obtain ⟨h0, he, A, φ, z, ν, d3, d4, tc, gw, rfl, rfl, hI, hR⟩ := hi
  obtain ⟨v, hv, c8⟩ := s_clear (l := l) hI hR
  obtain ⟨v, rfl⟩ := vOK_i hv
  refine V.eqv he ?_
  refine V.at ?_ hls
  refine q_aload_n dL_law_231 rfl rfl ?_
  refine q_callVc dL_law_232 wL_law_20 c8 (K0 hI) ⟨_, _, rfl⟩ rfl rfl (Nat.le_of_ble_eq_true rfl) ⟨⟨Nat.le_of_ble_eq_true rfl, Nat.le_of_ble_eq_true rfl⟩, Nat.le_of_ble_eq_true rfl, Nat.le_of_ble_eq_true rfl⟩ (fun r as1 h1 hq => ?_)
  obtain ⟨rfl, rfl, ⟨fs, hm⟩, c9⟩ := hq
  refine q_aload_n dL_law_235 rfl rfl ?_
  refine q_callVc dL_law_236 wL_law_24 c9 hm ⟨_, _, rfl⟩ rfl rfl (Nat.le_of_ble_eq_true rfl) ⟨⟨Nat.le_of_ble_eq_true rfl, Nat.le_of_ble_eq_true rfl⟩, Nat.le_of_ble_eq_true rfl, Nat.le_of_ble_eq_true rfl⟩ (fun r as2 h2 hq => ?_)
  obtain ⟨rfl, rfl, hi2⟩ := hq
  exact q_icmp_eq 1052 dL_law_239 (by decide) (fun _ => K _ _ hi2 ⟨rfl, rfl, rfl, rfl, trivial⟩) (fun q => absurd rfl q)
theorem lw_c2 (hi : INV Γ as X m h) (hL : i + 5 ≤ Γ.2.2.2.2.1) (hN : Γ.2.2.2.2.1 ≤ 2560) (K : ∀ (h1 : aH) (ls1 : List (Nat × Value)), INV Γ as X m h1 → lin ls1 (lsL Γ X m (nI i)) → V Γ l mL_law room_1 Z 49 1618 1052 ls1 [] as h1) (hls : lin ls (lsL Γ X m (nI i))) : V Γ l mL_law room_1 Z 49 1618 244 ls [] as h := by
  obtain ⟨h0, he, A, φ, z, ν, d3, d4, tc, gw, rfl, rfl, hI, hR⟩ := hi
  obtain ⟨v, hv, c8⟩ := s_town (l := l) hI hR
  obtain ⟨v, rfl⟩ := vOK_i hv
  refine V.eqv he ?_
  refine V.at ?_ hls
  refine q_aload_n dL_law_244 rfl rfl ?_
  refine q_callVc dL_law_245 wL_law_25 c8 (K0 hI) ⟨_, _, rfl⟩ rfl rfl (Nat.le_of_ble_eq_true rfl) ⟨⟨Nat.le_of_ble_eq_true rfl, Nat.le_of_ble_eq_true rfl⟩, Nat.le_of_ble_eq_true rfl, Nat.le_of_ble_eq_true rfl⟩ (fun r as1 h1 hq => ?_)
  obtain ⟨rfl, rfl, ⟨fs, hm⟩, c9⟩ := hq
  refine q_aload_n dL_law_248 rfl rfl ?_
  refine q_callVc dL_law_249 wL_law_28 c9 hm ⟨_, _, rfl⟩ rfl rfl (Nat.le_of_ble_eq_true rfl) ⟨⟨Nat.le_of_ble_eq_true rfl, Nat.le_of_ble_eq_true rfl⟩, Nat.le_of_ble_eq_true rfl, Nat.le_of_ble_eq_true rfl⟩ (fun r as2 h2 hq => ?_)
  obtain ⟨rfl, rfl, hi2⟩ := hq
  exact q_icmp_eq 1052 dL_law_252 (by decide) (fun _ => K _ _ hi2 ⟨rfl, rfl, rfl, rfl, trivial⟩) (fun q => absurd rfl q)
theorem lw_c3 (hi : INV Γ as X m h) (hL : i + 5 ≤ Γ.2.2.2.2.1) (hN : Γ.2.2.2.2.1 ≤ 2560) (K : ∀ (h1 : aH) (ls1 : List (Nat × Value)), INV Γ as X m h1 → lin ls1 (lsL Γ X m (nI i)) → V Γ l mL_law room_1 Z 49 1618 1052 ls1 [] as h1) (hls : lin ls (lsL Γ X m (nI i))) : V Γ l mL_law room_1 Z 49 1618 257 ls [] as h := by
  obtain ⟨h0, he, A, φ, z, ν, d3, d4, tc, gw, rfl, rfl, hI, hR⟩ := hi
  obtain ⟨v, hv, c8⟩ := s_person (l := l) (p := sc Γ (i + 1)) (q := sc Γ (i + 2)) hI hR
  obtain ⟨v, rfl⟩ := vOK_i hv
  refine V.eqv he ?_
  refine V.at ?_ hls
  refine q_aload_n dL_law_257 rfl rfl ?_
  refine q_aload_n dL_law_258 rfl rfl ?_
  refine q_iload_n dL_law_259 rfl rfl ?_
  refine q_iconst (v := 1) dL_law_260 rfl ?_
  refine q_iadd dL_law_261 ?_
  refine q_sc (i := i) (k := 1) 1 rfl dL_law_262 (by omega) hN ?_
  refine q_aload_n dL_law_263 rfl rfl ?_
  refine q_iload_n dL_law_264 rfl rfl ?_
  refine q_iconst (v := 2) dL_law_265 rfl ?_
  refine q_iadd dL_law_266 ?_
  refine q_sc (i := i) (k := 2) 2 rfl dL_law_267 (by omega) hN ?_
  refine q_callVc dL_law_268 wL_law_29 c8 (K0 hI) ⟨_, _, rfl⟩ rfl rfl (Nat.le_of_ble_eq_true rfl) ⟨⟨Nat.le_of_ble_eq_true rfl, Nat.le_of_ble_eq_true rfl⟩, Nat.le_of_ble_eq_true rfl, Nat.le_of_ble_eq_true rfl⟩ (fun r as1 h1 hq => ?_)
  obtain ⟨rfl, rfl, ⟨fs, hm⟩, c9⟩ := hq
  refine q_aload_n dL_law_271 rfl rfl ?_
  refine q_aload_n dL_law_272 rfl rfl ?_
  refine q_iload_n dL_law_273 rfl rfl ?_
  refine q_iconst (v := 1) dL_law_274 rfl ?_
  refine q_iadd dL_law_275 ?_
  refine q_sc (i := i) (k := 1) 1 rfl dL_law_276 (by omega) hN ?_
  refine q_aload_n dL_law_277 rfl rfl ?_
  refine q_iload_n dL_law_278 rfl rfl ?_
  refine q_iconst (v := 2) dL_law_279 rfl ?_
  refine q_iadd dL_law_280 ?_
  refine q_sc (i := i) (k := 2) 2 rfl dL_law_281 (by omega) hN ?_
  refine q_callVc dL_law_282 wL_law_33 c9 hm ⟨_, _, rfl⟩ rfl rfl (Nat.le_of_ble_eq_true rfl) ⟨⟨Nat.le_of_ble_eq_true rfl, Nat.le_of_ble_eq_true rfl⟩, Nat.le_of_ble_eq_true rfl, Nat.le_of_ble_eq_true rfl⟩ (fun r as2 h2 hq => ?_)
  obtain ⟨rfl, rfl, hi2⟩ := hq
  exact q_icmp_eq 1052 dL_law_285 (by decide) (fun _ => K _ _ hi2 ⟨rfl, rfl, rfl, rfl, trivial⟩) (fun q => absurd rfl q)
theorem lw_c4 (hi : INV Γ as X m h) (hL : i + 5 ≤ Γ.2.2.2.2.1) (hN : Γ.2.2.2.2.1 ≤ 2560) (K : ∀ (h1 : aH) (ls1 : List (Nat × Value)), INV Γ as X m h1 → lin ls1 (lsL Γ X m (nI i)) → V Γ l mL_law room_1 Z 49 1618 1052 ls1 [] as h1) (hls : lin ls (lsL Γ X m (nI i))) : V Γ l mL_law room_1 Z 49 1618 290 ls [] as h := by
  obtain ⟨h0, he, A, φ, z, ν, d3, d4, tc, gw, rfl, rfl, hI, hR⟩ := hi
  obtain ⟨v, hv, c8⟩ := s_purse (l := l) (p := sc Γ (i + 1)) (q := sc Γ (i + 2)) (c := sc Γ (i + 3)) hI hR
  obtain ⟨v, rfl⟩ := vOK_i hv
  refine V.eqv he ?_
  refine V.at ?_ hls
  refine q_aload_n dL_law_290 rfl rfl ?_
  refine q_aload_n dL_law_291 rfl rfl ?_
  refine q_iload_n dL_law_292 rfl rfl ?_
  refine q_iconst (v := 1) dL_law_293 rfl ?_
  refine q_iadd dL_law_294 ?_
  refine q_sc (i := i) (k := 1) 1 rfl dL_law_295 (by omega) hN ?_
  refine q_aload_n dL_law_296 rfl rfl ?_
  refine q_iload_n dL_law_297 rfl rfl ?_
  refine q_iconst (v := 2) dL_law_298 rfl ?_
  refine q_iadd dL_law_299 ?_
  refine q_sc (i := i) (k := 2) 2 rfl dL_law_300 (by omega) hN ?_
  refine q_aload_n dL_law_301 rfl rfl ?_
  refine q_iload_n dL_law_302 rfl rfl ?_
  refine q_iconst (v := 3) dL_law_303 rfl ?_
  refine q_iadd dL_law_304 ?_
  refine q_sc (i := i) (k := 3) 3 rfl dL_law_305 (by omega) hN ?_
  refine q_callVc dL_law_306 wL_law_34 c8 (K0 hI) ⟨_, _, rfl⟩ rfl rfl (Nat.le_of_ble_eq_true rfl) ⟨⟨Nat.le_of_ble_eq_true rfl, Nat.le_of_ble_eq_true rfl⟩, Nat.le_of_ble_eq_true rfl, Nat.le_of_ble_eq_true rfl⟩ (fun r as1 h1 hq => ?_)
  obtain ⟨rfl, rfl, ⟨fs, hm⟩, c9⟩ := hq
  refine q_aload_n dL_law_309 rfl rfl ?_
  refine q_aload_n dL_law_310 rfl rfl ?_
  refine q_iload_n dL_law_311 rfl rfl ?_
  refine q_iconst (v := 1) dL_law_312 rfl ?_
  refine q_iadd dL_law_313 ?_
  refine q_sc (i := i) (k := 1) 1 rfl dL_law_314 (by omega) hN ?_
  refine q_aload_n dL_law_315 rfl rfl ?_
  refine q_iload_n dL_law_316 rfl rfl ?_
  refine q_iconst (v := 2) dL_law_317 rfl ?_
  refine q_iadd dL_law_318 ?_
  refine q_sc (i := i) (k := 2) 2 rfl dL_law_319 (by omega) hN ?_
  refine q_aload_n dL_law_320 rfl rfl ?_
  refine q_iload_n dL_law_321 rfl rfl ?_
  refine q_iconst (v := 3) dL_law_322 rfl ?_
  refine q_iadd dL_law_323 ?_
  refine q_sc (i := i) (k := 3) 3 rfl dL_law_324 (by omega) hN ?_
  refine q_callVc dL_law_325 wL_law_38 c9 hm ⟨_, _, rfl⟩ rfl rfl (Nat.le_of_ble_eq_true rfl) ⟨⟨Nat.le_of_ble_eq_true rfl, Nat.le_of_ble_eq_true rfl⟩, Nat.le_of_ble_eq_true rfl, Nat.le_of_ble_eq_true rfl⟩ (fun r as2 h2 hq => ?_)
  obtain ⟨rfl, rfl, hi2⟩ := hq
  exact q_icmp_eq 1052 dL_law_328 (by decide) (fun _ => K _ _ hi2 ⟨rfl, rfl, rfl, rfl, trivial⟩) (fun q => absurd rfl q)
theorem lw_c5 (hi : INV Γ as X m h) (hL : i + 5 ≤ Γ.2.2.2.2.1) (hN : Γ.2.2.2.2.1 ≤ 2560) (K : ∀ (h1 : aH) (ls1 : List (Nat × Value)), INV Γ as X m h1 → lin ls1 (lsL Γ X m (nI i)) → V Γ l mL_law room_1 Z 49 1618 1052 ls1 [] as h1) (hls : lin ls (lsL Γ X m (nI i))) : V Γ l mL_law room_1 Z 49 1618 333 ls [] as h := by
  obtain ⟨h0, he, A, φ, z, ν, d3, d4, tc, gw, rfl, rfl, hI, hR⟩ := hi
  obtain ⟨v, hv, c8⟩ := s_coins (l := l) (p := sc Γ (i + 1)) (q := sc Γ (i + 2)) hI hR
  obtain ⟨v, rfl⟩ := vOK_i hv
  refine V.eqv he ?_
  refine V.at ?_ hls
  refine q_aload_n dL_law_333 rfl rfl ?_
  refine q_aload_n dL_law_334 rfl rfl ?_
  refine q_iload_n dL_law_335 rfl rfl ?_
  refine q_iconst (v := 1) dL_law_336 rfl ?_
  refine q_iadd dL_law_337 ?_
  refine q_sc (i := i) (k := 1) 1 rfl dL_law_338 (by omega) hN ?_
  refine q_aload_n dL_law_339 rfl rfl ?_
  refine q_iload_n dL_law_340 rfl rfl ?_
  refine q_iconst (v := 2) dL_law_341 rfl ?_
  refine q_iadd dL_law_342 ?_
  refine q_sc (i := i) (k := 2) 2 rfl dL_law_343 (by omega) hN ?_
  refine q_callVc dL_law_344 wL_law_39 c8 (K0 hI) ⟨_, _, rfl⟩ rfl rfl (Nat.le_of_ble_eq_true rfl) ⟨⟨Nat.le_of_ble_eq_true rfl, Nat.le_of_ble_eq_true rfl⟩, Nat.le_of_ble_eq_true rfl, Nat.le_of_ble_eq_true rfl⟩ (fun r as1 h1 hq => ?_)
  obtain ⟨rfl, rfl, ⟨fs, hm⟩, c9⟩ := hq
  refine q_aload_n dL_law_347 rfl rfl ?_
  refine q_aload_n dL_law_348 rfl rfl ?_
  refine q_iload_n dL_law_349 rfl rfl ?_
  refine q_iconst (v := 1) dL_law_350 rfl ?_
  refine q_iadd dL_law_351 ?_
  refine q_sc (i := i) (k := 1) 1 rfl dL_law_352 (by omega) hN ?_
  refine q_aload_n dL_law_353 rfl rfl ?_
  refine q_iload_n dL_law_354 rfl rfl ?_
  refine q_iconst (v := 2) dL_law_355 rfl ?_
  refine q_iadd dL_law_356 ?_
  refine q_sc (i := i) (k := 2) 2 rfl dL_law_357 (by omega) hN ?_
  refine q_callVc dL_law_358 wL_law_42 c9 hm ⟨_, _, rfl⟩ rfl rfl (Nat.le_of_ble_eq_true rfl) ⟨⟨Nat.le_of_ble_eq_true rfl, Nat.le_of_ble_eq_true rfl⟩, Nat.le_of_ble_eq_true rfl, Nat.le_of_ble_eq_true rfl⟩ (fun r as2 h2 hq => ?_)
  obtain ⟨rfl, rfl, hi2⟩ := hq
  exact q_icmp_eq 1052 dL_law_361 (by decide) (fun _ => K _ _ hi2 ⟨rfl, rfl, rfl, rfl, trivial⟩) (fun q => absurd rfl q)
theorem lw_c6 (hi : INV Γ as X m h) (hL : i + 5 ≤ Γ.2.2.2.2.1) (hN : Γ.2.2.2.2.1 ≤ 2560) (K : ∀ (h1 : aH) (ls1 : List (Nat × Value)), INV Γ as X m h1 → lin ls1 (lsL Γ X m (nI i)) → V Γ l mL_law room_1 Z 49 1618 1052 ls1 [] as h1) (hls : lin ls (lsL Γ X m (nI i))) : V Γ l mL_law room_1 Z 49 1618 366 ls [] as h := by
  obtain ⟨h0, he, A, φ, z, ν, d3, d4, tc, gw, rfl, rfl, hI, hR⟩ := hi
  obtain ⟨v, hv, c8⟩ := s_tune (l := l) (p := sc Γ (i + 1)) (q := sc Γ (i + 2)) hI hR
  obtain ⟨v, rfl⟩ := vOK_i hv
  refine V.eqv he ?_
  refine V.at ?_ hls
  refine q_aload_n dL_law_366 rfl rfl ?_
  refine q_aload_n dL_law_367 rfl rfl ?_
  refine q_iload_n dL_law_368 rfl rfl ?_
  refine q_iconst (v := 1) dL_law_369 rfl ?_
  refine q_iadd dL_law_370 ?_
  refine q_sc (i := i) (k := 1) 1 rfl dL_law_371 (by omega) hN ?_
  refine q_aload_n dL_law_372 rfl rfl ?_
  refine q_iload_n dL_law_373 rfl rfl ?_
  refine q_iconst (v := 2) dL_law_374 rfl ?_
  refine q_iadd dL_law_375 ?_
  refine q_sc (i := i) (k := 2) 2 rfl dL_law_376 (by omega) hN ?_
  refine q_callVc dL_law_377 wL_law_43 c8 (K0 hI) ⟨_, _, rfl⟩ rfl rfl (Nat.le_of_ble_eq_true rfl) ⟨⟨Nat.le_of_ble_eq_true rfl, Nat.le_of_ble_eq_true rfl⟩, Nat.le_of_ble_eq_true rfl, Nat.le_of_ble_eq_true rfl⟩ (fun r as1 h1 hq => ?_)
  obtain ⟨rfl, rfl, ⟨fs, hm⟩, c9⟩ := hq
  refine q_aload_n dL_law_380 rfl rfl ?_
  refine q_aload_n dL_law_381 rfl rfl ?_
  refine q_iload_n dL_law_382 rfl rfl ?_
  refine q_iconst (v := 1) dL_law_383 rfl ?_
  refine q_iadd dL_law_384 ?_
  refine q_sc (i := i) (k := 1) 1 rfl dL_law_385 (by omega) hN ?_
  refine q_aload_n dL_law_386 rfl rfl ?_
  refine q_iload_n dL_law_387 rfl rfl ?_
  refine q_iconst (v := 2) dL_law_388 rfl ?_
  refine q_iadd dL_law_389 ?_
  refine q_sc (i := i) (k := 2) 2 rfl dL_law_390 (by omega) hN ?_
  refine q_callVc dL_law_391 wL_law_46 c9 hm ⟨_, _, rfl⟩ rfl rfl (Nat.le_of_ble_eq_true rfl) ⟨⟨Nat.le_of_ble_eq_true rfl, Nat.le_of_ble_eq_true rfl⟩, Nat.le_of_ble_eq_true rfl, Nat.le_of_ble_eq_true rfl⟩ (fun r as2 h2 hq => ?_)
  obtain ⟨rfl, rfl, hi2⟩ := hq
  exact q_icmp_eq 1052 dL_law_394 (by decide) (fun _ => K _ _ hi2 ⟨rfl, rfl, rfl, rfl, trivial⟩) (fun q => absurd rfl q)
theorem lw_c7 (hi : INV Γ as X m h) (hL : i + 5 ≤ Γ.2.2.2.2.1) (hN : Γ.2.2.2.2.1 ≤ 2560) (K : ∀ (h1 : aH) (ls1 : List (Nat × Value)), INV Γ as X m h1 → lin ls1 (lsL Γ X m (nI i)) → V Γ l mL_law room_1 Z 49 1618 1052 ls1 [] as h1) (hls : lin ls (lsL Γ X m (nI i))) : V Γ l mL_law room_1 Z 49 1618 399 ls [] as h := by
  obtain ⟨h0, he, A, φ, z, ν, d3, d4, tc, gw, rfl, rfl, hI, hR⟩ := hi
  obtain ⟨v, hv, c8⟩ := s_lot (l := l) (q := sc Γ (i + 1)) hI hR
  obtain ⟨v, rfl⟩ := vOK_i hv
  refine V.eqv he ?_
  refine V.at ?_ hls
  refine q_aload_n dL_law_399 rfl rfl ?_
  refine q_aload_n dL_law_400 rfl rfl ?_
  refine q_iload_n dL_law_401 rfl rfl ?_
  refine q_iconst (v := 1) dL_law_402 rfl ?_
  refine q_iadd dL_law_403 ?_
  refine q_sc (i := i) (k := 1) 1 rfl dL_law_404 (by omega) hN ?_
  refine q_callVc dL_law_405 wL_law_47 c8 (K0 hI) ⟨_, _, rfl⟩ rfl rfl (Nat.le_of_ble_eq_true rfl) ⟨⟨Nat.le_of_ble_eq_true rfl, Nat.le_of_ble_eq_true rfl⟩, Nat.le_of_ble_eq_true rfl, Nat.le_of_ble_eq_true rfl⟩ (fun r as1 h1 hq => ?_)
  obtain ⟨rfl, rfl, ⟨fs, hm⟩, c9⟩ := hq
  refine q_aload_n dL_law_408 rfl rfl ?_
  refine q_aload_n dL_law_409 rfl rfl ?_
  refine q_iload_n dL_law_410 rfl rfl ?_
  refine q_iconst (v := 1) dL_law_411 rfl ?_
  refine q_iadd dL_law_412 ?_
  refine q_sc (i := i) (k := 1) 1 rfl dL_law_413 (by omega) hN ?_
  refine q_callVc dL_law_414 wL_law_51 c9 hm ⟨_, _, rfl⟩ rfl rfl (Nat.le_of_ble_eq_true rfl) ⟨⟨Nat.le_of_ble_eq_true rfl, Nat.le_of_ble_eq_true rfl⟩, Nat.le_of_ble_eq_true rfl, Nat.le_of_ble_eq_true rfl⟩ (fun r as2 h2 hq => ?_)
  obtain ⟨rfl, rfl, hi2⟩ := hq
  exact q_icmp_eq 1052 dL_law_417 (by decide) (fun _ => K _ _ hi2 ⟨rfl, rfl, rfl, rfl, trivial⟩) (fun q => absurd rfl q)
theorem lw_c8 (hi : INV Γ as X m h) (hL : i + 5 ≤ Γ.2.2.2.2.1) (hN : Γ.2.2.2.2.1 ≤ 2560) (K : ∀ (h1 : aH) (ls1 : List (Nat × Value)), INV Γ as X m h1 → lin ls1 (lsL Γ X m (nI i)) → V Γ l mL_law room_1 Z 49 1618 1052 ls1 [] as h1) (hls : lin ls (lsL Γ X m (nI i))) : V Γ l mL_law room_1 Z 49 1618 422 ls [] as h := by
  obtain ⟨h0, he, A, φ, z, ν, d3, d4, tc, gw, rfl, rfl, hI, hR⟩ := hi
  obtain ⟨v, hv, c8⟩ := s_meet (l := l) hI hR
  obtain ⟨v, rfl⟩ := vOK_i hv
  refine V.eqv he ?_
  refine V.at ?_ hls
  refine q_aload_n dL_law_422 rfl rfl ?_
  refine q_callVc dL_law_423 wL_law_52 c8 (K0 hI) ⟨_, _, rfl⟩ rfl rfl (Nat.le_of_ble_eq_true rfl) ⟨⟨Nat.le_of_ble_eq_true rfl, Nat.le_of_ble_eq_true rfl⟩, Nat.le_of_ble_eq_true rfl, Nat.le_of_ble_eq_true rfl⟩ (fun r as1 h1 hq => ?_)
  obtain ⟨rfl, rfl, ⟨fs, hm⟩, c9⟩ := hq
  refine q_aload_n dL_law_426 rfl rfl ?_
  refine q_callVc dL_law_427 wL_law_55 c9 hm ⟨_, _, rfl⟩ rfl rfl (Nat.le_of_ble_eq_true rfl) ⟨⟨Nat.le_of_ble_eq_true rfl, Nat.le_of_ble_eq_true rfl⟩, Nat.le_of_ble_eq_true rfl, Nat.le_of_ble_eq_true rfl⟩ (fun r as2 h2 hq => ?_)
  obtain ⟨rfl, rfl, hi2⟩ := hq
  exact q_icmp_eq 1052 dL_law_430 (by decide) (fun _ => K _ _ hi2 ⟨rfl, rfl, rfl, rfl, trivial⟩) (fun q => absurd rfl q)
theorem lw_c9 (hi : INV Γ as X m h) (hL : i + 5 ≤ Γ.2.2.2.2.1) (hN : Γ.2.2.2.2.1 ≤ 2560) (K : ∀ (h1 : aH) (ls1 : List (Nat × Value)), INV Γ as X m h1 → lin ls1 (lsL Γ X m (nI i)) → V Γ l mL_law room_1 Z 49 1618 1052 ls1 [] as h1) (hls : lin ls (lsL Γ X m (nI i))) : V Γ l mL_law room_1 Z 49 1618 435 ls [] as h := by
  obtain ⟨h0, he, A, φ, z, ν, d3, d4, tc, gw, rfl, rfl, hI, hR⟩ := hi
  obtain ⟨v, hv, c8⟩ := s_run (l := l) (q := sc Γ (i + 1)) hI hR
  obtain ⟨v, rfl⟩ := vOK_i hv
  refine V.eqv he ?_
  refine V.at ?_ hls
  refine q_aload_n dL_law_435 rfl rfl ?_
  refine q_aload_n dL_law_436 rfl rfl ?_
  refine q_iload_n dL_law_437 rfl rfl ?_
  refine q_iconst (v := 1) dL_law_438 rfl ?_
  refine q_iadd dL_law_439 ?_
  refine q_sc (i := i) (k := 1) 1 rfl dL_law_440 (by omega) hN ?_
  refine q_callVc dL_law_441 wL_law_56 c8 (K0 hI) ⟨_, _, rfl⟩ rfl rfl (Nat.le_of_ble_eq_true rfl) ⟨⟨Nat.le_of_ble_eq_true rfl, Nat.le_of_ble_eq_true rfl⟩, Nat.le_of_ble_eq_true rfl, Nat.le_of_ble_eq_true rfl⟩ (fun r as1 h1 hq => ?_)
  obtain ⟨rfl, rfl, ⟨fs, hm⟩, c9⟩ := hq
  refine q_aload_n dL_law_444 rfl rfl ?_
  refine q_aload_n dL_law_445 rfl rfl ?_
  refine q_iload_n dL_law_446 rfl rfl ?_
  refine q_iconst (v := 1) dL_law_447 rfl ?_
  refine q_iadd dL_law_448 ?_
  refine q_sc (i := i) (k := 1) 1 rfl dL_law_449 (by omega) hN ?_
  refine q_callVc dL_law_450 wL_law_59 c9 hm ⟨_, _, rfl⟩ rfl rfl (Nat.le_of_ble_eq_true rfl) ⟨⟨Nat.le_of_ble_eq_true rfl, Nat.le_of_ble_eq_true rfl⟩, Nat.le_of_ble_eq_true rfl, Nat.le_of_ble_eq_true rfl⟩ (fun r as2 h2 hq => ?_)
  obtain ⟨rfl, rfl, hi2⟩ := hq
  exact q_icmp_eq 1052 dL_law_453 (by decide) (fun _ => K _ _ hi2 ⟨rfl, rfl, rfl, rfl, trivial⟩) (fun q => absurd rfl q)
theorem lw_c10 (hi : INV Γ as X m h) (hL : i + 5 ≤ Γ.2.2.2.2.1) (hN : Γ.2.2.2.2.1 ≤ 2560) (K : ∀ (h1 : aH) (ls1 : List (Nat × Value)), INV Γ as X m h1 → lin ls1 (lsL Γ X m (nI i)) → V Γ l mL_law room_1 Z 49 1618 1052 ls1 [] as h1) (hls : lin ls (lsL Γ X m (nI i))) : V Γ l mL_law room_1 Z 49 1618 458 ls [] as h := by
  obtain ⟨h0, he, A, φ, z, ν, d3, d4, tc, gw, rfl, rfl, hI, hR⟩ := hi
  obtain ⟨v, hv, c8⟩ := s_met (l := l) (q := sc Γ (i + 1)) hI hR
  obtain ⟨v, rfl⟩ := vOK_i hv
  refine V.eqv he ?_
  refine V.at ?_ hls
  refine q_aload_n dL_law_458 rfl rfl ?_
  refine q_aload_n dL_law_459 rfl rfl ?_
  refine q_iload_n dL_law_460 rfl rfl ?_
  refine q_iconst (v := 1) dL_law_461 rfl ?_
  refine q_iadd dL_law_462 ?_
  refine q_sc (i := i) (k := 1) 1 rfl dL_law_463 (by omega) hN ?_
  refine q_callVc dL_law_464 wL_law_60 c8 (K0 hI) ⟨_, _, rfl⟩ rfl rfl (Nat.le_of_ble_eq_true rfl) ⟨⟨Nat.le_of_ble_eq_true rfl, Nat.le_of_ble_eq_true rfl⟩, Nat.le_of_ble_eq_true rfl, Nat.le_of_ble_eq_true rfl⟩ (fun r as1 h1 hq => ?_)
  obtain ⟨rfl, rfl, ⟨fs, hm⟩, c9⟩ := hq
  refine q_aload_n dL_law_467 rfl rfl ?_
  refine q_aload_n dL_law_468 rfl rfl ?_
  refine q_iload_n dL_law_469 rfl rfl ?_
  refine q_iconst (v := 1) dL_law_470 rfl ?_
  refine q_iadd dL_law_471 ?_
  refine q_sc (i := i) (k := 1) 1 rfl dL_law_472 (by omega) hN ?_
  refine q_callVc dL_law_473 wL_law_63 c9 hm ⟨_, _, rfl⟩ rfl rfl (Nat.le_of_ble_eq_true rfl) ⟨⟨Nat.le_of_ble_eq_true rfl, Nat.le_of_ble_eq_true rfl⟩, Nat.le_of_ble_eq_true rfl, Nat.le_of_ble_eq_true rfl⟩ (fun r as2 h2 hq => ?_)
  obtain ⟨rfl, rfl, hi2⟩ := hq
  exact q_icmp_eq 1052 dL_law_476 (by decide) (fun _ => K _ _ hi2 ⟨rfl, rfl, rfl, rfl, trivial⟩) (fun q => absurd rfl q)
theorem lw_c11 (hi : INV Γ as X m h) (hL : i + 5 ≤ Γ.2.2.2.2.1) (hN : Γ.2.2.2.2.1 ≤ 2560) (K : ∀ (h1 : aH) (ls1 : List (Nat × Value)), INV Γ as X m h1 → lin ls1 (lsL Γ X m (nI i)) → V Γ l mL_law room_1 Z 49 1618 1052 ls1 [] as h1) (hls : lin ls (lsL Γ X m (nI i))) : V Γ l mL_law room_1 Z 49 1618 481 ls [] as h := by
  obtain ⟨h0, he, A, φ, z, ν, d3, d4, tc, gw, rfl, rfl, hI, hR⟩ := hi
  obtain ⟨v, hv, c8⟩ := s_gain (l := l) (p := sc Γ (i + 1)) (q := sc Γ (i + 2)) (a := sc Γ (i + 3)) (b := sc Γ (i + 4)) hI hR
  obtain ⟨v, rfl⟩ := vOK_l hv
  refine V.eqv he ?_
  refine V.at ?_ hls
  refine q_aload_n dL_law_481 rfl rfl ?_
  refine q_aload_n dL_law_482 rfl rfl ?_
  refine q_iload_n dL_law_483 rfl rfl ?_
  refine q_iconst (v := 1) dL_law_484 rfl ?_
  refine q_iadd dL_law_485 ?_
  refine q_sc (i := i) (k := 1) 1 rfl dL_law_486 (by omega) hN ?_
  refine q_aload_n dL_law_487 rfl rfl ?_
  refine q_iload_n dL_law_488 rfl rfl ?_
  refine q_iconst (v := 2) dL_law_489 rfl ?_
  refine q_iadd dL_law_490 ?_
  refine q_sc (i := i) (k := 2) 2 rfl dL_law_491 (by omega) hN ?_
  refine q_aload_n dL_law_492 rfl rfl ?_
  refine q_iload_n dL_law_493 rfl rfl ?_
  refine q_iconst (v := 3) dL_law_494 rfl ?_
  refine q_iadd dL_law_495 ?_
  refine q_sc (i := i) (k := 3) 3 rfl dL_law_496 (by omega) hN ?_
  refine q_aload_n dL_law_497 rfl rfl ?_
  refine q_iload_n dL_law_498 rfl rfl ?_
  refine q_iconst (v := 4) dL_law_499 rfl ?_
  refine q_iadd dL_law_500 ?_
  refine q_sc (i := i) (k := 4) 4 rfl dL_law_501 (by omega) hN ?_
  refine q_callVc dL_law_502 wL_law_64 c8 (K0 hI) ⟨_, _, rfl⟩ rfl rfl (Nat.le_of_ble_eq_true rfl) ⟨⟨Nat.le_of_ble_eq_true rfl, Nat.le_of_ble_eq_true rfl⟩, Nat.le_of_ble_eq_true rfl, Nat.le_of_ble_eq_true rfl⟩ (fun r as1 h1 hq => ?_)
  obtain ⟨rfl, rfl, ⟨fs, hm⟩, c9⟩ := hq
  refine q_aload_n dL_law_505 rfl rfl ?_
  refine q_aload_n dL_law_506 rfl rfl ?_
  refine q_iload_n dL_law_507 rfl rfl ?_
  refine q_iconst (v := 1) dL_law_508 rfl ?_
  refine q_iadd dL_law_509 ?_
  refine q_sc (i := i) (k := 1) 1 rfl dL_law_510 (by omega) hN ?_
  refine q_aload_n dL_law_511 rfl rfl ?_
  refine q_iload_n dL_law_512 rfl rfl ?_
  refine q_iconst (v := 2) dL_law_513 rfl ?_
  refine q_iadd dL_law_514 ?_
  refine q_sc (i := i) (k := 2) 2 rfl dL_law_515 (by omega) hN ?_
  refine q_aload_n dL_law_516 rfl rfl ?_
  refine q_iload_n dL_law_517 rfl rfl ?_
  refine q_iconst (v := 3) dL_law_518 rfl ?_
  refine q_iadd dL_law_519 ?_
  refine q_sc (i := i) (k := 3) 3 rfl dL_law_520 (by omega) hN ?_
  refine q_aload_n dL_law_521 rfl rfl ?_
  refine q_iload_n dL_law_522 rfl rfl ?_
  refine q_iconst (v := 4) dL_law_523 rfl ?_
  refine q_iadd dL_law_524 ?_
  refine q_sc (i := i) (k := 4) 4 rfl dL_law_525 (by omega) hN ?_
  refine q_callVc dL_law_526 wL_law_68 c9 hm ⟨_, _, rfl⟩ rfl rfl (Nat.le_of_ble_eq_true rfl) ⟨⟨Nat.le_of_ble_eq_true rfl, Nat.le_of_ble_eq_true rfl⟩, Nat.le_of_ble_eq_true rfl, Nat.le_of_ble_eq_true rfl⟩ (fun r as2 h2 hq => ?_)
  obtain ⟨rfl, rfl, hi2⟩ := hq
  refine q_lcmp dL_law_529 ?_
  exact q_if_eq 1052 dL_law_530 (by decide) (fun _ => K _ _ hi2 ⟨rfl, rfl, rfl, rfl, trivial⟩) (fun q => absurd (lgc_s _) q)
theorem lw_c12 (hi : INV Γ as X m h) (hL : i + 5 ≤ Γ.2.2.2.2.1) (hN : Γ.2.2.2.2.1 ≤ 2560) (K : ∀ (h1 : aH) (ls1 : List (Nat × Value)), INV Γ as X m h1 → lin ls1 (lsL Γ X m (nI i)) → V Γ l mL_law room_1 Z 49 1618 1052 ls1 [] as h1) (hls : lin ls (lsL Γ X m (nI i))) : V Γ l mL_law room_1 Z 49 1618 535 ls [] as h := by
  obtain ⟨h0, he, A, φ, z, ν, d3, d4, tc, gw, rfl, rfl, hI, hR⟩ := hi
  obtain ⟨v, hv, c8⟩ := s_rests (l := l) (q := sc Γ (i + 1)) hI hR
  obtain ⟨v, rfl⟩ := vOK_i hv
  refine V.eqv he ?_
  refine V.at ?_ hls
  refine q_aload_n dL_law_535 rfl rfl ?_
  refine q_aload_n dL_law_536 rfl rfl ?_
  refine q_iload_n dL_law_537 rfl rfl ?_
  refine q_iconst (v := 1) dL_law_538 rfl ?_
  refine q_iadd dL_law_539 ?_
  refine q_sc (i := i) (k := 1) 1 rfl dL_law_540 (by omega) hN ?_
  refine q_callVc dL_law_541 wL_law_69 c8 (K0 hI) ⟨_, _, rfl⟩ rfl rfl (Nat.le_of_ble_eq_true rfl) ⟨⟨Nat.le_of_ble_eq_true rfl, Nat.le_of_ble_eq_true rfl⟩, Nat.le_of_ble_eq_true rfl, Nat.le_of_ble_eq_true rfl⟩ (fun r as1 h1 hq => ?_)
  obtain ⟨rfl, rfl, ⟨fs, hm⟩, c9⟩ := hq
  refine q_aload_n dL_law_544 rfl rfl ?_
  refine q_aload_n dL_law_545 rfl rfl ?_
  refine q_iload_n dL_law_546 rfl rfl ?_
  refine q_iconst (v := 1) dL_law_547 rfl ?_
  refine q_iadd dL_law_548 ?_
  refine q_sc (i := i) (k := 1) 1 rfl dL_law_549 (by omega) hN ?_
  refine q_callVc dL_law_550 wL_law_72 c9 hm ⟨_, _, rfl⟩ rfl rfl (Nat.le_of_ble_eq_true rfl) ⟨⟨Nat.le_of_ble_eq_true rfl, Nat.le_of_ble_eq_true rfl⟩, Nat.le_of_ble_eq_true rfl, Nat.le_of_ble_eq_true rfl⟩ (fun r as2 h2 hq => ?_)
  obtain ⟨rfl, rfl, hi2⟩ := hq
  exact q_icmp_eq 1052 dL_law_553 (by decide) (fun _ => K _ _ hi2 ⟨rfl, rfl, rfl, rfl, trivial⟩) (fun q => absurd rfl q)
theorem lw_c13 (hi : INV Γ as X m h) (hL : i + 5 ≤ Γ.2.2.2.2.1) (hN : Γ.2.2.2.2.1 ≤ 2560) (K : ∀ (h1 : aH) (ls1 : List (Nat × Value)), INV Γ as X m h1 → lin ls1 (lsL Γ X m (nI i)) → V Γ l mL_law room_1 Z 49 1618 1052 ls1 [] as h1) (hls : lin ls (lsL Γ X m (nI i))) : V Γ l mL_law room_1 Z 49 1618 558 ls [] as h := by
  obtain ⟨h0, he, A, φ, z, ν, d3, d4, tc, gw, rfl, rfl, hI, hR⟩ := hi
  obtain ⟨v, hv, c8⟩ := s_goes (l := l) (q := sc Γ (i + 1)) (k := sc Γ (i + 2)) hI hR
  obtain ⟨v, rfl⟩ := vOK_i hv
  refine V.eqv he ?_
  refine V.at ?_ hls
  refine q_aload_n dL_law_558 rfl rfl ?_
  refine q_aload_n dL_law_559 rfl rfl ?_
  refine q_iload_n dL_law_560 rfl rfl ?_
  refine q_iconst (v := 1) dL_law_561 rfl ?_
  refine q_iadd dL_law_562 ?_
  refine q_sc (i := i) (k := 1) 1 rfl dL_law_563 (by omega) hN ?_
  refine q_aload_n dL_law_564 rfl rfl ?_
  refine q_iload_n dL_law_565 rfl rfl ?_
  refine q_iconst (v := 2) dL_law_566 rfl ?_
  refine q_iadd dL_law_567 ?_
  refine q_sc (i := i) (k := 2) 2 rfl dL_law_568 (by omega) hN ?_
  refine q_callVc dL_law_569 wL_law_73 c8 (K0 hI) ⟨_, _, rfl⟩ rfl rfl (Nat.le_of_ble_eq_true rfl) ⟨⟨Nat.le_of_ble_eq_true rfl, Nat.le_of_ble_eq_true rfl⟩, Nat.le_of_ble_eq_true rfl, Nat.le_of_ble_eq_true rfl⟩ (fun r as1 h1 hq => ?_)
  obtain ⟨rfl, rfl, ⟨fs, hm⟩, c9⟩ := hq
  refine q_aload_n dL_law_572 rfl rfl ?_
  refine q_aload_n dL_law_573 rfl rfl ?_
  refine q_iload_n dL_law_574 rfl rfl ?_
  refine q_iconst (v := 1) dL_law_575 rfl ?_
  refine q_iadd dL_law_576 ?_
  refine q_sc (i := i) (k := 1) 1 rfl dL_law_577 (by omega) hN ?_
  refine q_aload_n dL_law_578 rfl rfl ?_
  refine q_iload_n dL_law_579 rfl rfl ?_
  refine q_iconst (v := 2) dL_law_580 rfl ?_
  refine q_iadd dL_law_581 ?_
  refine q_sc (i := i) (k := 2) 2 rfl dL_law_582 (by omega) hN ?_
  refine q_callVc dL_law_583 wL_law_76 c9 hm ⟨_, _, rfl⟩ rfl rfl (Nat.le_of_ble_eq_true rfl) ⟨⟨Nat.le_of_ble_eq_true rfl, Nat.le_of_ble_eq_true rfl⟩, Nat.le_of_ble_eq_true rfl, Nat.le_of_ble_eq_true rfl⟩ (fun r as2 h2 hq => ?_)
  obtain ⟨rfl, rfl, hi2⟩ := hq
  exact q_icmp_eq 1052 dL_law_586 (by decide) (fun _ => K _ _ hi2 ⟨rfl, rfl, rfl, rfl, trivial⟩) (fun q => absurd rfl q)
theorem lw_c14 (hi : INV Γ as X m h) (hL : i + 5 ≤ Γ.2.2.2.2.1) (hN : Γ.2.2.2.2.1 ≤ 2560) (K : ∀ (h1 : aH) (ls1 : List (Nat × Value)), INV Γ as X m h1 → lin ls1 (lsL Γ X m (nI i)) → V Γ l mL_law room_1 Z 49 1618 1052 ls1 [] as h1) (hls : lin ls (lsL Γ X m (nI i))) : V Γ l mL_law room_1 Z 49 1618 591 ls [] as h := by
  obtain ⟨h0, he, A, φ, z, ν, d3, d4, tc, gw, rfl, rfl, hI, hR⟩ := hi
  obtain ⟨v, hv, c8⟩ := s_tip (l := l) (q := sc Γ (i + 1)) hI hR
  obtain ⟨v, rfl⟩ := vOK_i hv
  refine V.eqv he ?_
  refine V.at ?_ hls
  refine q_aload_n dL_law_591 rfl rfl ?_
  refine q_aload_n dL_law_592 rfl rfl ?_
  refine q_iload_n dL_law_593 rfl rfl ?_
  refine q_iconst (v := 1) dL_law_594 rfl ?_
  refine q_iadd dL_law_595 ?_
  refine q_sc (i := i) (k := 1) 1 rfl dL_law_596 (by omega) hN ?_
  refine q_callVc dL_law_597 wL_law_77 c8 (K0 hI) ⟨_, _, rfl⟩ rfl rfl (Nat.le_of_ble_eq_true rfl) ⟨⟨Nat.le_of_ble_eq_true rfl, Nat.le_of_ble_eq_true rfl⟩, Nat.le_of_ble_eq_true rfl, Nat.le_of_ble_eq_true rfl⟩ (fun r as1 h1 hq => ?_)
  obtain ⟨rfl, rfl, ⟨fs, hm⟩, c9⟩ := hq
  refine q_aload_n dL_law_600 rfl rfl ?_
  refine q_aload_n dL_law_601 rfl rfl ?_
  refine q_iload_n dL_law_602 rfl rfl ?_
  refine q_iconst (v := 1) dL_law_603 rfl ?_
  refine q_iadd dL_law_604 ?_
  refine q_sc (i := i) (k := 1) 1 rfl dL_law_605 (by omega) hN ?_
  refine q_callVc dL_law_606 wL_law_80 c9 hm ⟨_, _, rfl⟩ rfl rfl (Nat.le_of_ble_eq_true rfl) ⟨⟨Nat.le_of_ble_eq_true rfl, Nat.le_of_ble_eq_true rfl⟩, Nat.le_of_ble_eq_true rfl, Nat.le_of_ble_eq_true rfl⟩ (fun r as2 h2 hq => ?_)
  obtain ⟨rfl, rfl, hi2⟩ := hq
  exact q_icmp_eq 1052 dL_law_609 (by decide) (fun _ => K _ _ hi2 ⟨rfl, rfl, rfl, rfl, trivial⟩) (fun q => absurd rfl q)
theorem lw_c15 (hi : INV Γ as X m h) (hL : i + 5 ≤ Γ.2.2.2.2.1) (hN : Γ.2.2.2.2.1 ≤ 2560) (K : ∀ (h1 : aH) (ls1 : List (Nat × Value)), INV Γ as X m h1 → lin ls1 (lsL Γ X m (nI i)) → V Γ l mL_law room_1 Z 49 1618 1052 ls1 [] as h1) (hls : lin ls (lsL Γ X m (nI i))) : V Γ l mL_law room_1 Z 49 1618 614 ls [] as h := by
  obtain ⟨h0, he, A, φ, z, ν, d3, d4, tc, gw, rfl, rfl, hI, hR⟩ := hi
  obtain ⟨v, hv, c8⟩ := s_out (l := l) (q := sc Γ (i + 1)) (k := sc Γ (i + 2)) hI hR
  obtain ⟨v, rfl⟩ := vOK_i hv
  refine V.eqv he ?_
  refine V.at ?_ hls
  refine q_aload_n dL_law_614 rfl rfl ?_
  refine q_aload_n dL_law_615 rfl rfl ?_
  refine q_iload_n dL_law_616 rfl rfl ?_
  refine q_iconst (v := 1) dL_law_617 rfl ?_
  refine q_iadd dL_law_618 ?_
  refine q_sc (i := i) (k := 1) 1 rfl dL_law_619 (by omega) hN ?_
  refine q_aload_n dL_law_620 rfl rfl ?_
  refine q_iload_n dL_law_621 rfl rfl ?_
  refine q_iconst (v := 2) dL_law_622 rfl ?_
  refine q_iadd dL_law_623 ?_
  refine q_sc (i := i) (k := 2) 2 rfl dL_law_624 (by omega) hN ?_
  refine q_callVc dL_law_625 wL_law_81 c8 (K0 hI) ⟨_, _, rfl⟩ rfl rfl (Nat.le_of_ble_eq_true rfl) ⟨⟨Nat.le_of_ble_eq_true rfl, Nat.le_of_ble_eq_true rfl⟩, Nat.le_of_ble_eq_true rfl, Nat.le_of_ble_eq_true rfl⟩ (fun r as1 h1 hq => ?_)
  obtain ⟨rfl, rfl, ⟨fs, hm⟩, c9⟩ := hq
  refine q_aload_n dL_law_628 rfl rfl ?_
  refine q_aload_n dL_law_629 rfl rfl ?_
  refine q_iload_n dL_law_630 rfl rfl ?_
  refine q_iconst (v := 1) dL_law_631 rfl ?_
  refine q_iadd dL_law_632 ?_
  refine q_sc (i := i) (k := 1) 1 rfl dL_law_633 (by omega) hN ?_
  refine q_aload_n dL_law_634 rfl rfl ?_
  refine q_iload_n dL_law_635 rfl rfl ?_
  refine q_iconst (v := 2) dL_law_636 rfl ?_
  refine q_iadd dL_law_637 ?_
  refine q_sc (i := i) (k := 2) 2 rfl dL_law_638 (by omega) hN ?_
  refine q_callVc dL_law_639 wL_law_84 c9 hm ⟨_, _, rfl⟩ rfl rfl (Nat.le_of_ble_eq_true rfl) ⟨⟨Nat.le_of_ble_eq_true rfl, Nat.le_of_ble_eq_true rfl⟩, Nat.le_of_ble_eq_true rfl, Nat.le_of_ble_eq_true rfl⟩ (fun r as2 h2 hq => ?_)
  obtain ⟨rfl, rfl, hi2⟩ := hq
  exact q_icmp_eq 1052 dL_law_642 (by decide) (fun _ => K _ _ hi2 ⟨rfl, rfl, rfl, rfl, trivial⟩) (fun q => absurd rfl q)
theorem lw_c16 (hi : INV Γ as X m h) (hL : i + 5 ≤ Γ.2.2.2.2.1) (hN : Γ.2.2.2.2.1 ≤ 2560) (K : ∀ (h1 : aH) (ls1 : List (Nat × Value)), INV Γ as X m h1 → lin ls1 (lsL Γ X m (nI i)) → V Γ l mL_law room_1 Z 49 1618 1052 ls1 [] as h1) (hls : lin ls (lsL Γ X m (nI i))) : V Γ l mL_law room_1 Z 49 1618 647 ls [] as h := by
  obtain ⟨h0, he, A, φ, z, ν, d3, d4, tc, gw, rfl, rfl, hI, hR⟩ := hi
  obtain ⟨v, hv, c8⟩ := s_clip (l := l) (p := sc Γ (i + 1)) (q := sc Γ (i + 2)) hI hR
  obtain ⟨v, rfl⟩ := vOK_l hv
  refine V.eqv he ?_
  refine V.at ?_ hls
  refine q_aload_n dL_law_647 rfl rfl ?_
  refine q_aload_n dL_law_648 rfl rfl ?_
  refine q_iload_n dL_law_649 rfl rfl ?_
  refine q_iconst (v := 1) dL_law_650 rfl ?_
  refine q_iadd dL_law_651 ?_
  refine q_sc (i := i) (k := 1) 1 rfl dL_law_652 (by omega) hN ?_
  refine q_aload_n dL_law_653 rfl rfl ?_
  refine q_iload_n dL_law_654 rfl rfl ?_
  refine q_iconst (v := 2) dL_law_655 rfl ?_
  refine q_iadd dL_law_656 ?_
  refine q_sc (i := i) (k := 2) 2 rfl dL_law_657 (by omega) hN ?_
  refine q_callVc dL_law_658 wL_law_85 c8 (K0 hI) ⟨_, _, rfl⟩ rfl rfl (Nat.le_of_ble_eq_true rfl) ⟨⟨Nat.le_of_ble_eq_true rfl, Nat.le_of_ble_eq_true rfl⟩, Nat.le_of_ble_eq_true rfl, Nat.le_of_ble_eq_true rfl⟩ (fun r as1 h1 hq => ?_)
  obtain ⟨rfl, rfl, ⟨fs, hm⟩, c9⟩ := hq
  refine q_aload_n dL_law_661 rfl rfl ?_
  refine q_aload_n dL_law_662 rfl rfl ?_
  refine q_iload_n dL_law_663 rfl rfl ?_
  refine q_iconst (v := 1) dL_law_664 rfl ?_
  refine q_iadd dL_law_665 ?_
  refine q_sc (i := i) (k := 1) 1 rfl dL_law_666 (by omega) hN ?_
  refine q_aload_n dL_law_667 rfl rfl ?_
  refine q_iload_n dL_law_668 rfl rfl ?_
  refine q_iconst (v := 2) dL_law_669 rfl ?_
  refine q_iadd dL_law_670 ?_
  refine q_sc (i := i) (k := 2) 2 rfl dL_law_671 (by omega) hN ?_
  refine q_callVc dL_law_672 wL_law_89 c9 hm ⟨_, _, rfl⟩ rfl rfl (Nat.le_of_ble_eq_true rfl) ⟨⟨Nat.le_of_ble_eq_true rfl, Nat.le_of_ble_eq_true rfl⟩, Nat.le_of_ble_eq_true rfl, Nat.le_of_ble_eq_true rfl⟩ (fun r as2 h2 hq => ?_)
  obtain ⟨rfl, rfl, hi2⟩ := hq
  refine q_lcmp dL_law_675 ?_
  exact q_if_eq 1052 dL_law_676 (by decide) (fun _ => K _ _ hi2 ⟨rfl, rfl, rfl, rfl, trivial⟩) (fun q => absurd (lgc_s _) q)
theorem lw_c17 (hi : INV Γ as X m h) (hL : i + 5 ≤ Γ.2.2.2.2.1) (hN : Γ.2.2.2.2.1 ≤ 2560) (K : ∀ (h1 : aH) (ls1 : List (Nat × Value)), INV Γ as X m h1 → lin ls1 (lsL Γ X m (nI i)) → V Γ l mL_law room_1 Z 49 1618 1052 ls1 [] as h1) (hls : lin ls (lsL Γ X m (nI i))) : V Γ l mL_law room_1 Z 49 1618 681 ls [] as h := by
  obtain ⟨h0, he, A, φ, z, ν, d3, d4, tc, gw, rfl, rfl, hI, hR⟩ := hi
  obtain ⟨v, hv, c8⟩ := s_year (l := l) (q := sc Γ (i + 1)) hI hR
  obtain ⟨v, rfl⟩ := vOK_i hv
  refine V.eqv he ?_
  refine V.at ?_ hls
  refine q_aload_n dL_law_681 rfl rfl ?_
  refine q_aload_n dL_law_682 rfl rfl ?_
  refine q_iload_n dL_law_683 rfl rfl ?_
  refine q_iconst (v := 1) dL_law_684 rfl ?_
  refine q_iadd dL_law_685 ?_
  refine q_sc (i := i) (k := 1) 1 rfl dL_law_686 (by omega) hN ?_
  refine q_callVc dL_law_687 wL_law_90 c8 (K0 hI) ⟨_, _, rfl⟩ rfl rfl (Nat.le_of_ble_eq_true rfl) ⟨⟨Nat.le_of_ble_eq_true rfl, Nat.le_of_ble_eq_true rfl⟩, Nat.le_of_ble_eq_true rfl, Nat.le_of_ble_eq_true rfl⟩ (fun r as1 h1 hq => ?_)
  obtain ⟨rfl, rfl, ⟨fs, hm⟩, c9⟩ := hq
  refine q_aload_n dL_law_690 rfl rfl ?_
  refine q_aload_n dL_law_691 rfl rfl ?_
  refine q_iload_n dL_law_692 rfl rfl ?_
  refine q_iconst (v := 1) dL_law_693 rfl ?_
  refine q_iadd dL_law_694 ?_
  refine q_sc (i := i) (k := 1) 1 rfl dL_law_695 (by omega) hN ?_
  refine q_callVc dL_law_696 wL_law_93 c9 hm ⟨_, _, rfl⟩ rfl rfl (Nat.le_of_ble_eq_true rfl) ⟨⟨Nat.le_of_ble_eq_true rfl, Nat.le_of_ble_eq_true rfl⟩, Nat.le_of_ble_eq_true rfl, Nat.le_of_ble_eq_true rfl⟩ (fun r as2 h2 hq => ?_)
  obtain ⟨rfl, rfl, hi2⟩ := hq
  exact q_icmp_eq 1052 dL_law_699 (by decide) (fun _ => K _ _ hi2 ⟨rfl, rfl, rfl, rfl, trivial⟩) (fun q => absurd rfl q)
theorem lw_c18 (hi : INV Γ as X m h) (hL : i + 5 ≤ Γ.2.2.2.2.1) (hN : Γ.2.2.2.2.1 ≤ 2560) (K : ∀ (h1 : aH) (ls1 : List (Nat × Value)), INV Γ as X m h1 → lin ls1 (lsL Γ X m (nI i)) → V Γ l mL_law room_1 Z 49 1618 1052 ls1 [] as h1) (hls : lin ls (lsL Γ X m (nI i))) : V Γ l mL_law room_1 Z 49 1618 704 ls [] as h := by
  obtain ⟨h0, he, A, φ, z, ν, d3, d4, tc, gw, rfl, rfl, hI, hR⟩ := hi
  obtain ⟨v, hv, c8⟩ := s_mean (l := l) (q := sc Γ (i + 1)) hI hR
  obtain ⟨v, rfl⟩ := vOK_l hv
  refine V.eqv he ?_
  refine V.at ?_ hls
  refine q_aload_n dL_law_704 rfl rfl ?_
  refine q_aload_n dL_law_705 rfl rfl ?_
  refine q_iload_n dL_law_706 rfl rfl ?_
  refine q_iconst (v := 1) dL_law_707 rfl ?_
  refine q_iadd dL_law_708 ?_
  refine q_sc (i := i) (k := 1) 1 rfl dL_law_709 (by omega) hN ?_
  refine q_callVc dL_law_710 wL_law_94 c8 (K0 hI) ⟨_, _, rfl⟩ rfl rfl (Nat.le_of_ble_eq_true rfl) ⟨⟨Nat.le_of_ble_eq_true rfl, Nat.le_of_ble_eq_true rfl⟩, Nat.le_of_ble_eq_true rfl, Nat.le_of_ble_eq_true rfl⟩ (fun r as1 h1 hq => ?_)
  obtain ⟨rfl, rfl, ⟨fs, hm⟩, c9⟩ := hq
  refine q_aload_n dL_law_713 rfl rfl ?_
  refine q_aload_n dL_law_714 rfl rfl ?_
  refine q_iload_n dL_law_715 rfl rfl ?_
  refine q_iconst (v := 1) dL_law_716 rfl ?_
  refine q_iadd dL_law_717 ?_
  refine q_sc (i := i) (k := 1) 1 rfl dL_law_718 (by omega) hN ?_
  refine q_callVc dL_law_719 wL_law_98 c9 hm ⟨_, _, rfl⟩ rfl rfl (Nat.le_of_ble_eq_true rfl) ⟨⟨Nat.le_of_ble_eq_true rfl, Nat.le_of_ble_eq_true rfl⟩, Nat.le_of_ble_eq_true rfl, Nat.le_of_ble_eq_true rfl⟩ (fun r as2 h2 hq => ?_)
  obtain ⟨rfl, rfl, hi2⟩ := hq
  refine q_lcmp dL_law_722 ?_
  exact q_if_eq 1052 dL_law_723 (by decide) (fun _ => K _ _ hi2 ⟨rfl, rfl, rfl, rfl, trivial⟩) (fun q => absurd (lgc_s _) q)
theorem lw_c19 (hi : INV Γ as X m h) (hL : i + 5 ≤ Γ.2.2.2.2.1) (hN : Γ.2.2.2.2.1 ≤ 2560) (K : ∀ (h1 : aH) (ls1 : List (Nat × Value)), INV Γ as X m h1 → lin ls1 (lsL Γ X m (nI i)) → V Γ l mL_law room_1 Z 49 1618 1052 ls1 [] as h1) (hls : lin ls (lsL Γ X m (nI i))) : V Γ l mL_law room_1 Z 49 1618 728 ls [] as h := by
  obtain ⟨h0, he, A, φ, z, ν, d3, d4, tc, gw, rfl, rfl, hI, hR⟩ := hi
  obtain ⟨v, hv, c8⟩ := s_shabby (l := l) (q := sc Γ (i + 1)) hI hR
  obtain ⟨v, rfl⟩ := vOK_i hv
  refine V.eqv he ?_
  refine V.at ?_ hls
  refine q_aload_n dL_law_728 rfl rfl ?_
  refine q_aload_n dL_law_729 rfl rfl ?_
  refine q_iload_n dL_law_730 rfl rfl ?_
  refine q_iconst (v := 1) dL_law_731 rfl ?_
  refine q_iadd dL_law_732 ?_
  refine q_sc (i := i) (k := 1) 1 rfl dL_law_733 (by omega) hN ?_
  refine q_callVc dL_law_734 wL_law_99 c8 (K0 hI) ⟨_, _, rfl⟩ rfl rfl (Nat.le_of_ble_eq_true rfl) ⟨⟨Nat.le_of_ble_eq_true rfl, Nat.le_of_ble_eq_true rfl⟩, Nat.le_of_ble_eq_true rfl, Nat.le_of_ble_eq_true rfl⟩ (fun r as1 h1 hq => ?_)
  obtain ⟨rfl, rfl, ⟨fs, hm⟩, c9⟩ := hq
  refine q_aload_n dL_law_737 rfl rfl ?_
  refine q_aload_n dL_law_738 rfl rfl ?_
  refine q_iload_n dL_law_739 rfl rfl ?_
  refine q_iconst (v := 1) dL_law_740 rfl ?_
  refine q_iadd dL_law_741 ?_
  refine q_sc (i := i) (k := 1) 1 rfl dL_law_742 (by omega) hN ?_
  refine q_callVc dL_law_743 wL_law_102 c9 hm ⟨_, _, rfl⟩ rfl rfl (Nat.le_of_ble_eq_true rfl) ⟨⟨Nat.le_of_ble_eq_true rfl, Nat.le_of_ble_eq_true rfl⟩, Nat.le_of_ble_eq_true rfl, Nat.le_of_ble_eq_true rfl⟩ (fun r as2 h2 hq => ?_)
  obtain ⟨rfl, rfl, hi2⟩ := hq
  exact q_icmp_eq 1052 dL_law_746 (by decide) (fun _ => K _ _ hi2 ⟨rfl, rfl, rfl, rfl, trivial⟩) (fun q => absurd rfl q)
theorem lw_c20 (hi : INV Γ as X m h) (hL : i + 5 ≤ Γ.2.2.2.2.1) (hN : Γ.2.2.2.2.1 ≤ 2560) (K : ∀ (h1 : aH) (ls1 : List (Nat × Value)), INV Γ as X m h1 → lin ls1 (lsL Γ X m (nI i)) → V Γ l mL_law room_1 Z 49 1618 1052 ls1 [] as h1) (hls : lin ls (lsL Γ X m (nI i))) : V Γ l mL_law room_1 Z 49 1618 751 ls [] as h := by
  obtain ⟨h0, he, A, φ, z, ν, d3, d4, tc, gw, rfl, rfl, hI, hR⟩ := hi
  obtain ⟨v, hv, c8⟩ := s_changer (l := l) (p := sc Γ (i + 1)) (c := sc Γ (i + 2)) (q := sc Γ (i + 3)) hI hR
  obtain ⟨v, rfl⟩ := vOK_i hv
  refine V.eqv he ?_
  refine V.at ?_ hls
  refine q_aload_n dL_law_751 rfl rfl ?_
  refine q_aload_n dL_law_752 rfl rfl ?_
  refine q_iload_n dL_law_753 rfl rfl ?_
  refine q_iconst (v := 1) dL_law_754 rfl ?_
  refine q_iadd dL_law_755 ?_
  refine q_sc (i := i) (k := 1) 1 rfl dL_law_756 (by omega) hN ?_
  refine q_aload_n dL_law_757 rfl rfl ?_
  refine q_iload_n dL_law_758 rfl rfl ?_
  refine q_iconst (v := 2) dL_law_759 rfl ?_
  refine q_iadd dL_law_760 ?_
  refine q_sc (i := i) (k := 2) 2 rfl dL_law_761 (by omega) hN ?_
  refine q_aload_n dL_law_762 rfl rfl ?_
  refine q_iload_n dL_law_763 rfl rfl ?_
  refine q_iconst (v := 3) dL_law_764 rfl ?_
  refine q_iadd dL_law_765 ?_
  refine q_sc (i := i) (k := 3) 3 rfl dL_law_766 (by omega) hN ?_
  refine q_callVc dL_law_767 wL_law_103 c8 (K0 hI) ⟨_, _, rfl⟩ rfl rfl (Nat.le_of_ble_eq_true rfl) ⟨⟨Nat.le_of_ble_eq_true rfl, Nat.le_of_ble_eq_true rfl⟩, Nat.le_of_ble_eq_true rfl, Nat.le_of_ble_eq_true rfl⟩ (fun r as1 h1 hq => ?_)
  obtain ⟨rfl, rfl, ⟨fs, hm⟩, c9⟩ := hq
  refine q_aload_n dL_law_770 rfl rfl ?_
  refine q_aload_n dL_law_771 rfl rfl ?_
  refine q_iload_n dL_law_772 rfl rfl ?_
  refine q_iconst (v := 1) dL_law_773 rfl ?_
  refine q_iadd dL_law_774 ?_
  refine q_sc (i := i) (k := 1) 1 rfl dL_law_775 (by omega) hN ?_
  refine q_aload_n dL_law_776 rfl rfl ?_
  refine q_iload_n dL_law_777 rfl rfl ?_
  refine q_iconst (v := 2) dL_law_778 rfl ?_
  refine q_iadd dL_law_779 ?_
  refine q_sc (i := i) (k := 2) 2 rfl dL_law_780 (by omega) hN ?_
  refine q_aload_n dL_law_781 rfl rfl ?_
  refine q_iload_n dL_law_782 rfl rfl ?_
  refine q_iconst (v := 3) dL_law_783 rfl ?_
  refine q_iadd dL_law_784 ?_
  refine q_sc (i := i) (k := 3) 3 rfl dL_law_785 (by omega) hN ?_
  refine q_callVc dL_law_786 wL_law_106 c9 hm ⟨_, _, rfl⟩ rfl rfl (Nat.le_of_ble_eq_true rfl) ⟨⟨Nat.le_of_ble_eq_true rfl, Nat.le_of_ble_eq_true rfl⟩, Nat.le_of_ble_eq_true rfl, Nat.le_of_ble_eq_true rfl⟩ (fun r as2 h2 hq => ?_)
  obtain ⟨rfl, rfl, hi2⟩ := hq
  exact q_icmp_eq 1052 dL_law_789 (by decide) (fun _ => K _ _ hi2 ⟨rfl, rfl, rfl, rfl, trivial⟩) (fun q => absurd rfl q)
theorem lw_c21 (hi : INV Γ as X m h) (hL : i + 5 ≤ Γ.2.2.2.2.1) (hN : Γ.2.2.2.2.1 ≤ 2560) (K : ∀ (h1 : aH) (ls1 : List (Nat × Value)), INV Γ as X m h1 → lin ls1 (lsL Γ X m (nI i)) → V Γ l mL_law room_1 Z 49 1618 1052 ls1 [] as h1) (hls : lin ls (lsL Γ X m (nI i))) : V Γ l mL_law room_1 Z 49 1618 794 ls [] as h := by
  obtain ⟨h0, he, A, φ, z, ν, d3, d4, tc, gw, rfl, rfl, hI, hR⟩ := hi
  obtain ⟨v, hv, c8⟩ := s_law (l := l) (p := sc Γ (i + 1)) (q := sc Γ (i + 2)) (c := sc Γ (i + 3)) hI hR
  obtain ⟨v, rfl⟩ := vOK_i hv
  refine V.eqv he ?_
  refine V.at ?_ hls
  refine q_aload_n dL_law_794 rfl rfl ?_
  refine q_aload_n dL_law_795 rfl rfl ?_
  refine q_iload_n dL_law_796 rfl rfl ?_
  refine q_iconst (v := 1) dL_law_797 rfl ?_
  refine q_iadd dL_law_798 ?_
  refine q_sc (i := i) (k := 1) 1 rfl dL_law_799 (by omega) hN ?_
  refine q_aload_n dL_law_800 rfl rfl ?_
  refine q_iload_n dL_law_801 rfl rfl ?_
  refine q_iconst (v := 2) dL_law_802 rfl ?_
  refine q_iadd dL_law_803 ?_
  refine q_sc (i := i) (k := 2) 2 rfl dL_law_804 (by omega) hN ?_
  refine q_aload_n dL_law_805 rfl rfl ?_
  refine q_iload_n dL_law_806 rfl rfl ?_
  refine q_iconst (v := 3) dL_law_807 rfl ?_
  refine q_iadd dL_law_808 ?_
  refine q_sc (i := i) (k := 3) 3 rfl dL_law_809 (by omega) hN ?_
  refine q_callVc dL_law_810 wL_law_107 c8 (K0 hI) ⟨_, _, rfl⟩ rfl rfl (Nat.le_of_ble_eq_true rfl) ⟨⟨Nat.le_of_ble_eq_true rfl, Nat.le_of_ble_eq_true rfl⟩, Nat.le_of_ble_eq_true rfl, Nat.le_of_ble_eq_true rfl⟩ (fun r as1 h1 hq => ?_)
  obtain ⟨rfl, rfl, ⟨fs, hm⟩, c9⟩ := hq
  refine q_aload_n dL_law_813 rfl rfl ?_
  refine q_aload_n dL_law_814 rfl rfl ?_
  refine q_iload_n dL_law_815 rfl rfl ?_
  refine q_iconst (v := 1) dL_law_816 rfl ?_
  refine q_iadd dL_law_817 ?_
  refine q_sc (i := i) (k := 1) 1 rfl dL_law_818 (by omega) hN ?_
  refine q_aload_n dL_law_819 rfl rfl ?_
  refine q_iload_n dL_law_820 rfl rfl ?_
  refine q_iconst (v := 2) dL_law_821 rfl ?_
  refine q_iadd dL_law_822 ?_
  refine q_sc (i := i) (k := 2) 2 rfl dL_law_823 (by omega) hN ?_
  refine q_aload_n dL_law_824 rfl rfl ?_
  refine q_iload_n dL_law_825 rfl rfl ?_
  refine q_iconst (v := 3) dL_law_826 rfl ?_
  refine q_iadd dL_law_827 ?_
  refine q_sc (i := i) (k := 3) 3 rfl dL_law_828 (by omega) hN ?_
  refine q_callVc dL_law_829 wL_law_110 c9 hm ⟨_, _, rfl⟩ rfl rfl (Nat.le_of_ble_eq_true rfl) ⟨⟨Nat.le_of_ble_eq_true rfl, Nat.le_of_ble_eq_true rfl⟩, Nat.le_of_ble_eq_true rfl, Nat.le_of_ble_eq_true rfl⟩ (fun r as2 h2 hq => ?_)
  obtain ⟨rfl, rfl, hi2⟩ := hq
  exact q_icmp_eq 1052 dL_law_832 (by decide) (fun _ => K _ _ hi2 ⟨rfl, rfl, rfl, rfl, trivial⟩) (fun q => absurd rfl q)
theorem lw_c22 (hi : INV Γ as X m h) (hL : i + 5 ≤ Γ.2.2.2.2.1) (hN : Γ.2.2.2.2.1 ≤ 2560) (K : ∀ (h1 : aH) (ls1 : List (Nat × Value)), INV Γ as X m h1 → lin ls1 (lsL Γ X m (nI i)) → V Γ l mL_law room_1 Z 49 1618 1052 ls1 [] as h1) (hls : lin ls (lsL Γ X m (nI i))) : V Γ l mL_law room_1 Z 49 1618 837 ls [] as h := by
  obtain ⟨h0, he, A, φ, z, ν, d3, d4, tc, gw, rfl, rfl, hI, hR⟩ := hi
  obtain ⟨v, hv, c8⟩ := s_cheapest (l := l) (a := sc Γ (i + 1)) (b := sc Γ (i + 2)) (q := sc Γ (i + 3)) hI hR
  obtain ⟨v, rfl⟩ := vOK_i hv
  refine V.eqv he ?_
  refine V.at ?_ hls
  refine q_aload_n dL_law_837 rfl rfl ?_
  refine q_aload_n dL_law_838 rfl rfl ?_
  refine q_iload_n dL_law_839 rfl rfl ?_
  refine q_iconst (v := 1) dL_law_840 rfl ?_
  refine q_iadd dL_law_841 ?_
  refine q_sc (i := i) (k := 1) 1 rfl dL_law_842 (by omega) hN ?_
  refine q_aload_n dL_law_843 rfl rfl ?_
  refine q_iload_n dL_law_844 rfl rfl ?_
  refine q_iconst (v := 2) dL_law_845 rfl ?_
  refine q_iadd dL_law_846 ?_
  refine q_sc (i := i) (k := 2) 2 rfl dL_law_847 (by omega) hN ?_
  refine q_aload_n dL_law_848 rfl rfl ?_
  refine q_iload_n dL_law_849 rfl rfl ?_
  refine q_iconst (v := 3) dL_law_850 rfl ?_
  refine q_iadd dL_law_851 ?_
  refine q_sc (i := i) (k := 3) 3 rfl dL_law_852 (by omega) hN ?_
  refine q_callVc dL_law_853 wL_law_111 c8 (K0 hI) ⟨_, _, rfl⟩ rfl rfl (Nat.le_of_ble_eq_true rfl) ⟨⟨Nat.le_of_ble_eq_true rfl, Nat.le_of_ble_eq_true rfl⟩, Nat.le_of_ble_eq_true rfl, Nat.le_of_ble_eq_true rfl⟩ (fun r as1 h1 hq => ?_)
  obtain ⟨rfl, rfl, ⟨fs, hm⟩, c9⟩ := hq
  refine q_aload_n dL_law_856 rfl rfl ?_
  refine q_aload_n dL_law_857 rfl rfl ?_
  refine q_iload_n dL_law_858 rfl rfl ?_
  refine q_iconst (v := 1) dL_law_859 rfl ?_
  refine q_iadd dL_law_860 ?_
  refine q_sc (i := i) (k := 1) 1 rfl dL_law_861 (by omega) hN ?_
  refine q_aload_n dL_law_862 rfl rfl ?_
  refine q_iload_n dL_law_863 rfl rfl ?_
  refine q_iconst (v := 2) dL_law_864 rfl ?_
  refine q_iadd dL_law_865 ?_
  refine q_sc (i := i) (k := 2) 2 rfl dL_law_866 (by omega) hN ?_
  refine q_aload_n dL_law_867 rfl rfl ?_
  refine q_iload_n dL_law_868 rfl rfl ?_
  refine q_iconst (v := 3) dL_law_869 rfl ?_
  refine q_iadd dL_law_870 ?_
  refine q_sc (i := i) (k := 3) 3 rfl dL_law_871 (by omega) hN ?_
  refine q_callVc dL_law_872 wL_law_114 c9 hm ⟨_, _, rfl⟩ rfl rfl (Nat.le_of_ble_eq_true rfl) ⟨⟨Nat.le_of_ble_eq_true rfl, Nat.le_of_ble_eq_true rfl⟩, Nat.le_of_ble_eq_true rfl, Nat.le_of_ble_eq_true rfl⟩ (fun r as2 h2 hq => ?_)
  obtain ⟨rfl, rfl, hi2⟩ := hq
  exact q_icmp_eq 1052 dL_law_875 (by decide) (fun _ => K _ _ hi2 ⟨rfl, rfl, rfl, rfl, trivial⟩) (fun q => absurd rfl q)
theorem lw_c23 (hi : INV Γ as X m h) (hL : i + 5 ≤ Γ.2.2.2.2.1) (hN : Γ.2.2.2.2.1 ≤ 2560) (K : ∀ (h1 : aH) (ls1 : List (Nat × Value)), INV Γ as X m h1 → lin ls1 (lsL Γ X m (nI i)) → V Γ l mL_law room_1 Z 49 1618 1052 ls1 [] as h1) (hls : lin ls (lsL Γ X m (nI i))) : V Γ l mL_law room_1 Z 49 1618 880 ls [] as h := by
  obtain ⟨h0, he, A, φ, z, ν, d3, d4, tc, gw, rfl, rfl, hI, hR⟩ := hi
  obtain ⟨v, hv, c8⟩ := s_first (l := l) (s := sc Γ (i + 1)) (q := sc Γ (i + 2)) hI hR
  obtain ⟨v, rfl⟩ := vOK_i hv
  refine V.eqv he ?_
  refine V.at ?_ hls
  refine q_aload_n dL_law_880 rfl rfl ?_
  refine q_aload_n dL_law_881 rfl rfl ?_
  refine q_iload_n dL_law_882 rfl rfl ?_
  refine q_iconst (v := 1) dL_law_883 rfl ?_
  refine q_iadd dL_law_884 ?_
  refine q_sc (i := i) (k := 1) 1 rfl dL_law_885 (by omega) hN ?_
  refine q_aload_n dL_law_886 rfl rfl ?_
  refine q_iload_n dL_law_887 rfl rfl ?_
  refine q_iconst (v := 2) dL_law_888 rfl ?_
  refine q_iadd dL_law_889 ?_
  refine q_sc (i := i) (k := 2) 2 rfl dL_law_890 (by omega) hN ?_
  refine q_callVc dL_law_891 wL_law_115 c8 (K0 hI) ⟨_, _, rfl⟩ rfl rfl (Nat.le_of_ble_eq_true rfl) ⟨⟨Nat.le_of_ble_eq_true rfl, Nat.le_of_ble_eq_true rfl⟩, Nat.le_of_ble_eq_true rfl, Nat.le_of_ble_eq_true rfl⟩ (fun r as1 h1 hq => ?_)
  obtain ⟨rfl, rfl, ⟨fs, hm⟩, c9⟩ := hq
  refine q_aload_n dL_law_894 rfl rfl ?_
  refine q_aload_n dL_law_895 rfl rfl ?_
  refine q_iload_n dL_law_896 rfl rfl ?_
  refine q_iconst (v := 1) dL_law_897 rfl ?_
  refine q_iadd dL_law_898 ?_
  refine q_sc (i := i) (k := 1) 1 rfl dL_law_899 (by omega) hN ?_
  refine q_aload_n dL_law_900 rfl rfl ?_
  refine q_iload_n dL_law_901 rfl rfl ?_
  refine q_iconst (v := 2) dL_law_902 rfl ?_
  refine q_iadd dL_law_903 ?_
  refine q_sc (i := i) (k := 2) 2 rfl dL_law_904 (by omega) hN ?_
  refine q_callVc dL_law_905 wL_law_118 c9 hm ⟨_, _, rfl⟩ rfl rfl (Nat.le_of_ble_eq_true rfl) ⟨⟨Nat.le_of_ble_eq_true rfl, Nat.le_of_ble_eq_true rfl⟩, Nat.le_of_ble_eq_true rfl, Nat.le_of_ble_eq_true rfl⟩ (fun r as2 h2 hq => ?_)
  obtain ⟨rfl, rfl, hi2⟩ := hq
  exact q_icmp_eq 1052 dL_law_908 (by decide) (fun _ => K _ _ hi2 ⟨rfl, rfl, rfl, rfl, trivial⟩) (fun q => absurd rfl q)
theorem lw_c24 (hi : INV Γ as X m h) (hL : i + 5 ≤ Γ.2.2.2.2.1) (hN : Γ.2.2.2.2.1 ≤ 2560) (K : ∀ (h1 : aH) (ls1 : List (Nat × Value)), INV Γ as X m h1 → lin ls1 (lsL Γ X m (nI i)) → V Γ l mL_law room_1 Z 49 1618 1052 ls1 [] as h1) (hls : lin ls (lsL Γ X m (nI i))) : V Γ l mL_law room_1 Z 49 1618 913 ls [] as h := by
  obtain ⟨h0, he, A, φ, z, ν, d3, d4, tc, gw, rfl, rfl, hI, hR⟩ := hi
  obtain ⟨v, hv, c8⟩ := s_seeds (l := l) (q := sc Γ (i + 1)) hI hR
  obtain ⟨v, rfl⟩ := vOK_i hv
  refine V.eqv he ?_
  refine V.at ?_ hls
  refine q_aload_n dL_law_913 rfl rfl ?_
  refine q_aload_n dL_law_914 rfl rfl ?_
  refine q_iload_n dL_law_915 rfl rfl ?_
  refine q_iconst (v := 1) dL_law_916 rfl ?_
  refine q_iadd dL_law_917 ?_
  refine q_sc (i := i) (k := 1) 1 rfl dL_law_918 (by omega) hN ?_
  refine q_callVc dL_law_919 wL_law_119 c8 (K0 hI) ⟨_, _, rfl⟩ rfl rfl (Nat.le_of_ble_eq_true rfl) ⟨⟨Nat.le_of_ble_eq_true rfl, Nat.le_of_ble_eq_true rfl⟩, Nat.le_of_ble_eq_true rfl, Nat.le_of_ble_eq_true rfl⟩ (fun r as1 h1 hq => ?_)
  obtain ⟨rfl, rfl, ⟨fs, hm⟩, c9⟩ := hq
  refine q_aload_n dL_law_922 rfl rfl ?_
  refine q_aload_n dL_law_923 rfl rfl ?_
  refine q_iload_n dL_law_924 rfl rfl ?_
  refine q_iconst (v := 1) dL_law_925 rfl ?_
  refine q_iadd dL_law_926 ?_
  refine q_sc (i := i) (k := 1) 1 rfl dL_law_927 (by omega) hN ?_
  refine q_callVc dL_law_928 wL_law_122 c9 hm ⟨_, _, rfl⟩ rfl rfl (Nat.le_of_ble_eq_true rfl) ⟨⟨Nat.le_of_ble_eq_true rfl, Nat.le_of_ble_eq_true rfl⟩, Nat.le_of_ble_eq_true rfl, Nat.le_of_ble_eq_true rfl⟩ (fun r as2 h2 hq => ?_)
  obtain ⟨rfl, rfl, hi2⟩ := hq
  exact q_icmp_eq 1052 dL_law_931 (by decide) (fun _ => K _ _ hi2 ⟨rfl, rfl, rfl, rfl, trivial⟩) (fun q => absurd rfl q)
theorem lw_c25 (hi : INV Γ as X m h) (hL : i + 5 ≤ Γ.2.2.2.2.1) (hN : Γ.2.2.2.2.1 ≤ 2560) (K : ∀ (h1 : aH) (ls1 : List (Nat × Value)), INV Γ as X m h1 → lin ls1 (lsL Γ X m (nI i)) → V Γ l mL_law room_1 Z 49 1618 1052 ls1 [] as h1) (hls : lin ls (lsL Γ X m (nI i))) : V Γ l mL_law room_1 Z 49 1618 936 ls [] as h := by
  obtain ⟨h0, he, A, φ, z, ν, d3, d4, tc, gw, rfl, rfl, hI, hR⟩ := hi
  obtain ⟨v, hv, c8⟩ := s_labour (l := l) (q := sc Γ (i + 1)) (p := sc Γ (i + 2)) hI hR
  obtain ⟨v, rfl⟩ := vOK_i hv
  refine V.eqv he ?_
  refine V.at ?_ hls
  refine q_aload_n dL_law_936 rfl rfl ?_
  refine q_aload_n dL_law_937 rfl rfl ?_
  refine q_iload_n dL_law_938 rfl rfl ?_
  refine q_iconst (v := 1) dL_law_939 rfl ?_
  refine q_iadd dL_law_940 ?_
  refine q_sc (i := i) (k := 1) 1 rfl dL_law_941 (by omega) hN ?_
  refine q_aload_n dL_law_942 rfl rfl ?_
  refine q_iload_n dL_law_943 rfl rfl ?_
  refine q_iconst (v := 2) dL_law_944 rfl ?_
  refine q_iadd dL_law_945 ?_
  refine q_sc (i := i) (k := 2) 2 rfl dL_law_946 (by omega) hN ?_
  refine q_callVc dL_law_947 wL_law_123 c8 (K0 hI) ⟨_, _, rfl⟩ rfl rfl (Nat.le_of_ble_eq_true rfl) ⟨⟨Nat.le_of_ble_eq_true rfl, Nat.le_of_ble_eq_true rfl⟩, Nat.le_of_ble_eq_true rfl, Nat.le_of_ble_eq_true rfl⟩ (fun r as1 h1 hq => ?_)
  obtain ⟨rfl, rfl, ⟨fs, hm⟩, c9⟩ := hq
  refine q_aload_n dL_law_950 rfl rfl ?_
  refine q_aload_n dL_law_951 rfl rfl ?_
  refine q_iload_n dL_law_952 rfl rfl ?_
  refine q_iconst (v := 1) dL_law_953 rfl ?_
  refine q_iadd dL_law_954 ?_
  refine q_sc (i := i) (k := 1) 1 rfl dL_law_955 (by omega) hN ?_
  refine q_aload_n dL_law_956 rfl rfl ?_
  refine q_iload_n dL_law_957 rfl rfl ?_
  refine q_iconst (v := 2) dL_law_958 rfl ?_
  refine q_iadd dL_law_959 ?_
  refine q_sc (i := i) (k := 2) 2 rfl dL_law_960 (by omega) hN ?_
  refine q_callVc dL_law_961 wL_law_126 c9 hm ⟨_, _, rfl⟩ rfl rfl (Nat.le_of_ble_eq_true rfl) ⟨⟨Nat.le_of_ble_eq_true rfl, Nat.le_of_ble_eq_true rfl⟩, Nat.le_of_ble_eq_true rfl, Nat.le_of_ble_eq_true rfl⟩ (fun r as2 h2 hq => ?_)
  obtain ⟨rfl, rfl, hi2⟩ := hq
  exact q_icmp_eq 1052 dL_law_964 (by decide) (fun _ => K _ _ hi2 ⟨rfl, rfl, rfl, rfl, trivial⟩) (fun q => absurd rfl q)
theorem lw_c26 (hi : INV Γ as X m h) (hL : i + 5 ≤ Γ.2.2.2.2.1) (hN : Γ.2.2.2.2.1 ≤ 2560) (K : ∀ (h1 : aH) (ls1 : List (Nat × Value)), INV Γ as X m h1 → lin ls1 (lsL Γ X m (nI i)) → V Γ l mL_law room_1 Z 49 1618 1052 ls1 [] as h1) (hls : lin ls (lsL Γ X m (nI i))) : V Γ l mL_law room_1 Z 49 1618 969 ls [] as h := by
  obtain ⟨h0, he, A, φ, z, ν, d3, d4, tc, gw, rfl, rfl, hI, hR⟩ := hi
  obtain ⟨v, hv, c8⟩ := s_keep (l := l) (q := sc Γ (i + 1)) hI hR
  obtain ⟨v, rfl⟩ := vOK_i hv
  refine V.eqv he ?_
  refine V.at ?_ hls
  refine q_aload_n dL_law_969 rfl rfl ?_
  refine q_aload_n dL_law_970 rfl rfl ?_
  refine q_iload_n dL_law_971 rfl rfl ?_
  refine q_iconst (v := 1) dL_law_972 rfl ?_
  refine q_iadd dL_law_973 ?_
  refine q_sc (i := i) (k := 1) 1 rfl dL_law_974 (by omega) hN ?_
  refine q_callVc dL_law_975 wL_law_127 c8 (K0 hI) ⟨_, _, rfl⟩ rfl rfl (Nat.le_of_ble_eq_true rfl) ⟨⟨Nat.le_of_ble_eq_true rfl, Nat.le_of_ble_eq_true rfl⟩, Nat.le_of_ble_eq_true rfl, Nat.le_of_ble_eq_true rfl⟩ (fun r as1 h1 hq => ?_)
  obtain ⟨rfl, rfl, ⟨fs, hm⟩, c9⟩ := hq
  refine q_aload_n dL_law_978 rfl rfl ?_
  refine q_aload_n dL_law_979 rfl rfl ?_
  refine q_iload_n dL_law_980 rfl rfl ?_
  refine q_iconst (v := 1) dL_law_981 rfl ?_
  refine q_iadd dL_law_982 ?_
  refine q_sc (i := i) (k := 1) 1 rfl dL_law_983 (by omega) hN ?_
  refine q_callVc dL_law_984 wL_law_130 c9 hm ⟨_, _, rfl⟩ rfl rfl (Nat.le_of_ble_eq_true rfl) ⟨⟨Nat.le_of_ble_eq_true rfl, Nat.le_of_ble_eq_true rfl⟩, Nat.le_of_ble_eq_true rfl, Nat.le_of_ble_eq_true rfl⟩ (fun r as2 h2 hq => ?_)
  obtain ⟨rfl, rfl, hi2⟩ := hq
  exact q_icmp_eq 1052 dL_law_987 (by decide) (fun _ => K _ _ hi2 ⟨rfl, rfl, rfl, rfl, trivial⟩) (fun q => absurd rfl q)
theorem lw_c27 (hi : INV Γ as X m h) (hL : i + 5 ≤ Γ.2.2.2.2.1) (hN : Γ.2.2.2.2.1 ≤ 2560) (K : ∀ (h1 : aH) (ls1 : List (Nat × Value)), INV Γ as X m h1 → lin ls1 (lsL Γ X m (nI i)) → V Γ l mL_law room_1 Z 49 1618 1052 ls1 [] as h1) (hls : lin ls (lsL Γ X m (nI i))) : V Γ l mL_law room_1 Z 49 1618 992 ls [] as h := by
  obtain ⟨h0, he, A, φ, z, ν, d3, d4, tc, gw, rfl, rfl, hI, hR⟩ := hi
  obtain ⟨v, hv, c8⟩ := s_back (l := l) (q := sc Γ (i + 1)) hI hR
  obtain ⟨v, rfl⟩ := vOK_i hv
  refine V.eqv he ?_
  refine V.at ?_ hls
  refine q_aload_n dL_law_992 rfl rfl ?_
  refine q_aload_n dL_law_993 rfl rfl ?_
  refine q_iload_n dL_law_994 rfl rfl ?_
  refine q_iconst (v := 1) dL_law_995 rfl ?_
  refine q_iadd dL_law_996 ?_
  refine q_sc (i := i) (k := 1) 1 rfl dL_law_997 (by omega) hN ?_
  refine q_callVc dL_law_998 wL_law_131 c8 (K0 hI) ⟨_, _, rfl⟩ rfl rfl (Nat.le_of_ble_eq_true rfl) ⟨⟨Nat.le_of_ble_eq_true rfl, Nat.le_of_ble_eq_true rfl⟩, Nat.le_of_ble_eq_true rfl, Nat.le_of_ble_eq_true rfl⟩ (fun r as1 h1 hq => ?_)
  obtain ⟨rfl, rfl, ⟨fs, hm⟩, c9⟩ := hq
  refine q_aload_n dL_law_1001 rfl rfl ?_
  refine q_aload_n dL_law_1002 rfl rfl ?_
  refine q_iload_n dL_law_1003 rfl rfl ?_
  refine q_iconst (v := 1) dL_law_1004 rfl ?_
  refine q_iadd dL_law_1005 ?_
  refine q_sc (i := i) (k := 1) 1 rfl dL_law_1006 (by omega) hN ?_
  refine q_callVc dL_law_1007 wL_law_134 c9 hm ⟨_, _, rfl⟩ rfl rfl (Nat.le_of_ble_eq_true rfl) ⟨⟨Nat.le_of_ble_eq_true rfl, Nat.le_of_ble_eq_true rfl⟩, Nat.le_of_ble_eq_true rfl, Nat.le_of_ble_eq_true rfl⟩ (fun r as2 h2 hq => ?_)
  obtain ⟨rfl, rfl, hi2⟩ := hq
  exact q_icmp_eq 1052 dL_law_1010 (by decide) (fun _ => K _ _ hi2 ⟨rfl, rfl, rfl, rfl, trivial⟩) (fun q => absurd rfl q)
theorem lw_c28 (hi : INV Γ as X m h) (hL : i + 5 ≤ Γ.2.2.2.2.1) (hN : Γ.2.2.2.2.1 ≤ 2560) (K : ∀ (h1 : aH) (ls1 : List (Nat × Value)), INV Γ as X m h1 → lin ls1 (lsL Γ X m (nI i)) → V Γ l mL_law room_1 Z 49 1618 1052 ls1 [] as h1) (hls : lin ls (lsL Γ X m (nI i))) : V Γ l mL_law room_1 Z 49 1618 1015 ls [] as h := by
  obtain ⟨h0, he, A, φ, z, ν, d3, d4, tc, gw, rfl, rfl, hI, hR⟩ := hi
  obtain ⟨v, hv, c8⟩ := s_count (l := l) (q := sc Γ (i + 1)) hI hR
  obtain ⟨v, rfl⟩ := vOK_i hv
  refine V.eqv he ?_
  refine V.at ?_ hls
  refine q_aload_n dL_law_1015 rfl rfl ?_
  refine q_aload_n dL_law_1016 rfl rfl ?_
  refine q_iload_n dL_law_1017 rfl rfl ?_
  refine q_iconst (v := 1) dL_law_1018 rfl ?_
  refine q_iadd dL_law_1019 ?_
  refine q_sc (i := i) (k := 1) 1 rfl dL_law_1020 (by omega) hN ?_
  refine q_callVc dL_law_1021 wL_law_135 c8 (K0 hI) ⟨_, _, rfl⟩ rfl rfl (Nat.le_of_ble_eq_true rfl) ⟨⟨Nat.le_of_ble_eq_true rfl, Nat.le_of_ble_eq_true rfl⟩, Nat.le_of_ble_eq_true rfl, Nat.le_of_ble_eq_true rfl⟩ (fun r as1 h1 hq => ?_)
  obtain ⟨rfl, rfl, ⟨fs, hm⟩, c9⟩ := hq
  refine q_aload_n dL_law_1024 rfl rfl ?_
  refine q_aload_n dL_law_1025 rfl rfl ?_
  refine q_iload_n dL_law_1026 rfl rfl ?_
  refine q_iconst (v := 1) dL_law_1027 rfl ?_
  refine q_iadd dL_law_1028 ?_
  refine q_sc (i := i) (k := 1) 1 rfl dL_law_1029 (by omega) hN ?_
  refine q_callVc dL_law_1030 wL_law_138 c9 hm ⟨_, _, rfl⟩ rfl rfl (Nat.le_of_ble_eq_true rfl) ⟨⟨Nat.le_of_ble_eq_true rfl, Nat.le_of_ble_eq_true rfl⟩, Nat.le_of_ble_eq_true rfl, Nat.le_of_ble_eq_true rfl⟩ (fun r as2 h2 hq => ?_)
  obtain ⟨rfl, rfl, hi2⟩ := hq
  exact q_icmp_eq 1052 dL_law_1033 (by decide) (fun _ => K _ _ hi2 ⟨rfl, rfl, rfl, rfl, trivial⟩) (fun q => absurd rfl q)
theorem lw_c29 (hi : INV Γ as X m h) (hL : i + 5 ≤ Γ.2.2.2.2.1) (hN : Γ.2.2.2.2.1 ≤ 2560) (K : ∀ (h1 : aH) (ls1 : List (Nat × Value)), INV Γ as X m h1 → lin ls1 (lsL Γ X m (nI i)) → V Γ l mL_law room_1 Z 49 1618 1052 ls1 [] as h1) (hls : lin ls (lsL Γ X m (nI i))) : V Γ l mL_law room_1 Z 49 1618 1038 ls [] as h := by
  obtain ⟨h0, he, A, φ, z, ν, d3, d4, tc, gw, rfl, rfl, hI, hR⟩ := hi
  obtain ⟨v, hv, c8⟩ := s_trace (l := l) hI hR
  obtain ⟨v, rfl⟩ := vOK_l hv
  refine V.eqv he ?_
  refine V.at ?_ hls
  refine q_aload_n dL_law_1038 rfl rfl ?_
  refine q_callVc dL_law_1039 wL_law_139 c8 (K0 hI) ⟨_, _, rfl⟩ rfl rfl (Nat.le_of_ble_eq_true rfl) ⟨⟨Nat.le_of_ble_eq_true rfl, Nat.le_of_ble_eq_true rfl⟩, Nat.le_of_ble_eq_true rfl, Nat.le_of_ble_eq_true rfl⟩ (fun r as1 h1 hq => ?_)
  obtain ⟨rfl, rfl, ⟨fs, hm⟩, c9⟩ := hq
  refine q_aload_n dL_law_1042 rfl rfl ?_
  refine q_callVc dL_law_1043 wL_law_143 c9 hm ⟨_, _, rfl⟩ rfl rfl (Nat.le_of_ble_eq_true rfl) ⟨⟨Nat.le_of_ble_eq_true rfl, Nat.le_of_ble_eq_true rfl⟩, Nat.le_of_ble_eq_true rfl, Nat.le_of_ble_eq_true rfl⟩ (fun r as2 h2 hq => ?_)
  obtain ⟨rfl, rfl, hi2⟩ := hq
  refine q_lcmp dL_law_1046 ?_
  exact q_if_eq 1052 dL_law_1047 (by decide) (fun _ => K _ _ hi2 ⟨rfl, rfl, rfl, rfl, trivial⟩) (fun q => absurd (lgc_s _) q)
end

