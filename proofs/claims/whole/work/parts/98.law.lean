/-! The law's own walk -/
def pm_X (Γ : pm_T) (L0 : Nat) (xs : Nat → Int32) : Prop := match Γ with
  | (_, _, _, _, s, _, _, _, _, _, _, u, _) => va_X (u.2.1 99) L0 xs s s.heap ∧ u.2.1 99 < s.heap.size ∧ u.1 = s.heap.size
theorem nJ1 (j : Nat) : nI j + 1 = nI (j + 1) := nI_1 j
theorem nJ2 (j : Nat) : nI j + 2 = nI (j + 2) := by rw [show (2 : Int32) = nI 2 by decide, nI_add]
theorem nJ3 (j : Nat) : nI j + 3 = nI (j + 3) := by rw [show (3 : Int32) = nI 3 by decide, nI_add]
theorem nJ4 (j : Nat) : nI j + 4 = nI (j + 4) := by rw [show (4 : Int32) = nI 4 by decide, nI_add]
section PML
variable {Γ : pm_T} {own : String} {cc : ByteArray} {d n cells slots pc L0 : Nat} {xs : Nat → Int32} {L : List (Nat × Value)} {st : List Value} {sh : List pm_S} {I : pm_I} {J : pm_J}
theorem g_slen (C : pm_Cx Γ own cc d n) (hX : pm_X Γ L0 xs) (hd : decode cc pc = .ok (.arraylength, 1)) (k : pm_G Γ cells slots (pc + 1) L (.int (nI L0) :: st) sh I J) : pm_G Γ cells slots pc L (.ref (1000 + 99) :: st) sh I J := by
  obtain ⟨p, l, e, R, s, m, args, below, meth, c, Q, u, nL⟩ := Γ
  obtain ⟨hx, hb, hml, rfl, hown, hts, hlk, hK, hfr, hlo, hB⟩ := C
  obtain ⟨x1, x2, x3⟩ := hX
  intro H locs ls hW hS hl hc hs
  show W p l e R s m args below meth c H locs cells slots Q (F0 m pc ls (.ref (pm_ad u (1000 + 99)) :: st.map (pm_tr u)))
  rw [pm_ad_hi]
  exact va_slen hx hb x1 x2 (fun q => by have q2 : u.1 ≤ u.2.1 99 := q; omega) hS hd (k H locs ls hW hS hl hc hs)
theorem g_sld {j : Nat} {i : Int32} (C : pm_Cx Γ own cc d n) (hX : pm_X Γ L0 xs) (hd : decode cc pc = .ok (.iaload, 1)) (hi : i = nI j) (hj : j < L0 ∧ L0 ≤ 100000) (k : pm_G Γ cells slots (pc + 1) L (.int (xs j) :: st) sh I J) : pm_G Γ cells slots pc L (.int i :: .ref (1000 + 99) :: st) sh I J := by
  obtain ⟨p, l, e, R, s, m, args, below, meth, c, Q, u, nL⟩ := Γ
  obtain ⟨hx, hb, hml, rfl, hown, hts, hlk, hK, hfr, hlo, hB⟩ := C
  obtain ⟨x1, x2, x3⟩ := hX
  obtain ⟨c1, c2⟩ := pm_clamp hi hj.1 hj.2
  intro H locs ls hW hS hl hc hs
  show W p l e R s m args below meth c H locs cells slots Q (F0 m pc ls (.int i :: .ref (pm_ad u (1000 + 99)) :: st.map (pm_tr u)))
  rw [pm_ad_hi]
  refine va_sld hx hb x1 x2 (fun q => by have q2 : u.1 ≤ u.2.1 99 := q; omega) hS c2 hd ?_
  rw [c1]
  exact k H locs ls hW hS hl hc hs
end PML
theorem law_lt {L0 j : Nat} (hL : L0 ≤ 2560) (hj : j ≤ 3000) (h : ¬ nI L0 - 5 < nI j) : j + 5 ≤ L0 := by
  by_cases h5 : 5 ≤ L0
  · rw [show (5 : Int32) = nI 5 by decide, nI_subN h5] at h
    have := (nI_leI (a := j) (b := L0 - 5) (by omega) (by omega)).mp (Int32.not_lt.mp h)
    omega
  · exfalso
    apply h
    have h0 : nI 0 ≤ nI j := (nI_leI (a := 0) (b := j) (by decide) (by omega)).mpr (Nat.zero_le _)
    have h1 : nI L0 - 5 < nI 0 := by
      rcases (show L0 = 0 ∨ L0 = 1 ∨ L0 = 2 ∨ L0 = 3 ∨ L0 = 4 by omega) with rfl | rfl | rfl | rfl | rfl <;> decide
    exact Int32.lt_of_lt_of_le h1 h0
set_option maxHeartbeats 8000000 in
set_option maxRecDepth 100000 in
theorem law_body {Γ : pm_T} {L0 j c9 s9 : Nat} {xs : Nat → Int32} {I : pm_I} {J : pm_J} (C : pm_Cx Γ RL cL_law (11 + 1) 4) (hX : pm_X Γ L0 xs) (hL : L0 ≤ 2560) (h5 : j + 5 ≤ L0) (hR : Rel I I J)
    (hn9 : ∀ I2 J2, Rel I2 I2 J2 → pm_G Γ c9 s9 1569 [(0, .ref (1000 + 99)), (1, .ref 0), (2, .ref 102), (3, .int (nI j))] [] SHP I2 J2) : pm_G Γ c9 s9 26 [(0, .ref (1000 + 99)), (1, .ref 0), (2, .ref 102), (3, .int (nI j))] [] SHP I J := by
  refine g_aload_n (pc := 26) (i := 0) (j := 0) C dL_law_26 rfl rfl ?_
  refine g_iload_n (pc := 27) (i := 3) (j := 3) C dL_law_27 rfl rfl ?_
  refine g_sld (pc := 28) (j := j) C hX dL_law_28 rfl (by omega) ?_
  refine g_bipush (pc := 29) (v := 63) C dL_law_29 (by decide) ?_
  refine g_iand (pc := 31) C dL_law_31 ?_
  refine pm_sw (0) (fun h32_0 => ?_) (fun h32_0 => ?_)
  · refine g_tsIn (pc := 32) (tgt := 220) (0) C dL_law_32 (by rw [h32_0]; decide) (by decide) (by decide) rfl (by decide) ?_
    obtain ⟨Post1, ρ, Pc, hM1, hP1, h2⟩ := two_feed hR (e := ((xs (j + 1)).toInt64 <<< ((32 : Int32).toInt64 &&& 63)) ||| ((xs (j + 2)).toInt64 &&& 4294967295)) (x := xs (j + 3))
    refine g_aload_n (pc := 220) (i := 1) (j := 1) C dL_law_220 rfl rfl ?_
    refine g_aload_n (pc := 221) (i := 0) (j := 0) C dL_law_221 rfl rfl ?_
    refine g_iload_n (pc := 222) (i := 3) (j := 3) C dL_law_222 rfl rfl ?_
    refine g_iconst (pc := 223) (v := 1) C dL_law_223 (by decide) ?_
    refine g_iadd (pc := 224) C dL_law_224 ?_
    refine g_sld (pc := 225) (j := j + 1) C hX dL_law_225 (nJ1 j) (by omega) ?_
    refine g_i2l (pc := 226) C dL_law_226 ?_
    refine g_bipush (pc := 227) (v := 32) C dL_law_227 (by decide) ?_
    refine g_lshl (pc := 229) C dL_law_229 ?_
    refine g_aload_n (pc := 230) (i := 0) (j := 0) C dL_law_230 rfl rfl ?_
    refine g_iload_n (pc := 231) (i := 3) (j := 3) C dL_law_231 rfl rfl ?_
    refine g_iconst (pc := 232) (v := 2) C dL_law_232 (by decide) ?_
    refine g_iadd (pc := 233) C dL_law_233 ?_
    refine g_sld (pc := 234) (j := j + 2) C hX dL_law_234 (nJ2 j) (by omega) ?_
    refine g_i2l (pc := 235) C dL_law_235 ?_
    refine g_ldc2 (pc := 236) C dL_law_236 lcL_13 ?_
    refine g_land (pc := 239) C dL_law_239 ?_
    refine g_lor (pc := 240) C dL_law_240 ?_
    refine g_aload_n (pc := 241) (i := 0) (j := 0) C dL_law_241 rfl rfl ?_
    refine g_iload_n (pc := 242) (i := 3) (j := 3) C dL_law_242 rfl rfl ?_
    refine g_iconst (pc := 243) (v := 3) C dL_law_243 (by decide) ?_
    refine g_iadd (pc := 244) C dL_law_244 ?_
    refine g_sld (pc := 245) (j := j + 3) C hX dL_law_245 (nJ3 j) (by omega) ?_
    refine g_callV (pc := 246) C dL_law_246 lmL_15 kcX7_feed (by decide) (by first | rfl | assumption) (hM1) rfl rfl (Nat.le_of_ble_eq_true rfl) ?_
    intro r9 sh9 I9 J9 hD9; obtain ⟨rfl, rfl, rfl, hPc⟩ := hP1 _ _ _ _ hD9; obtain ⟨Post2, hM2, hP2⟩ := h2 _ hPc
    try simp only [Option.toList_some, Option.toList_none, List.cons_append, List.nil_append]
    refine g_aload_n (pc := 249) (i := 2) (j := 2) C dL_law_249 rfl rfl ?_
    refine g_aload_n (pc := 250) (i := 0) (j := 0) C dL_law_250 rfl rfl ?_
    refine g_iload_n (pc := 251) (i := 3) (j := 3) C dL_law_251 rfl rfl ?_
    refine g_iconst (pc := 252) (v := 1) C dL_law_252 (by decide) ?_
    refine g_iadd (pc := 253) C dL_law_253 ?_
    refine g_sld (pc := 254) (j := j + 1) C hX dL_law_254 (nJ1 j) (by omega) ?_
    refine g_i2l (pc := 255) C dL_law_255 ?_
    refine g_bipush (pc := 256) (v := 32) C dL_law_256 (by decide) ?_
    refine g_lshl (pc := 258) C dL_law_258 ?_
    refine g_aload_n (pc := 259) (i := 0) (j := 0) C dL_law_259 rfl rfl ?_
    refine g_iload_n (pc := 260) (i := 3) (j := 3) C dL_law_260 rfl rfl ?_
    refine g_iconst (pc := 261) (v := 2) C dL_law_261 (by decide) ?_
    refine g_iadd (pc := 262) C dL_law_262 ?_
    refine g_sld (pc := 263) (j := j + 2) C hX dL_law_263 (nJ2 j) (by omega) ?_
    refine g_i2l (pc := 264) C dL_law_264 ?_
    refine g_ldc2 (pc := 265) C dL_law_265 lcL_13 ?_
    refine g_land (pc := 268) C dL_law_268 ?_
    refine g_lor (pc := 269) C dL_law_269 ?_
    refine g_aload_n (pc := 270) (i := 0) (j := 0) C dL_law_270 rfl rfl ?_
    refine g_iload_n (pc := 271) (i := 3) (j := 3) C dL_law_271 rfl rfl ?_
    refine g_iconst (pc := 272) (v := 3) C dL_law_272 (by decide) ?_
    refine g_iadd (pc := 273) C dL_law_273 ?_
    refine g_sld (pc := 274) (j := j + 3) C hX dL_law_274 (nJ3 j) (by omega) ?_
    refine g_callV (pc := 275) C dL_law_275 lmL_19 kcX8_feed (by decide) (by first | rfl | assumption) (hM2) rfl rfl (Nat.le_of_ble_eq_true rfl) ?_
    intro r8 sh8 I8 J8 hD8; obtain ⟨rfl, rfl, hR2⟩ := hP2 _ _ _ _ hD8
    try simp only [Option.toList_some, Option.toList_none, List.cons_append, List.nil_append]
    refine g_icmp_eq (pc := 278) (tgt := 1569) C dL_law_278 (by decide) (fun h278 => ?_) (fun h278 => absurd rfl h278)
    exact hn9 _ _ hR2
  refine pm_sw (1) (fun h32_1 => ?_) (fun h32_1 => ?_)
  · refine g_tsIn (pc := 32) (tgt := 283) (1) C dL_law_32 (by rw [h32_1]; decide) (by decide) (by decide) rfl (by decide) ?_
    obtain ⟨Post1, ρ, Pc, hM1, hP1, h2⟩ := two_town hR 
    refine g_aload_n (pc := 283) (i := 1) (j := 1) C dL_law_283 rfl rfl ?_
    refine g_callV (pc := 284) C dL_law_284 lmL_20 kcX7_town (by decide) (by first | rfl | assumption) (hM1) rfl rfl (Nat.le_of_ble_eq_true rfl) ?_
    intro r9 sh9 I9 J9 hD9; obtain ⟨rfl, rfl, rfl, hPc⟩ := hP1 _ _ _ _ hD9; obtain ⟨Post2, hM2, hP2⟩ := h2 _ hPc
    try simp only [Option.toList_some, Option.toList_none, List.cons_append, List.nil_append]
    refine g_aload_n (pc := 287) (i := 2) (j := 2) C dL_law_287 rfl rfl ?_
    refine g_callV (pc := 288) C dL_law_288 lmL_24 kcX8_town (by decide) (by first | rfl | assumption) (hM2) rfl rfl (Nat.le_of_ble_eq_true rfl) ?_
    intro r8 sh8 I8 J8 hD8; obtain ⟨rfl, rfl, hR2⟩ := hP2 _ _ _ _ hD8
    try simp only [Option.toList_some, Option.toList_none, List.cons_append, List.nil_append]
    refine g_icmp_eq (pc := 291) (tgt := 1569) C dL_law_291 (by decide) (fun h291 => ?_) (fun h291 => absurd rfl h291)
    exact hn9 _ _ hR2
  refine pm_sw (2) (fun h32_2 => ?_) (fun h32_2 => ?_)
  · refine g_tsIn (pc := 32) (tgt := 296) (2) C dL_law_32 (by rw [h32_2]; decide) (by decide) (by decide) rfl (by decide) ?_
    obtain ⟨Post1, ρ, Pc, hM1, hP1, h2⟩ := two_warm hR (x := xs (j + 1)) (v := xs (j + 2))
    refine g_aload_n (pc := 296) (i := 1) (j := 1) C dL_law_296 rfl rfl ?_
    refine g_aload_n (pc := 297) (i := 0) (j := 0) C dL_law_297 rfl rfl ?_
    refine g_iload_n (pc := 298) (i := 3) (j := 3) C dL_law_298 rfl rfl ?_
    refine g_iconst (pc := 299) (v := 1) C dL_law_299 (by decide) ?_
    refine g_iadd (pc := 300) C dL_law_300 ?_
    refine g_sld (pc := 301) (j := j + 1) C hX dL_law_301 (nJ1 j) (by omega) ?_
    refine g_aload_n (pc := 302) (i := 0) (j := 0) C dL_law_302 rfl rfl ?_
    refine g_iload_n (pc := 303) (i := 3) (j := 3) C dL_law_303 rfl rfl ?_
    refine g_iconst (pc := 304) (v := 2) C dL_law_304 (by decide) ?_
    refine g_iadd (pc := 305) C dL_law_305 ?_
    refine g_sld (pc := 306) (j := j + 2) C hX dL_law_306 (nJ2 j) (by omega) ?_
    refine g_callV (pc := 307) C dL_law_307 lmL_25 kcX7_warm (by decide) (by first | rfl | assumption) (hM1) rfl rfl (Nat.le_of_ble_eq_true rfl) ?_
    intro r9 sh9 I9 J9 hD9; obtain ⟨rfl, rfl, rfl, hPc⟩ := hP1 _ _ _ _ hD9; obtain ⟨Post2, hM2, hP2⟩ := h2 _ hPc
    try simp only [Option.toList_some, Option.toList_none, List.cons_append, List.nil_append]
    refine g_aload_n (pc := 310) (i := 2) (j := 2) C dL_law_310 rfl rfl ?_
    refine g_aload_n (pc := 311) (i := 0) (j := 0) C dL_law_311 rfl rfl ?_
    refine g_iload_n (pc := 312) (i := 3) (j := 3) C dL_law_312 rfl rfl ?_
    refine g_iconst (pc := 313) (v := 1) C dL_law_313 (by decide) ?_
    refine g_iadd (pc := 314) C dL_law_314 ?_
    refine g_sld (pc := 315) (j := j + 1) C hX dL_law_315 (nJ1 j) (by omega) ?_
    refine g_aload_n (pc := 316) (i := 0) (j := 0) C dL_law_316 rfl rfl ?_
    refine g_iload_n (pc := 317) (i := 3) (j := 3) C dL_law_317 rfl rfl ?_
    refine g_iconst (pc := 318) (v := 2) C dL_law_318 (by decide) ?_
    refine g_iadd (pc := 319) C dL_law_319 ?_
    refine g_sld (pc := 320) (j := j + 2) C hX dL_law_320 (nJ2 j) (by omega) ?_
    refine g_callV (pc := 321) C dL_law_321 lmL_29 kcX8_warm (by decide) (by first | rfl | assumption) (hM2) rfl rfl (Nat.le_of_ble_eq_true rfl) ?_
    intro r8 sh8 I8 J8 hD8; obtain ⟨rfl, rfl, hR2⟩ := hP2 _ _ _ _ hD8
    try simp only [Option.toList_some, Option.toList_none, List.cons_append, List.nil_append]
    refine g_icmp_eq (pc := 324) (tgt := 1569) C dL_law_324 (by decide) (fun h324 => ?_) (fun h324 => absurd rfl h324)
    exact hn9 _ _ hR2
  refine pm_sw (3) (fun h32_3 => ?_) (fun h32_3 => ?_)
  · refine g_tsIn (pc := 32) (tgt := 329) (3) C dL_law_32 (by rw [h32_3]; decide) (by decide) (by decide) rfl (by decide) ?_
    obtain ⟨Post1, ρ, Pc, hM1, hP1, h2⟩ := two_warmth hR (x := xs (j + 1))
    refine g_aload_n (pc := 329) (i := 1) (j := 1) C dL_law_329 rfl rfl ?_
    refine g_aload_n (pc := 330) (i := 0) (j := 0) C dL_law_330 rfl rfl ?_
    refine g_iload_n (pc := 331) (i := 3) (j := 3) C dL_law_331 rfl rfl ?_
    refine g_iconst (pc := 332) (v := 1) C dL_law_332 (by decide) ?_
    refine g_iadd (pc := 333) C dL_law_333 ?_
    refine g_sld (pc := 334) (j := j + 1) C hX dL_law_334 (nJ1 j) (by omega) ?_
    refine g_callV (pc := 335) C dL_law_335 lmL_30 kcX7_warmth (by decide) (by first | rfl | assumption) (hM1) rfl rfl (Nat.le_of_ble_eq_true rfl) ?_
    intro r9 sh9 I9 J9 hD9; obtain ⟨rfl, rfl, rfl, hPc⟩ := hP1 _ _ _ _ hD9; obtain ⟨Post2, hM2, hP2⟩ := h2 _ hPc
    try simp only [Option.toList_some, Option.toList_none, List.cons_append, List.nil_append]
    refine g_aload_n (pc := 338) (i := 2) (j := 2) C dL_law_338 rfl rfl ?_
    refine g_aload_n (pc := 339) (i := 0) (j := 0) C dL_law_339 rfl rfl ?_
    refine g_iload_n (pc := 340) (i := 3) (j := 3) C dL_law_340 rfl rfl ?_
    refine g_iconst (pc := 341) (v := 1) C dL_law_341 (by decide) ?_
    refine g_iadd (pc := 342) C dL_law_342 ?_
    refine g_sld (pc := 343) (j := j + 1) C hX dL_law_343 (nJ1 j) (by omega) ?_
    refine g_callV (pc := 344) C dL_law_344 lmL_34 kcX8_warmth (by decide) (by first | rfl | assumption) (hM2) rfl rfl (Nat.le_of_ble_eq_true rfl) ?_
    intro r8 sh8 I8 J8 hD8; obtain ⟨rfl, rfl, hR2⟩ := hP2 _ _ _ _ hD8
    try simp only [Option.toList_some, Option.toList_none, List.cons_append, List.nil_append]
    refine g_icmp_eq (pc := 347) (tgt := 1569) C dL_law_347 (by decide) (fun h347 => ?_) (fun h347 => absurd rfl h347)
    exact hn9 _ _ hR2
  refine pm_sw (4) (fun h32_4 => ?_) (fun h32_4 => ?_)
  · refine g_tsIn (pc := 32) (tgt := 352) (4) C dL_law_32 (by rw [h32_4]; decide) (by decide) (by decide) rfl (by decide) ?_
    obtain ⟨Post1, ρ, Pc, hM1, hP1, h2⟩ := two_gap hR (v := xs (j + 1))
    refine g_aload_n (pc := 352) (i := 1) (j := 1) C dL_law_352 rfl rfl ?_
    refine g_aload_n (pc := 353) (i := 0) (j := 0) C dL_law_353 rfl rfl ?_
    refine g_iload_n (pc := 354) (i := 3) (j := 3) C dL_law_354 rfl rfl ?_
    refine g_iconst (pc := 355) (v := 1) C dL_law_355 (by decide) ?_
    refine g_iadd (pc := 356) C dL_law_356 ?_
    refine g_sld (pc := 357) (j := j + 1) C hX dL_law_357 (nJ1 j) (by omega) ?_
    refine g_callV (pc := 358) C dL_law_358 lmL_35 kcX7_gap (by decide) (by first | rfl | assumption) (hM1) rfl rfl (Nat.le_of_ble_eq_true rfl) ?_
    intro r9 sh9 I9 J9 hD9; obtain ⟨rfl, rfl, rfl, hPc⟩ := hP1 _ _ _ _ hD9; obtain ⟨Post2, hM2, hP2⟩ := h2 _ hPc
    try simp only [Option.toList_some, Option.toList_none, List.cons_append, List.nil_append]
    refine g_aload_n (pc := 361) (i := 2) (j := 2) C dL_law_361 rfl rfl ?_
    refine g_aload_n (pc := 362) (i := 0) (j := 0) C dL_law_362 rfl rfl ?_
    refine g_iload_n (pc := 363) (i := 3) (j := 3) C dL_law_363 rfl rfl ?_
    refine g_iconst (pc := 364) (v := 1) C dL_law_364 (by decide) ?_
    refine g_iadd (pc := 365) C dL_law_365 ?_
    refine g_sld (pc := 366) (j := j + 1) C hX dL_law_366 (nJ1 j) (by omega) ?_
    refine g_callV (pc := 367) C dL_law_367 lmL_38 kcX8_gap (by decide) (by first | rfl | assumption) (hM2) rfl rfl (Nat.le_of_ble_eq_true rfl) ?_
    intro r8 sh8 I8 J8 hD8; obtain ⟨rfl, rfl, hR2⟩ := hP2 _ _ _ _ hD8
    try simp only [Option.toList_some, Option.toList_none, List.cons_append, List.nil_append]
    refine g_icmp_eq (pc := 370) (tgt := 1569) C dL_law_370 (by decide) (fun h370 => ?_) (fun h370 => absurd rfl h370)
    exact hn9 _ _ hR2
  refine pm_sw (5) (fun h32_5 => ?_) (fun h32_5 => ?_)
  · refine g_tsIn (pc := 32) (tgt := 375) (5) C dL_law_32 (by rw [h32_5]; decide) (by decide) (by decide) rfl (by decide) ?_
    obtain ⟨Post1, ρ, Pc, hM1, hP1, h2⟩ := two_balloon hR (k := xs (j + 1)) (a := xs (j + 2)) (c := xs (j + 3))
    refine g_aload_n (pc := 375) (i := 1) (j := 1) C dL_law_375 rfl rfl ?_
    refine g_aload_n (pc := 376) (i := 0) (j := 0) C dL_law_376 rfl rfl ?_
    refine g_iload_n (pc := 377) (i := 3) (j := 3) C dL_law_377 rfl rfl ?_
    refine g_iconst (pc := 378) (v := 1) C dL_law_378 (by decide) ?_
    refine g_iadd (pc := 379) C dL_law_379 ?_
    refine g_sld (pc := 380) (j := j + 1) C hX dL_law_380 (nJ1 j) (by omega) ?_
    refine g_aload_n (pc := 381) (i := 0) (j := 0) C dL_law_381 rfl rfl ?_
    refine g_iload_n (pc := 382) (i := 3) (j := 3) C dL_law_382 rfl rfl ?_
    refine g_iconst (pc := 383) (v := 2) C dL_law_383 (by decide) ?_
    refine g_iadd (pc := 384) C dL_law_384 ?_
    refine g_sld (pc := 385) (j := j + 2) C hX dL_law_385 (nJ2 j) (by omega) ?_
    refine g_aload_n (pc := 386) (i := 0) (j := 0) C dL_law_386 rfl rfl ?_
    refine g_iload_n (pc := 387) (i := 3) (j := 3) C dL_law_387 rfl rfl ?_
    refine g_iconst (pc := 388) (v := 3) C dL_law_388 (by decide) ?_
    refine g_iadd (pc := 389) C dL_law_389 ?_
    refine g_sld (pc := 390) (j := j + 3) C hX dL_law_390 (nJ3 j) (by omega) ?_
    refine g_callV (pc := 391) C dL_law_391 lmL_39 kcX7_balloon (by decide) (by first | rfl | assumption) (hM1) rfl rfl (Nat.le_of_ble_eq_true rfl) ?_
    intro r9 sh9 I9 J9 hD9; obtain ⟨rfl, rfl, rfl, hPc⟩ := hP1 _ _ _ _ hD9; obtain ⟨Post2, hM2, hP2⟩ := h2 _ hPc
    try simp only [Option.toList_some, Option.toList_none, List.cons_append, List.nil_append]
    refine g_aload_n (pc := 394) (i := 2) (j := 2) C dL_law_394 rfl rfl ?_
    refine g_aload_n (pc := 395) (i := 0) (j := 0) C dL_law_395 rfl rfl ?_
    refine g_iload_n (pc := 396) (i := 3) (j := 3) C dL_law_396 rfl rfl ?_
    refine g_iconst (pc := 397) (v := 1) C dL_law_397 (by decide) ?_
    refine g_iadd (pc := 398) C dL_law_398 ?_
    refine g_sld (pc := 399) (j := j + 1) C hX dL_law_399 (nJ1 j) (by omega) ?_
    refine g_aload_n (pc := 400) (i := 0) (j := 0) C dL_law_400 rfl rfl ?_
    refine g_iload_n (pc := 401) (i := 3) (j := 3) C dL_law_401 rfl rfl ?_
    refine g_iconst (pc := 402) (v := 2) C dL_law_402 (by decide) ?_
    refine g_iadd (pc := 403) C dL_law_403 ?_
    refine g_sld (pc := 404) (j := j + 2) C hX dL_law_404 (nJ2 j) (by omega) ?_
    refine g_aload_n (pc := 405) (i := 0) (j := 0) C dL_law_405 rfl rfl ?_
    refine g_iload_n (pc := 406) (i := 3) (j := 3) C dL_law_406 rfl rfl ?_
    refine g_iconst (pc := 407) (v := 3) C dL_law_407 (by decide) ?_
    refine g_iadd (pc := 408) C dL_law_408 ?_
    refine g_sld (pc := 409) (j := j + 3) C hX dL_law_409 (nJ3 j) (by omega) ?_
    refine g_callV (pc := 410) C dL_law_410 lmL_43 kcX8_balloon (by decide) (by first | rfl | assumption) (hM2) rfl rfl (Nat.le_of_ble_eq_true rfl) ?_
    intro r8 sh8 I8 J8 hD8; obtain ⟨rfl, rfl, hR2⟩ := hP2 _ _ _ _ hD8
    try simp only [Option.toList_some, Option.toList_none, List.cons_append, List.nil_append]
    refine g_icmp_eq (pc := 413) (tgt := 1569) C dL_law_413 (by decide) (fun h413 => ?_) (fun h413 => absurd rfl h413)
    exact hn9 _ _ hR2
  refine pm_sw (6) (fun h32_6 => ?_) (fun h32_6 => ?_)
  · refine g_tsIn (pc := 32) (tgt := 418) (6) C dL_law_32 (by rw [h32_6]; decide) (by decide) (by decide) rfl (by decide) ?_
    obtain ⟨Post1, ρ, Pc, hM1, hP1, h2⟩ := two_balloonOf hR (x := xs (j + 1)) (w := xs (j + 2))
    refine g_aload_n (pc := 418) (i := 1) (j := 1) C dL_law_418 rfl rfl ?_
    refine g_aload_n (pc := 419) (i := 0) (j := 0) C dL_law_419 rfl rfl ?_
    refine g_iload_n (pc := 420) (i := 3) (j := 3) C dL_law_420 rfl rfl ?_
    refine g_iconst (pc := 421) (v := 1) C dL_law_421 (by decide) ?_
    refine g_iadd (pc := 422) C dL_law_422 ?_
    refine g_sld (pc := 423) (j := j + 1) C hX dL_law_423 (nJ1 j) (by omega) ?_
    refine g_aload_n (pc := 424) (i := 0) (j := 0) C dL_law_424 rfl rfl ?_
    refine g_iload_n (pc := 425) (i := 3) (j := 3) C dL_law_425 rfl rfl ?_
    refine g_iconst (pc := 426) (v := 2) C dL_law_426 (by decide) ?_
    refine g_iadd (pc := 427) C dL_law_427 ?_
    refine g_sld (pc := 428) (j := j + 2) C hX dL_law_428 (nJ2 j) (by omega) ?_
    refine g_callV (pc := 429) C dL_law_429 lmL_44 kcX7_balloonOf (by decide) (by first | rfl | assumption) (hM1) rfl rfl (Nat.le_of_ble_eq_true rfl) ?_
    intro r9 sh9 I9 J9 hD9; obtain ⟨rfl, rfl, rfl, hPc⟩ := hP1 _ _ _ _ hD9; obtain ⟨Post2, hM2, hP2⟩ := h2 _ hPc
    try simp only [Option.toList_some, Option.toList_none, List.cons_append, List.nil_append]
    refine g_aload_n (pc := 432) (i := 2) (j := 2) C dL_law_432 rfl rfl ?_
    refine g_aload_n (pc := 433) (i := 0) (j := 0) C dL_law_433 rfl rfl ?_
    refine g_iload_n (pc := 434) (i := 3) (j := 3) C dL_law_434 rfl rfl ?_
    refine g_iconst (pc := 435) (v := 1) C dL_law_435 (by decide) ?_
    refine g_iadd (pc := 436) C dL_law_436 ?_
    refine g_sld (pc := 437) (j := j + 1) C hX dL_law_437 (nJ1 j) (by omega) ?_
    refine g_aload_n (pc := 438) (i := 0) (j := 0) C dL_law_438 rfl rfl ?_
    refine g_iload_n (pc := 439) (i := 3) (j := 3) C dL_law_439 rfl rfl ?_
    refine g_iconst (pc := 440) (v := 2) C dL_law_440 (by decide) ?_
    refine g_iadd (pc := 441) C dL_law_441 ?_
    refine g_sld (pc := 442) (j := j + 2) C hX dL_law_442 (nJ2 j) (by omega) ?_
    refine g_callV (pc := 443) C dL_law_443 lmL_47 kcX8_balloonOf (by decide) (by first | rfl | assumption) (hM2) rfl rfl (Nat.le_of_ble_eq_true rfl) ?_
    intro r8 sh8 I8 J8 hD8; obtain ⟨rfl, rfl, hR2⟩ := hP2 _ _ _ _ hD8
    try simp only [Option.toList_some, Option.toList_none, List.cons_append, List.nil_append]
    refine g_icmp_eq (pc := 446) (tgt := 1569) C dL_law_446 (by decide) (fun h446 => ?_) (fun h446 => absurd rfl h446)
    exact hn9 _ _ hR2
  refine pm_sw (7) (fun h32_7 => ?_) (fun h32_7 => ?_)
  · refine g_tsIn (pc := 32) (tgt := 451) (7) C dL_law_32 (by rw [h32_7]; decide) (by decide) (by decide) rfl (by decide) ?_
    obtain ⟨Post1, ρ, Pc, hM1, hP1, h2⟩ := two_becomes hR (x := xs (j + 1)) (w := xs (j + 2)) (v := xs (j + 3))
    refine g_aload_n (pc := 451) (i := 1) (j := 1) C dL_law_451 rfl rfl ?_
    refine g_aload_n (pc := 452) (i := 0) (j := 0) C dL_law_452 rfl rfl ?_
    refine g_iload_n (pc := 453) (i := 3) (j := 3) C dL_law_453 rfl rfl ?_
    refine g_iconst (pc := 454) (v := 1) C dL_law_454 (by decide) ?_
    refine g_iadd (pc := 455) C dL_law_455 ?_
    refine g_sld (pc := 456) (j := j + 1) C hX dL_law_456 (nJ1 j) (by omega) ?_
    refine g_aload_n (pc := 457) (i := 0) (j := 0) C dL_law_457 rfl rfl ?_
    refine g_iload_n (pc := 458) (i := 3) (j := 3) C dL_law_458 rfl rfl ?_
    refine g_iconst (pc := 459) (v := 2) C dL_law_459 (by decide) ?_
    refine g_iadd (pc := 460) C dL_law_460 ?_
    refine g_sld (pc := 461) (j := j + 2) C hX dL_law_461 (nJ2 j) (by omega) ?_
    refine g_aload_n (pc := 462) (i := 0) (j := 0) C dL_law_462 rfl rfl ?_
    refine g_iload_n (pc := 463) (i := 3) (j := 3) C dL_law_463 rfl rfl ?_
    refine g_iconst (pc := 464) (v := 3) C dL_law_464 (by decide) ?_
    refine g_iadd (pc := 465) C dL_law_465 ?_
    refine g_sld (pc := 466) (j := j + 3) C hX dL_law_466 (nJ3 j) (by omega) ?_
    refine g_callV (pc := 467) C dL_law_467 lmL_48 kcX7_becomes (by decide) (by first | rfl | assumption) (hM1) rfl rfl (Nat.le_of_ble_eq_true rfl) ?_
    intro r9 sh9 I9 J9 hD9; obtain ⟨rfl, rfl, rfl, hPc⟩ := hP1 _ _ _ _ hD9; obtain ⟨Post2, hM2, hP2⟩ := h2 _ hPc
    try simp only [Option.toList_some, Option.toList_none, List.cons_append, List.nil_append]
    refine g_aload_n (pc := 470) (i := 2) (j := 2) C dL_law_470 rfl rfl ?_
    refine g_aload_n (pc := 471) (i := 0) (j := 0) C dL_law_471 rfl rfl ?_
    refine g_iload_n (pc := 472) (i := 3) (j := 3) C dL_law_472 rfl rfl ?_
    refine g_iconst (pc := 473) (v := 1) C dL_law_473 (by decide) ?_
    refine g_iadd (pc := 474) C dL_law_474 ?_
    refine g_sld (pc := 475) (j := j + 1) C hX dL_law_475 (nJ1 j) (by omega) ?_
    refine g_aload_n (pc := 476) (i := 0) (j := 0) C dL_law_476 rfl rfl ?_
    refine g_iload_n (pc := 477) (i := 3) (j := 3) C dL_law_477 rfl rfl ?_
    refine g_iconst (pc := 478) (v := 2) C dL_law_478 (by decide) ?_
    refine g_iadd (pc := 479) C dL_law_479 ?_
    refine g_sld (pc := 480) (j := j + 2) C hX dL_law_480 (nJ2 j) (by omega) ?_
    refine g_aload_n (pc := 481) (i := 0) (j := 0) C dL_law_481 rfl rfl ?_
    refine g_iload_n (pc := 482) (i := 3) (j := 3) C dL_law_482 rfl rfl ?_
    refine g_iconst (pc := 483) (v := 3) C dL_law_483 (by decide) ?_
    refine g_iadd (pc := 484) C dL_law_484 ?_
    refine g_sld (pc := 485) (j := j + 3) C hX dL_law_485 (nJ3 j) (by omega) ?_
    refine g_callV (pc := 486) C dL_law_486 lmL_51 kcX8_becomes (by decide) (by first | rfl | assumption) (hM2) rfl rfl (Nat.le_of_ble_eq_true rfl) ?_
    intro r8 sh8 I8 J8 hD8; obtain ⟨rfl, rfl, hR2⟩ := hP2 _ _ _ _ hD8
    try simp only [Option.toList_some, Option.toList_none, List.cons_append, List.nil_append]
    refine g_icmp_eq (pc := 489) (tgt := 1569) C dL_law_489 (by decide) (fun h489 => ?_) (fun h489 => absurd rfl h489)
    exact hn9 _ _ hR2
  refine pm_sw (8) (fun h32_8 => ?_) (fun h32_8 => ?_)
  · refine g_tsIn (pc := 32) (tgt := 494) (8) C dL_law_32 (by rw [h32_8]; decide) (by decide) (by decide) rfl (by decide) ?_
    obtain ⟨Post1, ρ, Pc, hM1, hP1, h2⟩ := two_mind hR (x := xs (j + 1)) (k := xs (j + 2)) (a := xs (j + 3))
    refine g_aload_n (pc := 494) (i := 1) (j := 1) C dL_law_494 rfl rfl ?_
    refine g_aload_n (pc := 495) (i := 0) (j := 0) C dL_law_495 rfl rfl ?_
    refine g_iload_n (pc := 496) (i := 3) (j := 3) C dL_law_496 rfl rfl ?_
    refine g_iconst (pc := 497) (v := 1) C dL_law_497 (by decide) ?_
    refine g_iadd (pc := 498) C dL_law_498 ?_
    refine g_sld (pc := 499) (j := j + 1) C hX dL_law_499 (nJ1 j) (by omega) ?_
    refine g_aload_n (pc := 500) (i := 0) (j := 0) C dL_law_500 rfl rfl ?_
    refine g_iload_n (pc := 501) (i := 3) (j := 3) C dL_law_501 rfl rfl ?_
    refine g_iconst (pc := 502) (v := 2) C dL_law_502 (by decide) ?_
    refine g_iadd (pc := 503) C dL_law_503 ?_
    refine g_sld (pc := 504) (j := j + 2) C hX dL_law_504 (nJ2 j) (by omega) ?_
    refine g_aload_n (pc := 505) (i := 0) (j := 0) C dL_law_505 rfl rfl ?_
    refine g_iload_n (pc := 506) (i := 3) (j := 3) C dL_law_506 rfl rfl ?_
    refine g_iconst (pc := 507) (v := 3) C dL_law_507 (by decide) ?_
    refine g_iadd (pc := 508) C dL_law_508 ?_
    refine g_sld (pc := 509) (j := j + 3) C hX dL_law_509 (nJ3 j) (by omega) ?_
    refine g_callV (pc := 510) C dL_law_510 lmL_52 kcX7_mind (by decide) (by first | rfl | assumption) (hM1) rfl rfl (Nat.le_of_ble_eq_true rfl) ?_
    intro r9 sh9 I9 J9 hD9; obtain ⟨rfl, rfl, rfl, hPc⟩ := hP1 _ _ _ _ hD9; obtain ⟨Post2, hM2, hP2⟩ := h2 _ hPc
    try simp only [Option.toList_some, Option.toList_none, List.cons_append, List.nil_append]
    refine g_aload_n (pc := 513) (i := 2) (j := 2) C dL_law_513 rfl rfl ?_
    refine g_aload_n (pc := 514) (i := 0) (j := 0) C dL_law_514 rfl rfl ?_
    refine g_iload_n (pc := 515) (i := 3) (j := 3) C dL_law_515 rfl rfl ?_
    refine g_iconst (pc := 516) (v := 1) C dL_law_516 (by decide) ?_
    refine g_iadd (pc := 517) C dL_law_517 ?_
    refine g_sld (pc := 518) (j := j + 1) C hX dL_law_518 (nJ1 j) (by omega) ?_
    refine g_aload_n (pc := 519) (i := 0) (j := 0) C dL_law_519 rfl rfl ?_
    refine g_iload_n (pc := 520) (i := 3) (j := 3) C dL_law_520 rfl rfl ?_
    refine g_iconst (pc := 521) (v := 2) C dL_law_521 (by decide) ?_
    refine g_iadd (pc := 522) C dL_law_522 ?_
    refine g_sld (pc := 523) (j := j + 2) C hX dL_law_523 (nJ2 j) (by omega) ?_
    refine g_aload_n (pc := 524) (i := 0) (j := 0) C dL_law_524 rfl rfl ?_
    refine g_iload_n (pc := 525) (i := 3) (j := 3) C dL_law_525 rfl rfl ?_
    refine g_iconst (pc := 526) (v := 3) C dL_law_526 (by decide) ?_
    refine g_iadd (pc := 527) C dL_law_527 ?_
    refine g_sld (pc := 528) (j := j + 3) C hX dL_law_528 (nJ3 j) (by omega) ?_
    refine g_callV (pc := 529) C dL_law_529 lmL_55 kcX8_mind (by decide) (by first | rfl | assumption) (hM2) rfl rfl (Nat.le_of_ble_eq_true rfl) ?_
    intro r8 sh8 I8 J8 hD8; obtain ⟨rfl, rfl, hR2⟩ := hP2 _ _ _ _ hD8
    try simp only [Option.toList_some, Option.toList_none, List.cons_append, List.nil_append]
    refine g_icmp_eq (pc := 532) (tgt := 1569) C dL_law_532 (by decide) (fun h532 => ?_) (fun h532 => absurd rfl h532)
    exact hn9 _ _ hR2
  refine pm_sw (9) (fun h32_9 => ?_) (fun h32_9 => ?_)
  · refine g_tsIn (pc := 32) (tgt := 537) (9) C dL_law_32 (by rw [h32_9]; decide) (by decide) (by decide) rfl (by decide) ?_
    obtain ⟨Post1, ρ, Pc, hM1, hP1, h2⟩ := two_pour hR (x := xs (j + 1)) (v := xs (j + 2))
    refine g_aload_n (pc := 537) (i := 1) (j := 1) C dL_law_537 rfl rfl ?_
    refine g_aload_n (pc := 538) (i := 0) (j := 0) C dL_law_538 rfl rfl ?_
    refine g_iload_n (pc := 539) (i := 3) (j := 3) C dL_law_539 rfl rfl ?_
    refine g_iconst (pc := 540) (v := 1) C dL_law_540 (by decide) ?_
    refine g_iadd (pc := 541) C dL_law_541 ?_
    refine g_sld (pc := 542) (j := j + 1) C hX dL_law_542 (nJ1 j) (by omega) ?_
    refine g_aload_n (pc := 543) (i := 0) (j := 0) C dL_law_543 rfl rfl ?_
    refine g_iload_n (pc := 544) (i := 3) (j := 3) C dL_law_544 rfl rfl ?_
    refine g_iconst (pc := 545) (v := 2) C dL_law_545 (by decide) ?_
    refine g_iadd (pc := 546) C dL_law_546 ?_
    refine g_sld (pc := 547) (j := j + 2) C hX dL_law_547 (nJ2 j) (by omega) ?_
    refine g_callV (pc := 548) C dL_law_548 lmL_56 kcX7_pour (by decide) (by first | rfl | assumption) (hM1) rfl rfl (Nat.le_of_ble_eq_true rfl) ?_
    intro r9 sh9 I9 J9 hD9; obtain ⟨rfl, rfl, rfl, hPc⟩ := hP1 _ _ _ _ hD9; obtain ⟨Post2, hM2, hP2⟩ := h2 _ hPc
    try simp only [Option.toList_some, Option.toList_none, List.cons_append, List.nil_append]
    refine g_aload_n (pc := 551) (i := 2) (j := 2) C dL_law_551 rfl rfl ?_
    refine g_aload_n (pc := 552) (i := 0) (j := 0) C dL_law_552 rfl rfl ?_
    refine g_iload_n (pc := 553) (i := 3) (j := 3) C dL_law_553 rfl rfl ?_
    refine g_iconst (pc := 554) (v := 1) C dL_law_554 (by decide) ?_
    refine g_iadd (pc := 555) C dL_law_555 ?_
    refine g_sld (pc := 556) (j := j + 1) C hX dL_law_556 (nJ1 j) (by omega) ?_
    refine g_aload_n (pc := 557) (i := 0) (j := 0) C dL_law_557 rfl rfl ?_
    refine g_iload_n (pc := 558) (i := 3) (j := 3) C dL_law_558 rfl rfl ?_
    refine g_iconst (pc := 559) (v := 2) C dL_law_559 (by decide) ?_
    refine g_iadd (pc := 560) C dL_law_560 ?_
    refine g_sld (pc := 561) (j := j + 2) C hX dL_law_561 (nJ2 j) (by omega) ?_
    refine g_callV (pc := 562) C dL_law_562 lmL_59 kcX8_pour (by decide) (by first | rfl | assumption) (hM2) rfl rfl (Nat.le_of_ble_eq_true rfl) ?_
    intro r8 sh8 I8 J8 hD8; obtain ⟨rfl, rfl, hR2⟩ := hP2 _ _ _ _ hD8
    try simp only [Option.toList_some, Option.toList_none, List.cons_append, List.nil_append]
    refine g_icmp_eq (pc := 565) (tgt := 1569) C dL_law_565 (by decide) (fun h565 => ?_) (fun h565 => absurd rfl h565)
    exact hn9 _ _ hR2
  refine pm_sw (10) (fun h32_10 => ?_) (fun h32_10 => ?_)
  · refine g_tsIn (pc := 32) (tgt := 570) (10) C dL_law_32 (by rw [h32_10]; decide) (by decide) (by decide) rfl (by decide) ?_
    obtain ⟨Post1, ρ, Pc, hM1, hP1, h2⟩ := two_give hR (x := xs (j + 1)) (y := xs (j + 2)) (w := xs (j + 3)) (v := xs (j + 4))
    refine g_aload_n (pc := 570) (i := 1) (j := 1) C dL_law_570 rfl rfl ?_
    refine g_aload_n (pc := 571) (i := 0) (j := 0) C dL_law_571 rfl rfl ?_
    refine g_iload_n (pc := 572) (i := 3) (j := 3) C dL_law_572 rfl rfl ?_
    refine g_iconst (pc := 573) (v := 1) C dL_law_573 (by decide) ?_
    refine g_iadd (pc := 574) C dL_law_574 ?_
    refine g_sld (pc := 575) (j := j + 1) C hX dL_law_575 (nJ1 j) (by omega) ?_
    refine g_aload_n (pc := 576) (i := 0) (j := 0) C dL_law_576 rfl rfl ?_
    refine g_iload_n (pc := 577) (i := 3) (j := 3) C dL_law_577 rfl rfl ?_
    refine g_iconst (pc := 578) (v := 2) C dL_law_578 (by decide) ?_
    refine g_iadd (pc := 579) C dL_law_579 ?_
    refine g_sld (pc := 580) (j := j + 2) C hX dL_law_580 (nJ2 j) (by omega) ?_
    refine g_aload_n (pc := 581) (i := 0) (j := 0) C dL_law_581 rfl rfl ?_
    refine g_iload_n (pc := 582) (i := 3) (j := 3) C dL_law_582 rfl rfl ?_
    refine g_iconst (pc := 583) (v := 3) C dL_law_583 (by decide) ?_
    refine g_iadd (pc := 584) C dL_law_584 ?_
    refine g_sld (pc := 585) (j := j + 3) C hX dL_law_585 (nJ3 j) (by omega) ?_
    refine g_aload_n (pc := 586) (i := 0) (j := 0) C dL_law_586 rfl rfl ?_
    refine g_iload_n (pc := 587) (i := 3) (j := 3) C dL_law_587 rfl rfl ?_
    refine g_iconst (pc := 588) (v := 4) C dL_law_588 (by decide) ?_
    refine g_iadd (pc := 589) C dL_law_589 ?_
    refine g_sld (pc := 590) (j := j + 4) C hX dL_law_590 (nJ4 j) (by omega) ?_
    refine g_callV (pc := 591) C dL_law_591 lmL_60 kcX7_give (by decide) (by first | rfl | assumption) (hM1) rfl rfl (Nat.le_of_ble_eq_true rfl) ?_
    intro r9 sh9 I9 J9 hD9; obtain ⟨rfl, rfl, rfl, hPc⟩ := hP1 _ _ _ _ hD9; obtain ⟨Post2, hM2, hP2⟩ := h2 _ hPc
    try simp only [Option.toList_some, Option.toList_none, List.cons_append, List.nil_append]
    refine g_aload_n (pc := 594) (i := 2) (j := 2) C dL_law_594 rfl rfl ?_
    refine g_aload_n (pc := 595) (i := 0) (j := 0) C dL_law_595 rfl rfl ?_
    refine g_iload_n (pc := 596) (i := 3) (j := 3) C dL_law_596 rfl rfl ?_
    refine g_iconst (pc := 597) (v := 1) C dL_law_597 (by decide) ?_
    refine g_iadd (pc := 598) C dL_law_598 ?_
    refine g_sld (pc := 599) (j := j + 1) C hX dL_law_599 (nJ1 j) (by omega) ?_
    refine g_aload_n (pc := 600) (i := 0) (j := 0) C dL_law_600 rfl rfl ?_
    refine g_iload_n (pc := 601) (i := 3) (j := 3) C dL_law_601 rfl rfl ?_
    refine g_iconst (pc := 602) (v := 2) C dL_law_602 (by decide) ?_
    refine g_iadd (pc := 603) C dL_law_603 ?_
    refine g_sld (pc := 604) (j := j + 2) C hX dL_law_604 (nJ2 j) (by omega) ?_
    refine g_aload_n (pc := 605) (i := 0) (j := 0) C dL_law_605 rfl rfl ?_
    refine g_iload_n (pc := 606) (i := 3) (j := 3) C dL_law_606 rfl rfl ?_
    refine g_iconst (pc := 607) (v := 3) C dL_law_607 (by decide) ?_
    refine g_iadd (pc := 608) C dL_law_608 ?_
    refine g_sld (pc := 609) (j := j + 3) C hX dL_law_609 (nJ3 j) (by omega) ?_
    refine g_aload_n (pc := 610) (i := 0) (j := 0) C dL_law_610 rfl rfl ?_
    refine g_iload_n (pc := 611) (i := 3) (j := 3) C dL_law_611 rfl rfl ?_
    refine g_iconst (pc := 612) (v := 4) C dL_law_612 (by decide) ?_
    refine g_iadd (pc := 613) C dL_law_613 ?_
    refine g_sld (pc := 614) (j := j + 4) C hX dL_law_614 (nJ4 j) (by omega) ?_
    refine g_callV (pc := 615) C dL_law_615 lmL_64 kcX8_give (by decide) (by first | rfl | assumption) (hM2) rfl rfl (Nat.le_of_ble_eq_true rfl) ?_
    intro r8 sh8 I8 J8 hD8; obtain ⟨rfl, rfl, hR2⟩ := hP2 _ _ _ _ hD8
    try simp only [Option.toList_some, Option.toList_none, List.cons_append, List.nil_append]
    refine g_icmp_eq (pc := 618) (tgt := 1569) C dL_law_618 (by decide) (fun h618 => ?_) (fun h618 => absurd rfl h618)
    exact hn9 _ _ hR2
  refine pm_sw (11) (fun h32_11 => ?_) (fun h32_11 => ?_)
  · refine g_tsIn (pc := 32) (tgt := 623) (11) C dL_law_32 (by rw [h32_11]; decide) (by decide) (by decide) rfl (by decide) ?_
    obtain ⟨Post1, ρ, Pc, hM1, hP1, h2⟩ := two_touches hR (x := xs (j + 1))
    refine g_aload_n (pc := 623) (i := 1) (j := 1) C dL_law_623 rfl rfl ?_
    refine g_aload_n (pc := 624) (i := 0) (j := 0) C dL_law_624 rfl rfl ?_
    refine g_iload_n (pc := 625) (i := 3) (j := 3) C dL_law_625 rfl rfl ?_
    refine g_iconst (pc := 626) (v := 1) C dL_law_626 (by decide) ?_
    refine g_iadd (pc := 627) C dL_law_627 ?_
    refine g_sld (pc := 628) (j := j + 1) C hX dL_law_628 (nJ1 j) (by omega) ?_
    refine g_callV (pc := 629) C dL_law_629 lmL_65 kcX7_touches (by decide) (by first | rfl | assumption) (hM1) rfl rfl (Nat.le_of_ble_eq_true rfl) ?_
    intro r9 sh9 I9 J9 hD9; obtain ⟨rfl, rfl, rfl, hPc⟩ := hP1 _ _ _ _ hD9; obtain ⟨Post2, hM2, hP2⟩ := h2 _ hPc
    try simp only [Option.toList_some, Option.toList_none, List.cons_append, List.nil_append]
    refine g_aload_n (pc := 632) (i := 2) (j := 2) C dL_law_632 rfl rfl ?_
    refine g_aload_n (pc := 633) (i := 0) (j := 0) C dL_law_633 rfl rfl ?_
    refine g_iload_n (pc := 634) (i := 3) (j := 3) C dL_law_634 rfl rfl ?_
    refine g_iconst (pc := 635) (v := 1) C dL_law_635 (by decide) ?_
    refine g_iadd (pc := 636) C dL_law_636 ?_
    refine g_sld (pc := 637) (j := j + 1) C hX dL_law_637 (nJ1 j) (by omega) ?_
    refine g_callV (pc := 638) C dL_law_638 lmL_68 kcX8_touches (by decide) (by first | rfl | assumption) (hM2) rfl rfl (Nat.le_of_ble_eq_true rfl) ?_
    intro r8 sh8 I8 J8 hD8; obtain ⟨rfl, rfl, hR2⟩ := hP2 _ _ _ _ hD8
    try simp only [Option.toList_some, Option.toList_none, List.cons_append, List.nil_append]
    refine g_icmp_eq (pc := 641) (tgt := 1569) C dL_law_641 (by decide) (fun h641 => ?_) (fun h641 => absurd rfl h641)
    exact hn9 _ _ hR2
  refine pm_sw (12) (fun h32_12 => ?_) (fun h32_12 => ?_)
  · refine g_tsIn (pc := 32) (tgt := 646) (12) C dL_law_32 (by rw [h32_12]; decide) (by decide) (by decide) rfl (by decide) ?_
    obtain ⟨Post1, ρ, Pc, hM1, hP1, h2⟩ := two_above hR (x := xs (j + 1)) (w := xs (j + 2))
    refine g_aload_n (pc := 646) (i := 1) (j := 1) C dL_law_646 rfl rfl ?_
    refine g_aload_n (pc := 647) (i := 0) (j := 0) C dL_law_647 rfl rfl ?_
    refine g_iload_n (pc := 648) (i := 3) (j := 3) C dL_law_648 rfl rfl ?_
    refine g_iconst (pc := 649) (v := 1) C dL_law_649 (by decide) ?_
    refine g_iadd (pc := 650) C dL_law_650 ?_
    refine g_sld (pc := 651) (j := j + 1) C hX dL_law_651 (nJ1 j) (by omega) ?_
    refine g_aload_n (pc := 652) (i := 0) (j := 0) C dL_law_652 rfl rfl ?_
    refine g_iload_n (pc := 653) (i := 3) (j := 3) C dL_law_653 rfl rfl ?_
    refine g_iconst (pc := 654) (v := 2) C dL_law_654 (by decide) ?_
    refine g_iadd (pc := 655) C dL_law_655 ?_
    refine g_sld (pc := 656) (j := j + 2) C hX dL_law_656 (nJ2 j) (by omega) ?_
    refine g_callV (pc := 657) C dL_law_657 lmL_69 kcX7_above (by decide) (by first | rfl | assumption) (hM1) rfl rfl (Nat.le_of_ble_eq_true rfl) ?_
    intro r9 sh9 I9 J9 hD9; obtain ⟨rfl, rfl, rfl, hPc⟩ := hP1 _ _ _ _ hD9; obtain ⟨Post2, hM2, hP2⟩ := h2 _ hPc
    try simp only [Option.toList_some, Option.toList_none, List.cons_append, List.nil_append]
    refine g_aload_n (pc := 660) (i := 2) (j := 2) C dL_law_660 rfl rfl ?_
    refine g_aload_n (pc := 661) (i := 0) (j := 0) C dL_law_661 rfl rfl ?_
    refine g_iload_n (pc := 662) (i := 3) (j := 3) C dL_law_662 rfl rfl ?_
    refine g_iconst (pc := 663) (v := 1) C dL_law_663 (by decide) ?_
    refine g_iadd (pc := 664) C dL_law_664 ?_
    refine g_sld (pc := 665) (j := j + 1) C hX dL_law_665 (nJ1 j) (by omega) ?_
    refine g_aload_n (pc := 666) (i := 0) (j := 0) C dL_law_666 rfl rfl ?_
    refine g_iload_n (pc := 667) (i := 3) (j := 3) C dL_law_667 rfl rfl ?_
    refine g_iconst (pc := 668) (v := 2) C dL_law_668 (by decide) ?_
    refine g_iadd (pc := 669) C dL_law_669 ?_
    refine g_sld (pc := 670) (j := j + 2) C hX dL_law_670 (nJ2 j) (by omega) ?_
    refine g_callV (pc := 671) C dL_law_671 lmL_72 kcX8_above (by decide) (by first | rfl | assumption) (hM2) rfl rfl (Nat.le_of_ble_eq_true rfl) ?_
    intro r8 sh8 I8 J8 hD8; obtain ⟨rfl, rfl, hR2⟩ := hP2 _ _ _ _ hD8
    try simp only [Option.toList_some, Option.toList_none, List.cons_append, List.nil_append]
    refine g_icmp_eq (pc := 674) (tgt := 1569) C dL_law_674 (by decide) (fun h674 => ?_) (fun h674 => absurd rfl h674)
    exact hn9 _ _ hR2
  refine pm_sw (13) (fun h32_13 => ?_) (fun h32_13 => ?_)
  · refine g_tsIn (pc := 32) (tgt := 679) (13) C dL_law_32 (by rw [h32_13]; decide) (by decide) (by decide) rfl (by decide) ?_
    obtain ⟨Post1, ρ, Pc, hM1, hP1, h2⟩ := two_hours hR (x := xs (j + 1))
    refine g_aload_n (pc := 679) (i := 1) (j := 1) C dL_law_679 rfl rfl ?_
    refine g_aload_n (pc := 680) (i := 0) (j := 0) C dL_law_680 rfl rfl ?_
    refine g_iload_n (pc := 681) (i := 3) (j := 3) C dL_law_681 rfl rfl ?_
    refine g_iconst (pc := 682) (v := 1) C dL_law_682 (by decide) ?_
    refine g_iadd (pc := 683) C dL_law_683 ?_
    refine g_sld (pc := 684) (j := j + 1) C hX dL_law_684 (nJ1 j) (by omega) ?_
    refine g_callV (pc := 685) C dL_law_685 lmL_73 kcX7_hours (by decide) (by first | rfl | assumption) (hM1) rfl rfl (Nat.le_of_ble_eq_true rfl) ?_
    intro r9 sh9 I9 J9 hD9; obtain ⟨rfl, rfl, rfl, hPc⟩ := hP1 _ _ _ _ hD9; obtain ⟨Post2, hM2, hP2⟩ := h2 _ hPc
    try simp only [Option.toList_some, Option.toList_none, List.cons_append, List.nil_append]
    refine g_aload_n (pc := 688) (i := 2) (j := 2) C dL_law_688 rfl rfl ?_
    refine g_aload_n (pc := 689) (i := 0) (j := 0) C dL_law_689 rfl rfl ?_
    refine g_iload_n (pc := 690) (i := 3) (j := 3) C dL_law_690 rfl rfl ?_
    refine g_iconst (pc := 691) (v := 1) C dL_law_691 (by decide) ?_
    refine g_iadd (pc := 692) C dL_law_692 ?_
    refine g_sld (pc := 693) (j := j + 1) C hX dL_law_693 (nJ1 j) (by omega) ?_
    refine g_callV (pc := 694) C dL_law_694 lmL_76 kcX8_hours (by decide) (by first | rfl | assumption) (hM2) rfl rfl (Nat.le_of_ble_eq_true rfl) ?_
    intro r8 sh8 I8 J8 hD8; obtain ⟨rfl, rfl, hR2⟩ := hP2 _ _ _ _ hD8
    try simp only [Option.toList_some, Option.toList_none, List.cons_append, List.nil_append]
    refine g_icmp_eq (pc := 697) (tgt := 1569) C dL_law_697 (by decide) (fun h697 => ?_) (fun h697 => absurd rfl h697)
    exact hn9 _ _ hR2
  refine pm_sw (14) (fun h32_14 => ?_) (fun h32_14 => ?_)
  · refine g_tsIn (pc := 32) (tgt := 702) (14) C dL_law_32 (by rw [h32_14]; decide) (by decide) (by decide) rfl (by decide) ?_
    obtain ⟨Post1, ρ, Pc, hM1, hP1, h2⟩ := two_clock hR (v := xs (j + 1))
    refine g_aload_n (pc := 702) (i := 1) (j := 1) C dL_law_702 rfl rfl ?_
    refine g_aload_n (pc := 703) (i := 0) (j := 0) C dL_law_703 rfl rfl ?_
    refine g_iload_n (pc := 704) (i := 3) (j := 3) C dL_law_704 rfl rfl ?_
    refine g_iconst (pc := 705) (v := 1) C dL_law_705 (by decide) ?_
    refine g_iadd (pc := 706) C dL_law_706 ?_
    refine g_sld (pc := 707) (j := j + 1) C hX dL_law_707 (nJ1 j) (by omega) ?_
    refine g_callV (pc := 708) C dL_law_708 lmL_77 kcX7_clock (by decide) (by first | rfl | assumption) (hM1) rfl rfl (Nat.le_of_ble_eq_true rfl) ?_
    intro r9 sh9 I9 J9 hD9; obtain ⟨rfl, rfl, rfl, hPc⟩ := hP1 _ _ _ _ hD9; obtain ⟨Post2, hM2, hP2⟩ := h2 _ hPc
    try simp only [Option.toList_some, Option.toList_none, List.cons_append, List.nil_append]
    refine g_aload_n (pc := 711) (i := 2) (j := 2) C dL_law_711 rfl rfl ?_
    refine g_aload_n (pc := 712) (i := 0) (j := 0) C dL_law_712 rfl rfl ?_
    refine g_iload_n (pc := 713) (i := 3) (j := 3) C dL_law_713 rfl rfl ?_
    refine g_iconst (pc := 714) (v := 1) C dL_law_714 (by decide) ?_
    refine g_iadd (pc := 715) C dL_law_715 ?_
    refine g_sld (pc := 716) (j := j + 1) C hX dL_law_716 (nJ1 j) (by omega) ?_
    refine g_callV (pc := 717) C dL_law_717 lmL_80 kcX8_clock (by decide) (by first | rfl | assumption) (hM2) rfl rfl (Nat.le_of_ble_eq_true rfl) ?_
    intro r8 sh8 I8 J8 hD8; obtain ⟨rfl, rfl, hR2⟩ := hP2 _ _ _ _ hD8
    try simp only [Option.toList_some, Option.toList_none, List.cons_append, List.nil_append]
    refine g_icmp_eq (pc := 720) (tgt := 1569) C dL_law_720 (by decide) (fun h720 => ?_) (fun h720 => absurd rfl h720)
    exact hn9 _ _ hR2
  refine pm_sw (15) (fun h32_15 => ?_) (fun h32_15 => ?_)
  · refine g_tsIn (pc := 32) (tgt := 725) (15) C dL_law_32 (by rw [h32_15]; decide) (by decide) (by decide) rfl (by decide) ?_
    obtain ⟨Post1, ρ, Pc, hM1, hP1, h2⟩ := two_height hR (x := xs (j + 1)) (y := xs (j + 2))
    refine g_aload_n (pc := 725) (i := 1) (j := 1) C dL_law_725 rfl rfl ?_
    refine g_aload_n (pc := 726) (i := 0) (j := 0) C dL_law_726 rfl rfl ?_
    refine g_iload_n (pc := 727) (i := 3) (j := 3) C dL_law_727 rfl rfl ?_
    refine g_iconst (pc := 728) (v := 1) C dL_law_728 (by decide) ?_
    refine g_iadd (pc := 729) C dL_law_729 ?_
    refine g_sld (pc := 730) (j := j + 1) C hX dL_law_730 (nJ1 j) (by omega) ?_
    refine g_aload_n (pc := 731) (i := 0) (j := 0) C dL_law_731 rfl rfl ?_
    refine g_iload_n (pc := 732) (i := 3) (j := 3) C dL_law_732 rfl rfl ?_
    refine g_iconst (pc := 733) (v := 2) C dL_law_733 (by decide) ?_
    refine g_iadd (pc := 734) C dL_law_734 ?_
    refine g_sld (pc := 735) (j := j + 2) C hX dL_law_735 (nJ2 j) (by omega) ?_
    refine g_callV (pc := 736) C dL_law_736 lmL_81 kcX7_height (by decide) (by first | rfl | assumption) (hM1) rfl rfl (Nat.le_of_ble_eq_true rfl) ?_
    intro r9 sh9 I9 J9 hD9; obtain ⟨rfl, rfl, rfl, hPc⟩ := hP1 _ _ _ _ hD9; obtain ⟨Post2, hM2, hP2⟩ := h2 _ hPc
    try simp only [Option.toList_some, Option.toList_none, List.cons_append, List.nil_append]
    refine g_aload_n (pc := 739) (i := 2) (j := 2) C dL_law_739 rfl rfl ?_
    refine g_aload_n (pc := 740) (i := 0) (j := 0) C dL_law_740 rfl rfl ?_
    refine g_iload_n (pc := 741) (i := 3) (j := 3) C dL_law_741 rfl rfl ?_
    refine g_iconst (pc := 742) (v := 1) C dL_law_742 (by decide) ?_
    refine g_iadd (pc := 743) C dL_law_743 ?_
    refine g_sld (pc := 744) (j := j + 1) C hX dL_law_744 (nJ1 j) (by omega) ?_
    refine g_aload_n (pc := 745) (i := 0) (j := 0) C dL_law_745 rfl rfl ?_
    refine g_iload_n (pc := 746) (i := 3) (j := 3) C dL_law_746 rfl rfl ?_
    refine g_iconst (pc := 747) (v := 2) C dL_law_747 (by decide) ?_
    refine g_iadd (pc := 748) C dL_law_748 ?_
    refine g_sld (pc := 749) (j := j + 2) C hX dL_law_749 (nJ2 j) (by omega) ?_
    refine g_callV (pc := 750) C dL_law_750 lmL_84 kcX8_height (by decide) (by first | rfl | assumption) (hM2) rfl rfl (Nat.le_of_ble_eq_true rfl) ?_
    intro r8 sh8 I8 J8 hD8; obtain ⟨rfl, rfl, hR2⟩ := hP2 _ _ _ _ hD8
    try simp only [Option.toList_some, Option.toList_none, List.cons_append, List.nil_append]
    refine g_icmp_eq (pc := 753) (tgt := 1569) C dL_law_753 (by decide) (fun h753 => ?_) (fun h753 => absurd rfl h753)
    exact hn9 _ _ hR2
  refine pm_sw (16) (fun h32_16 => ?_) (fun h32_16 => ?_)
  · refine g_tsIn (pc := 32) (tgt := 758) (16) C dL_law_32 (by rw [h32_16]; decide) (by decide) (by decide) rfl (by decide) ?_
    obtain ⟨Post1, ρ, Pc, hM1, hP1, h2⟩ := two_first hR (x := xs (j + 1))
    refine g_aload_n (pc := 758) (i := 1) (j := 1) C dL_law_758 rfl rfl ?_
    refine g_aload_n (pc := 759) (i := 0) (j := 0) C dL_law_759 rfl rfl ?_
    refine g_iload_n (pc := 760) (i := 3) (j := 3) C dL_law_760 rfl rfl ?_
    refine g_iconst (pc := 761) (v := 1) C dL_law_761 (by decide) ?_
    refine g_iadd (pc := 762) C dL_law_762 ?_
    refine g_sld (pc := 763) (j := j + 1) C hX dL_law_763 (nJ1 j) (by omega) ?_
    refine g_callV (pc := 764) C dL_law_764 lmL_85 kcX7_first (by decide) (by first | rfl | assumption) (hM1) rfl rfl (Nat.le_of_ble_eq_true rfl) ?_
    intro r9 sh9 I9 J9 hD9; obtain ⟨rfl, rfl, rfl, hPc⟩ := hP1 _ _ _ _ hD9; obtain ⟨Post2, hM2, hP2⟩ := h2 _ hPc
    try simp only [Option.toList_some, Option.toList_none, List.cons_append, List.nil_append]
    refine g_aload_n (pc := 767) (i := 2) (j := 2) C dL_law_767 rfl rfl ?_
    refine g_aload_n (pc := 768) (i := 0) (j := 0) C dL_law_768 rfl rfl ?_
    refine g_iload_n (pc := 769) (i := 3) (j := 3) C dL_law_769 rfl rfl ?_
    refine g_iconst (pc := 770) (v := 1) C dL_law_770 (by decide) ?_
    refine g_iadd (pc := 771) C dL_law_771 ?_
    refine g_sld (pc := 772) (j := j + 1) C hX dL_law_772 (nJ1 j) (by omega) ?_
    refine g_callV (pc := 773) C dL_law_773 lmL_88 kcX8_first (by decide) (by first | rfl | assumption) (hM2) rfl rfl (Nat.le_of_ble_eq_true rfl) ?_
    intro r8 sh8 I8 J8 hD8; obtain ⟨rfl, rfl, hR2⟩ := hP2 _ _ _ _ hD8
    try simp only [Option.toList_some, Option.toList_none, List.cons_append, List.nil_append]
    refine g_icmp_eq (pc := 776) (tgt := 1569) C dL_law_776 (by decide) (fun h776 => ?_) (fun h776 => absurd rfl h776)
    exact hn9 _ _ hR2
  refine pm_sw (17) (fun h32_17 => ?_) (fun h32_17 => ?_)
  · refine g_tsIn (pc := 32) (tgt := 781) (17) C dL_law_32 (by rw [h32_17]; decide) (by decide) (by decide) rfl (by decide) ?_
    obtain ⟨Post1, ρ, Pc, hM1, hP1, h2⟩ := two_clear hR (x := xs (j + 1)) (y := xs (j + 2))
    refine g_aload_n (pc := 781) (i := 1) (j := 1) C dL_law_781 rfl rfl ?_
    refine g_aload_n (pc := 782) (i := 0) (j := 0) C dL_law_782 rfl rfl ?_
    refine g_iload_n (pc := 783) (i := 3) (j := 3) C dL_law_783 rfl rfl ?_
    refine g_iconst (pc := 784) (v := 1) C dL_law_784 (by decide) ?_
    refine g_iadd (pc := 785) C dL_law_785 ?_
    refine g_sld (pc := 786) (j := j + 1) C hX dL_law_786 (nJ1 j) (by omega) ?_
    refine g_aload_n (pc := 787) (i := 0) (j := 0) C dL_law_787 rfl rfl ?_
    refine g_iload_n (pc := 788) (i := 3) (j := 3) C dL_law_788 rfl rfl ?_
    refine g_iconst (pc := 789) (v := 2) C dL_law_789 (by decide) ?_
    refine g_iadd (pc := 790) C dL_law_790 ?_
    refine g_sld (pc := 791) (j := j + 2) C hX dL_law_791 (nJ2 j) (by omega) ?_
    refine g_callV (pc := 792) C dL_law_792 lmL_89 kcX7_clear (by decide) (by first | rfl | assumption) (hM1) rfl rfl (Nat.le_of_ble_eq_true rfl) ?_
    intro r9 sh9 I9 J9 hD9; obtain ⟨rfl, rfl, rfl, hPc⟩ := hP1 _ _ _ _ hD9; obtain ⟨Post2, hM2, hP2⟩ := h2 _ hPc
    try simp only [Option.toList_some, Option.toList_none, List.cons_append, List.nil_append]
    refine g_aload_n (pc := 795) (i := 2) (j := 2) C dL_law_795 rfl rfl ?_
    refine g_aload_n (pc := 796) (i := 0) (j := 0) C dL_law_796 rfl rfl ?_
    refine g_iload_n (pc := 797) (i := 3) (j := 3) C dL_law_797 rfl rfl ?_
    refine g_iconst (pc := 798) (v := 1) C dL_law_798 (by decide) ?_
    refine g_iadd (pc := 799) C dL_law_799 ?_
    refine g_sld (pc := 800) (j := j + 1) C hX dL_law_800 (nJ1 j) (by omega) ?_
    refine g_aload_n (pc := 801) (i := 0) (j := 0) C dL_law_801 rfl rfl ?_
    refine g_iload_n (pc := 802) (i := 3) (j := 3) C dL_law_802 rfl rfl ?_
    refine g_iconst (pc := 803) (v := 2) C dL_law_803 (by decide) ?_
    refine g_iadd (pc := 804) C dL_law_804 ?_
    refine g_sld (pc := 805) (j := j + 2) C hX dL_law_805 (nJ2 j) (by omega) ?_
    refine g_callV (pc := 806) C dL_law_806 lmL_92 kcX8_clear (by decide) (by first | rfl | assumption) (hM2) rfl rfl (Nat.le_of_ble_eq_true rfl) ?_
    intro r8 sh8 I8 J8 hD8; obtain ⟨rfl, rfl, hR2⟩ := hP2 _ _ _ _ hD8
    try simp only [Option.toList_some, Option.toList_none, List.cons_append, List.nil_append]
    refine g_icmp_eq (pc := 809) (tgt := 1569) C dL_law_809 (by decide) (fun h809 => ?_) (fun h809 => absurd rfl h809)
    exact hn9 _ _ hR2
  refine pm_sw (18) (fun h32_18 => ?_) (fun h32_18 => ?_)
  · refine g_tsIn (pc := 32) (tgt := 814) (18) C dL_law_32 (by rw [h32_18]; decide) (by decide) (by decide) rfl (by decide) ?_
    obtain ⟨Post1, ρ, Pc, hM1, hP1, h2⟩ := two_leastSand hR (x := xs (j + 1)) (y := xs (j + 2))
    refine g_aload_n (pc := 814) (i := 1) (j := 1) C dL_law_814 rfl rfl ?_
    refine g_aload_n (pc := 815) (i := 0) (j := 0) C dL_law_815 rfl rfl ?_
    refine g_iload_n (pc := 816) (i := 3) (j := 3) C dL_law_816 rfl rfl ?_
    refine g_iconst (pc := 817) (v := 1) C dL_law_817 (by decide) ?_
    refine g_iadd (pc := 818) C dL_law_818 ?_
    refine g_sld (pc := 819) (j := j + 1) C hX dL_law_819 (nJ1 j) (by omega) ?_
    refine g_aload_n (pc := 820) (i := 0) (j := 0) C dL_law_820 rfl rfl ?_
    refine g_iload_n (pc := 821) (i := 3) (j := 3) C dL_law_821 rfl rfl ?_
    refine g_iconst (pc := 822) (v := 2) C dL_law_822 (by decide) ?_
    refine g_iadd (pc := 823) C dL_law_823 ?_
    refine g_sld (pc := 824) (j := j + 2) C hX dL_law_824 (nJ2 j) (by omega) ?_
    refine g_callV (pc := 825) C dL_law_825 lmL_93 kcX7_leastSand (by decide) (by first | rfl | assumption) (hM1) rfl rfl (Nat.le_of_ble_eq_true rfl) ?_
    intro r9 sh9 I9 J9 hD9; obtain ⟨rfl, rfl, rfl, hPc⟩ := hP1 _ _ _ _ hD9; obtain ⟨Post2, hM2, hP2⟩ := h2 _ hPc
    try simp only [Option.toList_some, Option.toList_none, List.cons_append, List.nil_append]
    refine g_aload_n (pc := 828) (i := 2) (j := 2) C dL_law_828 rfl rfl ?_
    refine g_aload_n (pc := 829) (i := 0) (j := 0) C dL_law_829 rfl rfl ?_
    refine g_iload_n (pc := 830) (i := 3) (j := 3) C dL_law_830 rfl rfl ?_
    refine g_iconst (pc := 831) (v := 1) C dL_law_831 (by decide) ?_
    refine g_iadd (pc := 832) C dL_law_832 ?_
    refine g_sld (pc := 833) (j := j + 1) C hX dL_law_833 (nJ1 j) (by omega) ?_
    refine g_aload_n (pc := 834) (i := 0) (j := 0) C dL_law_834 rfl rfl ?_
    refine g_iload_n (pc := 835) (i := 3) (j := 3) C dL_law_835 rfl rfl ?_
    refine g_iconst (pc := 836) (v := 2) C dL_law_836 (by decide) ?_
    refine g_iadd (pc := 837) C dL_law_837 ?_
    refine g_sld (pc := 838) (j := j + 2) C hX dL_law_838 (nJ2 j) (by omega) ?_
    refine g_callV (pc := 839) C dL_law_839 lmL_96 kcX8_leastSand (by decide) (by first | rfl | assumption) (hM2) rfl rfl (Nat.le_of_ble_eq_true rfl) ?_
    intro r8 sh8 I8 J8 hD8; obtain ⟨rfl, rfl, hR2⟩ := hP2 _ _ _ _ hD8
    try simp only [Option.toList_some, Option.toList_none, List.cons_append, List.nil_append]
    refine g_icmp_eq (pc := 842) (tgt := 1569) C dL_law_842 (by decide) (fun h842 => ?_) (fun h842 => absurd rfl h842)
    exact hn9 _ _ hR2
  refine pm_sw (19) (fun h32_19 => ?_) (fun h32_19 => ?_)
  · refine g_tsIn (pc := 32) (tgt := 847) (19) C dL_law_32 (by rw [h32_19]; decide) (by decide) (by decide) rfl (by decide) ?_
    obtain ⟨Post1, ρ, Pc, hM1, hP1, h2⟩ := two_ropeFor hR (x := xs (j + 1)) (y := xs (j + 2))
    refine g_aload_n (pc := 847) (i := 1) (j := 1) C dL_law_847 rfl rfl ?_
    refine g_aload_n (pc := 848) (i := 0) (j := 0) C dL_law_848 rfl rfl ?_
    refine g_iload_n (pc := 849) (i := 3) (j := 3) C dL_law_849 rfl rfl ?_
    refine g_iconst (pc := 850) (v := 1) C dL_law_850 (by decide) ?_
    refine g_iadd (pc := 851) C dL_law_851 ?_
    refine g_sld (pc := 852) (j := j + 1) C hX dL_law_852 (nJ1 j) (by omega) ?_
    refine g_aload_n (pc := 853) (i := 0) (j := 0) C dL_law_853 rfl rfl ?_
    refine g_iload_n (pc := 854) (i := 3) (j := 3) C dL_law_854 rfl rfl ?_
    refine g_iconst (pc := 855) (v := 2) C dL_law_855 (by decide) ?_
    refine g_iadd (pc := 856) C dL_law_856 ?_
    refine g_sld (pc := 857) (j := j + 2) C hX dL_law_857 (nJ2 j) (by omega) ?_
    refine g_callV (pc := 858) C dL_law_858 lmL_97 kcX7_ropeFor (by decide) (by first | rfl | assumption) (hM1) rfl rfl (Nat.le_of_ble_eq_true rfl) ?_
    intro r9 sh9 I9 J9 hD9; obtain ⟨rfl, rfl, rfl, hPc⟩ := hP1 _ _ _ _ hD9; obtain ⟨Post2, hM2, hP2⟩ := h2 _ hPc
    try simp only [Option.toList_some, Option.toList_none, List.cons_append, List.nil_append]
    refine g_aload_n (pc := 861) (i := 2) (j := 2) C dL_law_861 rfl rfl ?_
    refine g_aload_n (pc := 862) (i := 0) (j := 0) C dL_law_862 rfl rfl ?_
    refine g_iload_n (pc := 863) (i := 3) (j := 3) C dL_law_863 rfl rfl ?_
    refine g_iconst (pc := 864) (v := 1) C dL_law_864 (by decide) ?_
    refine g_iadd (pc := 865) C dL_law_865 ?_
    refine g_sld (pc := 866) (j := j + 1) C hX dL_law_866 (nJ1 j) (by omega) ?_
    refine g_aload_n (pc := 867) (i := 0) (j := 0) C dL_law_867 rfl rfl ?_
    refine g_iload_n (pc := 868) (i := 3) (j := 3) C dL_law_868 rfl rfl ?_
    refine g_iconst (pc := 869) (v := 2) C dL_law_869 (by decide) ?_
    refine g_iadd (pc := 870) C dL_law_870 ?_
    refine g_sld (pc := 871) (j := j + 2) C hX dL_law_871 (nJ2 j) (by omega) ?_
    refine g_callV (pc := 872) C dL_law_872 lmL_100 kcX8_ropeFor (by decide) (by first | rfl | assumption) (hM2) rfl rfl (Nat.le_of_ble_eq_true rfl) ?_
    intro r8 sh8 I8 J8 hD8; obtain ⟨rfl, rfl, hR2⟩ := hP2 _ _ _ _ hD8
    try simp only [Option.toList_some, Option.toList_none, List.cons_append, List.nil_append]
    refine g_icmp_eq (pc := 875) (tgt := 1569) C dL_law_875 (by decide) (fun h875 => ?_) (fun h875 => absurd rfl h875)
    exact hn9 _ _ hR2
  refine pm_sw (20) (fun h32_20 => ?_) (fun h32_20 => ?_)
  · refine g_tsIn (pc := 32) (tgt := 880) (20) C dL_law_32 (by rw [h32_20]; decide) (by decide) (by decide) rfl (by decide) ?_
    obtain ⟨Post1, ρ, Pc, hM1, hP1, h2⟩ := two_columnFor hR (x := xs (j + 1)) (y := xs (j + 2))
    refine g_aload_n (pc := 880) (i := 1) (j := 1) C dL_law_880 rfl rfl ?_
    refine g_aload_n (pc := 881) (i := 0) (j := 0) C dL_law_881 rfl rfl ?_
    refine g_iload_n (pc := 882) (i := 3) (j := 3) C dL_law_882 rfl rfl ?_
    refine g_iconst (pc := 883) (v := 1) C dL_law_883 (by decide) ?_
    refine g_iadd (pc := 884) C dL_law_884 ?_
    refine g_sld (pc := 885) (j := j + 1) C hX dL_law_885 (nJ1 j) (by omega) ?_
    refine g_aload_n (pc := 886) (i := 0) (j := 0) C dL_law_886 rfl rfl ?_
    refine g_iload_n (pc := 887) (i := 3) (j := 3) C dL_law_887 rfl rfl ?_
    refine g_iconst (pc := 888) (v := 2) C dL_law_888 (by decide) ?_
    refine g_iadd (pc := 889) C dL_law_889 ?_
    refine g_sld (pc := 890) (j := j + 2) C hX dL_law_890 (nJ2 j) (by omega) ?_
    refine g_callV (pc := 891) C dL_law_891 lmL_101 kcX7_columnFor (by decide) (by first | rfl | assumption) (hM1) rfl rfl (Nat.le_of_ble_eq_true rfl) ?_
    intro r9 sh9 I9 J9 hD9; obtain ⟨rfl, rfl, rfl, hPc⟩ := hP1 _ _ _ _ hD9; obtain ⟨Post2, hM2, hP2⟩ := h2 _ hPc
    try simp only [Option.toList_some, Option.toList_none, List.cons_append, List.nil_append]
    refine g_aload_n (pc := 894) (i := 2) (j := 2) C dL_law_894 rfl rfl ?_
    refine g_aload_n (pc := 895) (i := 0) (j := 0) C dL_law_895 rfl rfl ?_
    refine g_iload_n (pc := 896) (i := 3) (j := 3) C dL_law_896 rfl rfl ?_
    refine g_iconst (pc := 897) (v := 1) C dL_law_897 (by decide) ?_
    refine g_iadd (pc := 898) C dL_law_898 ?_
    refine g_sld (pc := 899) (j := j + 1) C hX dL_law_899 (nJ1 j) (by omega) ?_
    refine g_aload_n (pc := 900) (i := 0) (j := 0) C dL_law_900 rfl rfl ?_
    refine g_iload_n (pc := 901) (i := 3) (j := 3) C dL_law_901 rfl rfl ?_
    refine g_iconst (pc := 902) (v := 2) C dL_law_902 (by decide) ?_
    refine g_iadd (pc := 903) C dL_law_903 ?_
    refine g_sld (pc := 904) (j := j + 2) C hX dL_law_904 (nJ2 j) (by omega) ?_
    refine g_callV (pc := 905) C dL_law_905 lmL_104 kcX8_columnFor (by decide) (by first | rfl | assumption) (hM2) rfl rfl (Nat.le_of_ble_eq_true rfl) ?_
    intro r8 sh8 I8 J8 hD8; obtain ⟨rfl, rfl, hR2⟩ := hP2 _ _ _ _ hD8
    try simp only [Option.toList_some, Option.toList_none, List.cons_append, List.nil_append]
    refine g_icmp_eq (pc := 908) (tgt := 1569) C dL_law_908 (by decide) (fun h908 => ?_) (fun h908 => absurd rfl h908)
    exact hn9 _ _ hR2
  refine pm_sw (21) (fun h32_21 => ?_) (fun h32_21 => ?_)
  · refine g_tsIn (pc := 32) (tgt := 913) (21) C dL_law_32 (by rw [h32_21]; decide) (by decide) (by decide) rfl (by decide) ?_
    obtain ⟨Post1, ρ, Pc, hM1, hP1, h2⟩ := two_lasts hR (x := xs (j + 1))
    refine g_aload_n (pc := 913) (i := 1) (j := 1) C dL_law_913 rfl rfl ?_
    refine g_aload_n (pc := 914) (i := 0) (j := 0) C dL_law_914 rfl rfl ?_
    refine g_iload_n (pc := 915) (i := 3) (j := 3) C dL_law_915 rfl rfl ?_
    refine g_iconst (pc := 916) (v := 1) C dL_law_916 (by decide) ?_
    refine g_iadd (pc := 917) C dL_law_917 ?_
    refine g_sld (pc := 918) (j := j + 1) C hX dL_law_918 (nJ1 j) (by omega) ?_
    refine g_callV (pc := 919) C dL_law_919 lmL_105 kcX7_lasts (by decide) (by first | rfl | assumption) (hM1) rfl rfl (Nat.le_of_ble_eq_true rfl) ?_
    intro r9 sh9 I9 J9 hD9; obtain ⟨rfl, rfl, rfl, hPc⟩ := hP1 _ _ _ _ hD9; obtain ⟨Post2, hM2, hP2⟩ := h2 _ hPc
    try simp only [Option.toList_some, Option.toList_none, List.cons_append, List.nil_append]
    refine g_aload_n (pc := 922) (i := 2) (j := 2) C dL_law_922 rfl rfl ?_
    refine g_aload_n (pc := 923) (i := 0) (j := 0) C dL_law_923 rfl rfl ?_
    refine g_iload_n (pc := 924) (i := 3) (j := 3) C dL_law_924 rfl rfl ?_
    refine g_iconst (pc := 925) (v := 1) C dL_law_925 (by decide) ?_
    refine g_iadd (pc := 926) C dL_law_926 ?_
    refine g_sld (pc := 927) (j := j + 1) C hX dL_law_927 (nJ1 j) (by omega) ?_
    refine g_callV (pc := 928) C dL_law_928 lmL_108 kcX8_lasts (by decide) (by first | rfl | assumption) (hM2) rfl rfl (Nat.le_of_ble_eq_true rfl) ?_
    intro r8 sh8 I8 J8 hD8; obtain ⟨rfl, rfl, hR2⟩ := hP2 _ _ _ _ hD8
    try simp only [Option.toList_some, Option.toList_none, List.cons_append, List.nil_append]
    refine g_icmp_eq (pc := 931) (tgt := 1569) C dL_law_931 (by decide) (fun h931 => ?_) (fun h931 => absurd rfl h931)
    exact hn9 _ _ hR2
  refine pm_sw (22) (fun h32_22 => ?_) (fun h32_22 => ?_)
  · refine g_tsIn (pc := 32) (tgt := 936) (22) C dL_law_32 (by rw [h32_22]; decide) (by decide) (by decide) rfl (by decide) ?_
    obtain ⟨Post1, ρ, Pc, hM1, hP1, h2⟩ := two_reached hR (x := xs (j + 1))
    refine g_aload_n (pc := 936) (i := 1) (j := 1) C dL_law_936 rfl rfl ?_
    refine g_aload_n (pc := 937) (i := 0) (j := 0) C dL_law_937 rfl rfl ?_
    refine g_iload_n (pc := 938) (i := 3) (j := 3) C dL_law_938 rfl rfl ?_
    refine g_iconst (pc := 939) (v := 1) C dL_law_939 (by decide) ?_
    refine g_iadd (pc := 940) C dL_law_940 ?_
    refine g_sld (pc := 941) (j := j + 1) C hX dL_law_941 (nJ1 j) (by omega) ?_
    refine g_callV (pc := 942) C dL_law_942 lmL_109 kcX7_reached (by decide) (by first | rfl | assumption) (hM1) rfl rfl (Nat.le_of_ble_eq_true rfl) ?_
    intro r9 sh9 I9 J9 hD9; obtain ⟨rfl, rfl, rfl, hPc⟩ := hP1 _ _ _ _ hD9; obtain ⟨Post2, hM2, hP2⟩ := h2 _ hPc
    try simp only [Option.toList_some, Option.toList_none, List.cons_append, List.nil_append]
    refine g_aload_n (pc := 945) (i := 2) (j := 2) C dL_law_945 rfl rfl ?_
    refine g_aload_n (pc := 946) (i := 0) (j := 0) C dL_law_946 rfl rfl ?_
    refine g_iload_n (pc := 947) (i := 3) (j := 3) C dL_law_947 rfl rfl ?_
    refine g_iconst (pc := 948) (v := 1) C dL_law_948 (by decide) ?_
    refine g_iadd (pc := 949) C dL_law_949 ?_
    refine g_sld (pc := 950) (j := j + 1) C hX dL_law_950 (nJ1 j) (by omega) ?_
    refine g_callV (pc := 951) C dL_law_951 lmL_112 kcX8_reached (by decide) (by first | rfl | assumption) (hM2) rfl rfl (Nat.le_of_ble_eq_true rfl) ?_
    intro r8 sh8 I8 J8 hD8; obtain ⟨rfl, rfl, hR2⟩ := hP2 _ _ _ _ hD8
    try simp only [Option.toList_some, Option.toList_none, List.cons_append, List.nil_append]
    refine g_icmp_eq (pc := 954) (tgt := 1569) C dL_law_954 (by decide) (fun h954 => ?_) (fun h954 => absurd rfl h954)
    exact hn9 _ _ hR2
  refine pm_sw (23) (fun h32_23 => ?_) (fun h32_23 => ?_)
  · refine g_tsIn (pc := 32) (tgt := 959) (23) C dL_law_32 (by rw [h32_23]; decide) (by decide) (by decide) rfl (by decide) ?_
    obtain ⟨Post1, ρ, Pc, hM1, hP1, h2⟩ := two_help hR (x := xs (j + 1))
    refine g_aload_n (pc := 959) (i := 1) (j := 1) C dL_law_959 rfl rfl ?_
    refine g_aload_n (pc := 960) (i := 0) (j := 0) C dL_law_960 rfl rfl ?_
    refine g_iload_n (pc := 961) (i := 3) (j := 3) C dL_law_961 rfl rfl ?_
    refine g_iconst (pc := 962) (v := 1) C dL_law_962 (by decide) ?_
    refine g_iadd (pc := 963) C dL_law_963 ?_
    refine g_sld (pc := 964) (j := j + 1) C hX dL_law_964 (nJ1 j) (by omega) ?_
    refine g_callV (pc := 965) C dL_law_965 lmL_113 kcX7_help (by decide) (by first | rfl | assumption) (hM1) rfl rfl (Nat.le_of_ble_eq_true rfl) ?_
    intro r9 sh9 I9 J9 hD9; obtain ⟨rfl, rfl, rfl, hPc⟩ := hP1 _ _ _ _ hD9; obtain ⟨Post2, hM2, hP2⟩ := h2 _ hPc
    try simp only [Option.toList_some, Option.toList_none, List.cons_append, List.nil_append]
    refine g_aload_n (pc := 968) (i := 2) (j := 2) C dL_law_968 rfl rfl ?_
    refine g_aload_n (pc := 969) (i := 0) (j := 0) C dL_law_969 rfl rfl ?_
    refine g_iload_n (pc := 970) (i := 3) (j := 3) C dL_law_970 rfl rfl ?_
    refine g_iconst (pc := 971) (v := 1) C dL_law_971 (by decide) ?_
    refine g_iadd (pc := 972) C dL_law_972 ?_
    refine g_sld (pc := 973) (j := j + 1) C hX dL_law_973 (nJ1 j) (by omega) ?_
    refine g_callV (pc := 974) C dL_law_974 lmL_116 kcX8_help (by decide) (by first | rfl | assumption) (hM2) rfl rfl (Nat.le_of_ble_eq_true rfl) ?_
    intro r8 sh8 I8 J8 hD8; obtain ⟨rfl, rfl, hR2⟩ := hP2 _ _ _ _ hD8
    try simp only [Option.toList_some, Option.toList_none, List.cons_append, List.nil_append]
    refine g_icmp_eq (pc := 977) (tgt := 1569) C dL_law_977 (by decide) (fun h977 => ?_) (fun h977 => absurd rfl h977)
    exact hn9 _ _ hR2
  refine pm_sw (24) (fun h32_24 => ?_) (fun h32_24 => ?_)
  · refine g_tsIn (pc := 32) (tgt := 982) (24) C dL_law_32 (by rw [h32_24]; decide) (by decide) (by decide) rfl (by decide) ?_
    obtain ⟨Post1, ρ, Pc, hM1, hP1, h2⟩ := two_cold hR 
    refine g_aload_n (pc := 982) (i := 1) (j := 1) C dL_law_982 rfl rfl ?_
    refine g_callV (pc := 983) C dL_law_983 lmL_117 kcX7_cold (by decide) (by first | rfl | assumption) (hM1) rfl rfl (Nat.le_of_ble_eq_true rfl) ?_
    intro r9 sh9 I9 J9 hD9; obtain ⟨rfl, rfl, rfl, hPc⟩ := hP1 _ _ _ _ hD9; obtain ⟨Post2, hM2, hP2⟩ := h2 _ hPc
    try simp only [Option.toList_some, Option.toList_none, List.cons_append, List.nil_append]
    refine g_aload_n (pc := 986) (i := 2) (j := 2) C dL_law_986 rfl rfl ?_
    refine g_callV (pc := 987) C dL_law_987 lmL_120 kcX8_cold (by decide) (by first | rfl | assumption) (hM2) rfl rfl (Nat.le_of_ble_eq_true rfl) ?_
    intro r8 sh8 I8 J8 hD8; obtain ⟨rfl, rfl, hR2⟩ := hP2 _ _ _ _ hD8
    try simp only [Option.toList_some, Option.toList_none, List.cons_append, List.nil_append]
    refine g_icmp_eq (pc := 990) (tgt := 1569) C dL_law_990 (by decide) (fun h990 => ?_) (fun h990 => absurd rfl h990)
    exact hn9 _ _ hR2
  refine pm_sw (25) (fun h32_25 => ?_) (fun h32_25 => ?_)
  · refine g_tsIn (pc := 32) (tgt := 995) (25) C dL_law_32 (by rw [h32_25]; decide) (by decide) (by decide) rfl (by decide) ?_
    obtain ⟨Post1, ρ, Pc, hM1, hP1, h2⟩ := two_highest hR (x := xs (j + 1))
    refine g_aload_n (pc := 995) (i := 1) (j := 1) C dL_law_995 rfl rfl ?_
    refine g_aload_n (pc := 996) (i := 0) (j := 0) C dL_law_996 rfl rfl ?_
    refine g_iload_n (pc := 997) (i := 3) (j := 3) C dL_law_997 rfl rfl ?_
    refine g_iconst (pc := 998) (v := 1) C dL_law_998 (by decide) ?_
    refine g_iadd (pc := 999) C dL_law_999 ?_
    refine g_sld (pc := 1000) (j := j + 1) C hX dL_law_1000 (nJ1 j) (by omega) ?_
    refine g_callV (pc := 1001) C dL_law_1001 lmL_121 kcX7_highest (by decide) (by first | rfl | assumption) (hM1) rfl rfl (Nat.le_of_ble_eq_true rfl) ?_
    intro r9 sh9 I9 J9 hD9; obtain ⟨rfl, rfl, rfl, hPc⟩ := hP1 _ _ _ _ hD9; obtain ⟨Post2, hM2, hP2⟩ := h2 _ hPc
    try simp only [Option.toList_some, Option.toList_none, List.cons_append, List.nil_append]
    refine g_aload_n (pc := 1004) (i := 2) (j := 2) C dL_law_1004 rfl rfl ?_
    refine g_aload_n (pc := 1005) (i := 0) (j := 0) C dL_law_1005 rfl rfl ?_
    refine g_iload_n (pc := 1006) (i := 3) (j := 3) C dL_law_1006 rfl rfl ?_
    refine g_iconst (pc := 1007) (v := 1) C dL_law_1007 (by decide) ?_
    refine g_iadd (pc := 1008) C dL_law_1008 ?_
    refine g_sld (pc := 1009) (j := j + 1) C hX dL_law_1009 (nJ1 j) (by omega) ?_
    refine g_callV (pc := 1010) C dL_law_1010 lmL_124 kcX8_highest (by decide) (by first | rfl | assumption) (hM2) rfl rfl (Nat.le_of_ble_eq_true rfl) ?_
    intro r8 sh8 I8 J8 hD8; obtain ⟨rfl, rfl, hR2⟩ := hP2 _ _ _ _ hD8
    try simp only [Option.toList_some, Option.toList_none, List.cons_append, List.nil_append]
    refine g_icmp_eq (pc := 1013) (tgt := 1569) C dL_law_1013 (by decide) (fun h1013 => ?_) (fun h1013 => absurd rfl h1013)
    exact hn9 _ _ hR2
  refine pm_sw (26) (fun h32_26 => ?_) (fun h32_26 => ?_)
  · refine g_tsIn (pc := 32) (tgt := 1018) (26) C dL_law_32 (by rw [h32_26]; decide) (by decide) (by decide) rfl (by decide) ?_
    obtain ⟨Post1, ρ, Pc, hM1, hP1, h2⟩ := two_seed hR (v := xs (j + 1))
    refine g_aload_n (pc := 1018) (i := 1) (j := 1) C dL_law_1018 rfl rfl ?_
    refine g_aload_n (pc := 1019) (i := 0) (j := 0) C dL_law_1019 rfl rfl ?_
    refine g_iload_n (pc := 1020) (i := 3) (j := 3) C dL_law_1020 rfl rfl ?_
    refine g_iconst (pc := 1021) (v := 1) C dL_law_1021 (by decide) ?_
    refine g_iadd (pc := 1022) C dL_law_1022 ?_
    refine g_sld (pc := 1023) (j := j + 1) C hX dL_law_1023 (nJ1 j) (by omega) ?_
    refine g_callV (pc := 1024) C dL_law_1024 lmL_125 kcX7_seed (by decide) (by first | rfl | assumption) (hM1) rfl rfl (Nat.le_of_ble_eq_true rfl) ?_
    intro r9 sh9 I9 J9 hD9; obtain ⟨rfl, rfl, rfl, hPc⟩ := hP1 _ _ _ _ hD9; obtain ⟨Post2, hM2, hP2⟩ := h2 _ hPc
    try simp only [Option.toList_some, Option.toList_none, List.cons_append, List.nil_append]
    refine g_aload_n (pc := 1027) (i := 2) (j := 2) C dL_law_1027 rfl rfl ?_
    refine g_aload_n (pc := 1028) (i := 0) (j := 0) C dL_law_1028 rfl rfl ?_
    refine g_iload_n (pc := 1029) (i := 3) (j := 3) C dL_law_1029 rfl rfl ?_
    refine g_iconst (pc := 1030) (v := 1) C dL_law_1030 (by decide) ?_
    refine g_iadd (pc := 1031) C dL_law_1031 ?_
    refine g_sld (pc := 1032) (j := j + 1) C hX dL_law_1032 (nJ1 j) (by omega) ?_
    refine g_callV (pc := 1033) C dL_law_1033 lmL_128 kcX8_seed (by decide) (by first | rfl | assumption) (hM2) rfl rfl (Nat.le_of_ble_eq_true rfl) ?_
    intro r8 sh8 I8 J8 hD8; obtain ⟨rfl, rfl, hR2⟩ := hP2 _ _ _ _ hD8
    try simp only [Option.toList_some, Option.toList_none, List.cons_append, List.nil_append]
    refine g_icmp_eq (pc := 1036) (tgt := 1569) C dL_law_1036 (by decide) (fun h1036 => ?_) (fun h1036 => absurd rfl h1036)
    exact hn9 _ _ hR2
  refine pm_sw (27) (fun h32_27 => ?_) (fun h32_27 => ?_)
  · refine g_tsIn (pc := 32) (tgt := 1041) (27) C dL_law_32 (by rw [h32_27]; decide) (by decide) (by decide) rfl (by decide) ?_
    obtain ⟨Post1, ρ, Pc, hM1, hP1, h2⟩ := two_draw hR (x := xs (j + 1))
    refine g_aload_n (pc := 1041) (i := 1) (j := 1) C dL_law_1041 rfl rfl ?_
    refine g_aload_n (pc := 1042) (i := 0) (j := 0) C dL_law_1042 rfl rfl ?_
    refine g_iload_n (pc := 1043) (i := 3) (j := 3) C dL_law_1043 rfl rfl ?_
    refine g_iconst (pc := 1044) (v := 1) C dL_law_1044 (by decide) ?_
    refine g_iadd (pc := 1045) C dL_law_1045 ?_
    refine g_sld (pc := 1046) (j := j + 1) C hX dL_law_1046 (nJ1 j) (by omega) ?_
    refine g_callV (pc := 1047) C dL_law_1047 lmL_129 kcX7_draw (by decide) (by first | rfl | assumption) (hM1) rfl rfl (Nat.le_of_ble_eq_true rfl) ?_
    intro r9 sh9 I9 J9 hD9; obtain ⟨rfl, rfl, rfl, hPc⟩ := hP1 _ _ _ _ hD9; obtain ⟨Post2, hM2, hP2⟩ := h2 _ hPc
    try simp only [Option.toList_some, Option.toList_none, List.cons_append, List.nil_append]
    refine g_aload_n (pc := 1050) (i := 2) (j := 2) C dL_law_1050 rfl rfl ?_
    refine g_aload_n (pc := 1051) (i := 0) (j := 0) C dL_law_1051 rfl rfl ?_
    refine g_iload_n (pc := 1052) (i := 3) (j := 3) C dL_law_1052 rfl rfl ?_
    refine g_iconst (pc := 1053) (v := 1) C dL_law_1053 (by decide) ?_
    refine g_iadd (pc := 1054) C dL_law_1054 ?_
    refine g_sld (pc := 1055) (j := j + 1) C hX dL_law_1055 (nJ1 j) (by omega) ?_
    refine g_callV (pc := 1056) C dL_law_1056 lmL_132 kcX8_draw (by decide) (by first | rfl | assumption) (hM2) rfl rfl (Nat.le_of_ble_eq_true rfl) ?_
    intro r8 sh8 I8 J8 hD8; obtain ⟨rfl, rfl, hR2⟩ := hP2 _ _ _ _ hD8
    try simp only [Option.toList_some, Option.toList_none, List.cons_append, List.nil_append]
    refine g_icmp_eq (pc := 1059) (tgt := 1569) C dL_law_1059 (by decide) (fun h1059 => ?_) (fun h1059 => absurd rfl h1059)
    exact hn9 _ _ hR2
  refine pm_sw (28) (fun h32_28 => ?_) (fun h32_28 => ?_)
  · refine g_tsIn (pc := 32) (tgt := 1064) (28) C dL_law_32 (by rw [h32_28]; decide) (by decide) (by decide) rfl (by decide) ?_
    obtain ⟨Post1, ρ, Pc, hM1, hP1, h2⟩ := two_prove hR (x := xs (j + 1)) (y := xs (j + 2))
    refine g_aload_n (pc := 1064) (i := 1) (j := 1) C dL_law_1064 rfl rfl ?_
    refine g_aload_n (pc := 1065) (i := 0) (j := 0) C dL_law_1065 rfl rfl ?_
    refine g_iload_n (pc := 1066) (i := 3) (j := 3) C dL_law_1066 rfl rfl ?_
    refine g_iconst (pc := 1067) (v := 1) C dL_law_1067 (by decide) ?_
    refine g_iadd (pc := 1068) C dL_law_1068 ?_
    refine g_sld (pc := 1069) (j := j + 1) C hX dL_law_1069 (nJ1 j) (by omega) ?_
    refine g_aload_n (pc := 1070) (i := 0) (j := 0) C dL_law_1070 rfl rfl ?_
    refine g_iload_n (pc := 1071) (i := 3) (j := 3) C dL_law_1071 rfl rfl ?_
    refine g_iconst (pc := 1072) (v := 2) C dL_law_1072 (by decide) ?_
    refine g_iadd (pc := 1073) C dL_law_1073 ?_
    refine g_sld (pc := 1074) (j := j + 2) C hX dL_law_1074 (nJ2 j) (by omega) ?_
    refine g_callV (pc := 1075) C dL_law_1075 lmL_133 kcX7_prove (by decide) (by first | rfl | assumption) (hM1) rfl rfl (Nat.le_of_ble_eq_true rfl) ?_
    intro r9 sh9 I9 J9 hD9; obtain ⟨rfl, rfl, rfl, hPc⟩ := hP1 _ _ _ _ hD9; obtain ⟨Post2, hM2, hP2⟩ := h2 _ hPc
    try simp only [Option.toList_some, Option.toList_none, List.cons_append, List.nil_append]
    refine g_aload_n (pc := 1078) (i := 2) (j := 2) C dL_law_1078 rfl rfl ?_
    refine g_aload_n (pc := 1079) (i := 0) (j := 0) C dL_law_1079 rfl rfl ?_
    refine g_iload_n (pc := 1080) (i := 3) (j := 3) C dL_law_1080 rfl rfl ?_
    refine g_iconst (pc := 1081) (v := 1) C dL_law_1081 (by decide) ?_
    refine g_iadd (pc := 1082) C dL_law_1082 ?_
    refine g_sld (pc := 1083) (j := j + 1) C hX dL_law_1083 (nJ1 j) (by omega) ?_
    refine g_aload_n (pc := 1084) (i := 0) (j := 0) C dL_law_1084 rfl rfl ?_
    refine g_iload_n (pc := 1085) (i := 3) (j := 3) C dL_law_1085 rfl rfl ?_
    refine g_iconst (pc := 1086) (v := 2) C dL_law_1086 (by decide) ?_
    refine g_iadd (pc := 1087) C dL_law_1087 ?_
    refine g_sld (pc := 1088) (j := j + 2) C hX dL_law_1088 (nJ2 j) (by omega) ?_
    refine g_callV (pc := 1089) C dL_law_1089 lmL_136 kcX8_prove (by decide) (by first | rfl | assumption) (hM2) rfl rfl (Nat.le_of_ble_eq_true rfl) ?_
    intro r8 sh8 I8 J8 hD8; obtain ⟨rfl, rfl, hR2⟩ := hP2 _ _ _ _ hD8
    try simp only [Option.toList_some, Option.toList_none, List.cons_append, List.nil_append]
    refine g_icmp_eq (pc := 1092) (tgt := 1569) C dL_law_1092 (by decide) (fun h1092 => ?_) (fun h1092 => absurd rfl h1092)
    exact hn9 _ _ hR2
  refine pm_sw (29) (fun h32_29 => ?_) (fun h32_29 => ?_)
  · refine g_tsIn (pc := 32) (tgt := 1097) (29) C dL_law_32 (by rw [h32_29]; decide) (by decide) (by decide) rfl (by decide) ?_
    obtain ⟨Post1, ρ, Pc, hM1, hP1, h2⟩ := two_row hR (x := xs (j + 1)) (w := xs (j + 2))
    refine g_aload_n (pc := 1097) (i := 1) (j := 1) C dL_law_1097 rfl rfl ?_
    refine g_aload_n (pc := 1098) (i := 0) (j := 0) C dL_law_1098 rfl rfl ?_
    refine g_iload_n (pc := 1099) (i := 3) (j := 3) C dL_law_1099 rfl rfl ?_
    refine g_iconst (pc := 1100) (v := 1) C dL_law_1100 (by decide) ?_
    refine g_iadd (pc := 1101) C dL_law_1101 ?_
    refine g_sld (pc := 1102) (j := j + 1) C hX dL_law_1102 (nJ1 j) (by omega) ?_
    refine g_aload_n (pc := 1103) (i := 0) (j := 0) C dL_law_1103 rfl rfl ?_
    refine g_iload_n (pc := 1104) (i := 3) (j := 3) C dL_law_1104 rfl rfl ?_
    refine g_iconst (pc := 1105) (v := 2) C dL_law_1105 (by decide) ?_
    refine g_iadd (pc := 1106) C dL_law_1106 ?_
    refine g_sld (pc := 1107) (j := j + 2) C hX dL_law_1107 (nJ2 j) (by omega) ?_
    refine g_callV (pc := 1108) C dL_law_1108 lmL_137 kcX7_row (by decide) (by first | rfl | assumption) (hM1) rfl rfl (Nat.le_of_ble_eq_true rfl) ?_
    intro r9 sh9 I9 J9 hD9; obtain ⟨rfl, rfl, rfl, hPc⟩ := hP1 _ _ _ _ hD9; obtain ⟨Post2, hM2, hP2⟩ := h2 _ hPc
    try simp only [Option.toList_some, Option.toList_none, List.cons_append, List.nil_append]
    refine g_aload_n (pc := 1111) (i := 2) (j := 2) C dL_law_1111 rfl rfl ?_
    refine g_aload_n (pc := 1112) (i := 0) (j := 0) C dL_law_1112 rfl rfl ?_
    refine g_iload_n (pc := 1113) (i := 3) (j := 3) C dL_law_1113 rfl rfl ?_
    refine g_iconst (pc := 1114) (v := 1) C dL_law_1114 (by decide) ?_
    refine g_iadd (pc := 1115) C dL_law_1115 ?_
    refine g_sld (pc := 1116) (j := j + 1) C hX dL_law_1116 (nJ1 j) (by omega) ?_
    refine g_aload_n (pc := 1117) (i := 0) (j := 0) C dL_law_1117 rfl rfl ?_
    refine g_iload_n (pc := 1118) (i := 3) (j := 3) C dL_law_1118 rfl rfl ?_
    refine g_iconst (pc := 1119) (v := 2) C dL_law_1119 (by decide) ?_
    refine g_iadd (pc := 1120) C dL_law_1120 ?_
    refine g_sld (pc := 1121) (j := j + 2) C hX dL_law_1121 (nJ2 j) (by omega) ?_
    refine g_callV (pc := 1122) C dL_law_1122 lmL_140 kcX8_row (by decide) (by first | rfl | assumption) (hM2) rfl rfl (Nat.le_of_ble_eq_true rfl) ?_
    intro r8 sh8 I8 J8 hD8; obtain ⟨rfl, rfl, hR2⟩ := hP2 _ _ _ _ hD8
    try simp only [Option.toList_some, Option.toList_none, List.cons_append, List.nil_append]
    refine g_icmp_eq (pc := 1125) (tgt := 1569) C dL_law_1125 (by decide) (fun h1125 => ?_) (fun h1125 => absurd rfl h1125)
    exact hn9 _ _ hR2
  refine pm_sw (30) (fun h32_30 => ?_) (fun h32_30 => ?_)
  · refine g_tsIn (pc := 32) (tgt := 1130) (30) C dL_law_32 (by rw [h32_30]; decide) (by decide) (by decide) rfl (by decide) ?_
    obtain ⟨Post1, ρ, Pc, hM1, hP1, h2⟩ := two_alterRow hR (x := xs (j + 1)) (w := xs (j + 2)) (v := xs (j + 3))
    refine g_aload_n (pc := 1130) (i := 1) (j := 1) C dL_law_1130 rfl rfl ?_
    refine g_aload_n (pc := 1131) (i := 0) (j := 0) C dL_law_1131 rfl rfl ?_
    refine g_iload_n (pc := 1132) (i := 3) (j := 3) C dL_law_1132 rfl rfl ?_
    refine g_iconst (pc := 1133) (v := 1) C dL_law_1133 (by decide) ?_
    refine g_iadd (pc := 1134) C dL_law_1134 ?_
    refine g_sld (pc := 1135) (j := j + 1) C hX dL_law_1135 (nJ1 j) (by omega) ?_
    refine g_aload_n (pc := 1136) (i := 0) (j := 0) C dL_law_1136 rfl rfl ?_
    refine g_iload_n (pc := 1137) (i := 3) (j := 3) C dL_law_1137 rfl rfl ?_
    refine g_iconst (pc := 1138) (v := 2) C dL_law_1138 (by decide) ?_
    refine g_iadd (pc := 1139) C dL_law_1139 ?_
    refine g_sld (pc := 1140) (j := j + 2) C hX dL_law_1140 (nJ2 j) (by omega) ?_
    refine g_aload_n (pc := 1141) (i := 0) (j := 0) C dL_law_1141 rfl rfl ?_
    refine g_iload_n (pc := 1142) (i := 3) (j := 3) C dL_law_1142 rfl rfl ?_
    refine g_iconst (pc := 1143) (v := 3) C dL_law_1143 (by decide) ?_
    refine g_iadd (pc := 1144) C dL_law_1144 ?_
    refine g_sld (pc := 1145) (j := j + 3) C hX dL_law_1145 (nJ3 j) (by omega) ?_
    refine g_callV (pc := 1146) C dL_law_1146 lmL_141 kcX7_alterRow (by decide) (by first | rfl | assumption) (hM1) rfl rfl (Nat.le_of_ble_eq_true rfl) ?_
    intro r9 sh9 I9 J9 hD9; obtain ⟨rfl, rfl, rfl, hPc⟩ := hP1 _ _ _ _ hD9; obtain ⟨Post2, hM2, hP2⟩ := h2 _ hPc
    try simp only [Option.toList_some, Option.toList_none, List.cons_append, List.nil_append]
    refine g_aload_n (pc := 1149) (i := 2) (j := 2) C dL_law_1149 rfl rfl ?_
    refine g_aload_n (pc := 1150) (i := 0) (j := 0) C dL_law_1150 rfl rfl ?_
    refine g_iload_n (pc := 1151) (i := 3) (j := 3) C dL_law_1151 rfl rfl ?_
    refine g_iconst (pc := 1152) (v := 1) C dL_law_1152 (by decide) ?_
    refine g_iadd (pc := 1153) C dL_law_1153 ?_
    refine g_sld (pc := 1154) (j := j + 1) C hX dL_law_1154 (nJ1 j) (by omega) ?_
    refine g_aload_n (pc := 1155) (i := 0) (j := 0) C dL_law_1155 rfl rfl ?_
    refine g_iload_n (pc := 1156) (i := 3) (j := 3) C dL_law_1156 rfl rfl ?_
    refine g_iconst (pc := 1157) (v := 2) C dL_law_1157 (by decide) ?_
    refine g_iadd (pc := 1158) C dL_law_1158 ?_
    refine g_sld (pc := 1159) (j := j + 2) C hX dL_law_1159 (nJ2 j) (by omega) ?_
    refine g_aload_n (pc := 1160) (i := 0) (j := 0) C dL_law_1160 rfl rfl ?_
    refine g_iload_n (pc := 1161) (i := 3) (j := 3) C dL_law_1161 rfl rfl ?_
    refine g_iconst (pc := 1162) (v := 3) C dL_law_1162 (by decide) ?_
    refine g_iadd (pc := 1163) C dL_law_1163 ?_
    refine g_sld (pc := 1164) (j := j + 3) C hX dL_law_1164 (nJ3 j) (by omega) ?_
    refine g_callV (pc := 1165) C dL_law_1165 lmL_144 kcX8_alterRow (by decide) (by first | rfl | assumption) (hM2) rfl rfl (Nat.le_of_ble_eq_true rfl) ?_
    intro r8 sh8 I8 J8 hD8; obtain ⟨rfl, rfl, hR2⟩ := hP2 _ _ _ _ hD8
    try simp only [Option.toList_some, Option.toList_none, List.cons_append, List.nil_append]
    refine g_icmp_eq (pc := 1168) (tgt := 1569) C dL_law_1168 (by decide) (fun h1168 => ?_) (fun h1168 => absurd rfl h1168)
    exact hn9 _ _ hR2
  refine pm_sw (31) (fun h32_31 => ?_) (fun h32_31 => ?_)
  · refine g_tsIn (pc := 32) (tgt := 1173) (31) C dL_law_32 (by rw [h32_31]; decide) (by decide) (by decide) rfl (by decide) ?_
    obtain ⟨Post1, ρ, Pc, hM1, hP1, h2⟩ := two_judge hR (x := xs (j + 1))
    refine g_aload_n (pc := 1173) (i := 1) (j := 1) C dL_law_1173 rfl rfl ?_
    refine g_aload_n (pc := 1174) (i := 0) (j := 0) C dL_law_1174 rfl rfl ?_
    refine g_iload_n (pc := 1175) (i := 3) (j := 3) C dL_law_1175 rfl rfl ?_
    refine g_iconst (pc := 1176) (v := 1) C dL_law_1176 (by decide) ?_
    refine g_iadd (pc := 1177) C dL_law_1177 ?_
    refine g_sld (pc := 1178) (j := j + 1) C hX dL_law_1178 (nJ1 j) (by omega) ?_
    refine g_callV (pc := 1179) C dL_law_1179 lmL_145 kcX7_judge (by decide) (by first | rfl | assumption) (hM1) rfl rfl (Nat.le_of_ble_eq_true rfl) ?_
    intro r9 sh9 I9 J9 hD9; obtain ⟨rfl, rfl, rfl, hPc⟩ := hP1 _ _ _ _ hD9; obtain ⟨Post2, hM2, hP2⟩ := h2 _ hPc
    try simp only [Option.toList_some, Option.toList_none, List.cons_append, List.nil_append]
    refine g_aload_n (pc := 1182) (i := 2) (j := 2) C dL_law_1182 rfl rfl ?_
    refine g_aload_n (pc := 1183) (i := 0) (j := 0) C dL_law_1183 rfl rfl ?_
    refine g_iload_n (pc := 1184) (i := 3) (j := 3) C dL_law_1184 rfl rfl ?_
    refine g_iconst (pc := 1185) (v := 1) C dL_law_1185 (by decide) ?_
    refine g_iadd (pc := 1186) C dL_law_1186 ?_
    refine g_sld (pc := 1187) (j := j + 1) C hX dL_law_1187 (nJ1 j) (by omega) ?_
    refine g_callV (pc := 1188) C dL_law_1188 lmL_148 kcX8_judge (by decide) (by first | rfl | assumption) (hM2) rfl rfl (Nat.le_of_ble_eq_true rfl) ?_
    intro r8 sh8 I8 J8 hD8; obtain ⟨rfl, rfl, hR2⟩ := hP2 _ _ _ _ hD8
    try simp only [Option.toList_some, Option.toList_none, List.cons_append, List.nil_append]
    refine g_icmp_eq (pc := 1191) (tgt := 1569) C dL_law_1191 (by decide) (fun h1191 => ?_) (fun h1191 => absurd rfl h1191)
    exact hn9 _ _ hR2
  refine pm_sw (32) (fun h32_32 => ?_) (fun h32_32 => ?_)
  · refine g_tsIn (pc := 32) (tgt := 1196) (32) C dL_law_32 (by rw [h32_32]; decide) (by decide) (by decide) rfl (by decide) ?_
    obtain ⟨Post1, ρ, Pc, hM1, hP1, h2⟩ := two_warms hR (x := xs (j + 1)) (i := xs (j + 2)) (h := xs (j + 3)) (c := xs (j + 4))
    refine g_aload_n (pc := 1196) (i := 1) (j := 1) C dL_law_1196 rfl rfl ?_
    refine g_aload_n (pc := 1197) (i := 0) (j := 0) C dL_law_1197 rfl rfl ?_
    refine g_iload_n (pc := 1198) (i := 3) (j := 3) C dL_law_1198 rfl rfl ?_
    refine g_iconst (pc := 1199) (v := 1) C dL_law_1199 (by decide) ?_
    refine g_iadd (pc := 1200) C dL_law_1200 ?_
    refine g_sld (pc := 1201) (j := j + 1) C hX dL_law_1201 (nJ1 j) (by omega) ?_
    refine g_aload_n (pc := 1202) (i := 0) (j := 0) C dL_law_1202 rfl rfl ?_
    refine g_iload_n (pc := 1203) (i := 3) (j := 3) C dL_law_1203 rfl rfl ?_
    refine g_iconst (pc := 1204) (v := 2) C dL_law_1204 (by decide) ?_
    refine g_iadd (pc := 1205) C dL_law_1205 ?_
    refine g_sld (pc := 1206) (j := j + 2) C hX dL_law_1206 (nJ2 j) (by omega) ?_
    refine g_aload_n (pc := 1207) (i := 0) (j := 0) C dL_law_1207 rfl rfl ?_
    refine g_iload_n (pc := 1208) (i := 3) (j := 3) C dL_law_1208 rfl rfl ?_
    refine g_iconst (pc := 1209) (v := 3) C dL_law_1209 (by decide) ?_
    refine g_iadd (pc := 1210) C dL_law_1210 ?_
    refine g_sld (pc := 1211) (j := j + 3) C hX dL_law_1211 (nJ3 j) (by omega) ?_
    refine g_aload_n (pc := 1212) (i := 0) (j := 0) C dL_law_1212 rfl rfl ?_
    refine g_iload_n (pc := 1213) (i := 3) (j := 3) C dL_law_1213 rfl rfl ?_
    refine g_iconst (pc := 1214) (v := 4) C dL_law_1214 (by decide) ?_
    refine g_iadd (pc := 1215) C dL_law_1215 ?_
    refine g_sld (pc := 1216) (j := j + 4) C hX dL_law_1216 (nJ4 j) (by omega) ?_
    refine g_callV (pc := 1217) C dL_law_1217 lmL_149 kcX7_warms (by decide) (by first | rfl | assumption) (hM1) rfl rfl (Nat.le_of_ble_eq_true rfl) ?_
    intro r9 sh9 I9 J9 hD9; obtain ⟨rfl, rfl, rfl, hPc⟩ := hP1 _ _ _ _ hD9; obtain ⟨Post2, hM2, hP2⟩ := h2 _ hPc
    try simp only [Option.toList_some, Option.toList_none, List.cons_append, List.nil_append]
    refine g_aload_n (pc := 1220) (i := 2) (j := 2) C dL_law_1220 rfl rfl ?_
    refine g_aload_n (pc := 1221) (i := 0) (j := 0) C dL_law_1221 rfl rfl ?_
    refine g_iload_n (pc := 1222) (i := 3) (j := 3) C dL_law_1222 rfl rfl ?_
    refine g_iconst (pc := 1223) (v := 1) C dL_law_1223 (by decide) ?_
    refine g_iadd (pc := 1224) C dL_law_1224 ?_
    refine g_sld (pc := 1225) (j := j + 1) C hX dL_law_1225 (nJ1 j) (by omega) ?_
    refine g_aload_n (pc := 1226) (i := 0) (j := 0) C dL_law_1226 rfl rfl ?_
    refine g_iload_n (pc := 1227) (i := 3) (j := 3) C dL_law_1227 rfl rfl ?_
    refine g_iconst (pc := 1228) (v := 2) C dL_law_1228 (by decide) ?_
    refine g_iadd (pc := 1229) C dL_law_1229 ?_
    refine g_sld (pc := 1230) (j := j + 2) C hX dL_law_1230 (nJ2 j) (by omega) ?_
    refine g_aload_n (pc := 1231) (i := 0) (j := 0) C dL_law_1231 rfl rfl ?_
    refine g_iload_n (pc := 1232) (i := 3) (j := 3) C dL_law_1232 rfl rfl ?_
    refine g_iconst (pc := 1233) (v := 3) C dL_law_1233 (by decide) ?_
    refine g_iadd (pc := 1234) C dL_law_1234 ?_
    refine g_sld (pc := 1235) (j := j + 3) C hX dL_law_1235 (nJ3 j) (by omega) ?_
    refine g_aload_n (pc := 1236) (i := 0) (j := 0) C dL_law_1236 rfl rfl ?_
    refine g_iload_n (pc := 1237) (i := 3) (j := 3) C dL_law_1237 rfl rfl ?_
    refine g_iconst (pc := 1238) (v := 4) C dL_law_1238 (by decide) ?_
    refine g_iadd (pc := 1239) C dL_law_1239 ?_
    refine g_sld (pc := 1240) (j := j + 4) C hX dL_law_1240 (nJ4 j) (by omega) ?_
    refine g_callV (pc := 1241) C dL_law_1241 lmL_152 kcX8_warms (by decide) (by first | rfl | assumption) (hM2) rfl rfl (Nat.le_of_ble_eq_true rfl) ?_
    intro r8 sh8 I8 J8 hD8; obtain ⟨rfl, rfl, hR2⟩ := hP2 _ _ _ _ hD8
    try simp only [Option.toList_some, Option.toList_none, List.cons_append, List.nil_append]
    refine g_icmp_eq (pc := 1244) (tgt := 1569) C dL_law_1244 (by decide) (fun h1244 => ?_) (fun h1244 => absurd rfl h1244)
    exact hn9 _ _ hR2
  refine pm_sw (33) (fun h32_33 => ?_) (fun h32_33 => ?_)
  · refine g_tsIn (pc := 32) (tgt := 1249) (33) C dL_law_32 (by rw [h32_33]; decide) (by decide) (by decide) rfl (by decide) ?_
    obtain ⟨Post1, ρ, Pc, hM1, hP1, h2⟩ := two_sheet hR (x := xs (j + 1)) (w := xs (j + 2)) (v := xs (j + 3))
    refine g_aload_n (pc := 1249) (i := 1) (j := 1) C dL_law_1249 rfl rfl ?_
    refine g_aload_n (pc := 1250) (i := 0) (j := 0) C dL_law_1250 rfl rfl ?_
    refine g_iload_n (pc := 1251) (i := 3) (j := 3) C dL_law_1251 rfl rfl ?_
    refine g_iconst (pc := 1252) (v := 1) C dL_law_1252 (by decide) ?_
    refine g_iadd (pc := 1253) C dL_law_1253 ?_
    refine g_sld (pc := 1254) (j := j + 1) C hX dL_law_1254 (nJ1 j) (by omega) ?_
    refine g_aload_n (pc := 1255) (i := 0) (j := 0) C dL_law_1255 rfl rfl ?_
    refine g_iload_n (pc := 1256) (i := 3) (j := 3) C dL_law_1256 rfl rfl ?_
    refine g_iconst (pc := 1257) (v := 2) C dL_law_1257 (by decide) ?_
    refine g_iadd (pc := 1258) C dL_law_1258 ?_
    refine g_sld (pc := 1259) (j := j + 2) C hX dL_law_1259 (nJ2 j) (by omega) ?_
    refine g_aload_n (pc := 1260) (i := 0) (j := 0) C dL_law_1260 rfl rfl ?_
    refine g_iload_n (pc := 1261) (i := 3) (j := 3) C dL_law_1261 rfl rfl ?_
    refine g_iconst (pc := 1262) (v := 3) C dL_law_1262 (by decide) ?_
    refine g_iadd (pc := 1263) C dL_law_1263 ?_
    refine g_sld (pc := 1264) (j := j + 3) C hX dL_law_1264 (nJ3 j) (by omega) ?_
    refine g_callV (pc := 1265) C dL_law_1265 lmL_153 kcX7_sheet (by decide) (by first | rfl | assumption) (hM1) rfl rfl (Nat.le_of_ble_eq_true rfl) ?_
    intro r9 sh9 I9 J9 hD9; obtain ⟨rfl, rfl, rfl, hPc⟩ := hP1 _ _ _ _ hD9; obtain ⟨Post2, hM2, hP2⟩ := h2 _ hPc
    try simp only [Option.toList_some, Option.toList_none, List.cons_append, List.nil_append]
    refine g_aload_n (pc := 1268) (i := 2) (j := 2) C dL_law_1268 rfl rfl ?_
    refine g_aload_n (pc := 1269) (i := 0) (j := 0) C dL_law_1269 rfl rfl ?_
    refine g_iload_n (pc := 1270) (i := 3) (j := 3) C dL_law_1270 rfl rfl ?_
    refine g_iconst (pc := 1271) (v := 1) C dL_law_1271 (by decide) ?_
    refine g_iadd (pc := 1272) C dL_law_1272 ?_
    refine g_sld (pc := 1273) (j := j + 1) C hX dL_law_1273 (nJ1 j) (by omega) ?_
    refine g_aload_n (pc := 1274) (i := 0) (j := 0) C dL_law_1274 rfl rfl ?_
    refine g_iload_n (pc := 1275) (i := 3) (j := 3) C dL_law_1275 rfl rfl ?_
    refine g_iconst (pc := 1276) (v := 2) C dL_law_1276 (by decide) ?_
    refine g_iadd (pc := 1277) C dL_law_1277 ?_
    refine g_sld (pc := 1278) (j := j + 2) C hX dL_law_1278 (nJ2 j) (by omega) ?_
    refine g_aload_n (pc := 1279) (i := 0) (j := 0) C dL_law_1279 rfl rfl ?_
    refine g_iload_n (pc := 1280) (i := 3) (j := 3) C dL_law_1280 rfl rfl ?_
    refine g_iconst (pc := 1281) (v := 3) C dL_law_1281 (by decide) ?_
    refine g_iadd (pc := 1282) C dL_law_1282 ?_
    refine g_sld (pc := 1283) (j := j + 3) C hX dL_law_1283 (nJ3 j) (by omega) ?_
    refine g_callV (pc := 1284) C dL_law_1284 lmL_156 kcX8_sheet (by decide) (by first | rfl | assumption) (hM2) rfl rfl (Nat.le_of_ble_eq_true rfl) ?_
    intro r8 sh8 I8 J8 hD8; obtain ⟨rfl, rfl, hR2⟩ := hP2 _ _ _ _ hD8
    try simp only [Option.toList_some, Option.toList_none, List.cons_append, List.nil_append]
    refine g_icmp_eq (pc := 1287) (tgt := 1569) C dL_law_1287 (by decide) (fun h1287 => ?_) (fun h1287 => absurd rfl h1287)
    exact hn9 _ _ hR2
  refine pm_sw (34) (fun h32_34 => ?_) (fun h32_34 => ?_)
  · refine g_tsIn (pc := 32) (tgt := 1292) (34) C dL_law_32 (by rw [h32_34]; decide) (by decide) (by decide) rfl (by decide) ?_
    obtain ⟨Post1, ρ, Pc, hM1, hP1, h2⟩ := two_put hR (x := xs (j + 1)) (i := xs (j + 2)) (v := xs (j + 3))
    refine g_aload_n (pc := 1292) (i := 1) (j := 1) C dL_law_1292 rfl rfl ?_
    refine g_aload_n (pc := 1293) (i := 0) (j := 0) C dL_law_1293 rfl rfl ?_
    refine g_iload_n (pc := 1294) (i := 3) (j := 3) C dL_law_1294 rfl rfl ?_
    refine g_iconst (pc := 1295) (v := 1) C dL_law_1295 (by decide) ?_
    refine g_iadd (pc := 1296) C dL_law_1296 ?_
    refine g_sld (pc := 1297) (j := j + 1) C hX dL_law_1297 (nJ1 j) (by omega) ?_
    refine g_aload_n (pc := 1298) (i := 0) (j := 0) C dL_law_1298 rfl rfl ?_
    refine g_iload_n (pc := 1299) (i := 3) (j := 3) C dL_law_1299 rfl rfl ?_
    refine g_iconst (pc := 1300) (v := 2) C dL_law_1300 (by decide) ?_
    refine g_iadd (pc := 1301) C dL_law_1301 ?_
    refine g_sld (pc := 1302) (j := j + 2) C hX dL_law_1302 (nJ2 j) (by omega) ?_
    refine g_aload_n (pc := 1303) (i := 0) (j := 0) C dL_law_1303 rfl rfl ?_
    refine g_iload_n (pc := 1304) (i := 3) (j := 3) C dL_law_1304 rfl rfl ?_
    refine g_iconst (pc := 1305) (v := 3) C dL_law_1305 (by decide) ?_
    refine g_iadd (pc := 1306) C dL_law_1306 ?_
    refine g_sld (pc := 1307) (j := j + 3) C hX dL_law_1307 (nJ3 j) (by omega) ?_
    refine g_callV (pc := 1308) C dL_law_1308 lmL_157 kcX7_put (by decide) (by first | rfl | assumption) (hM1) rfl rfl (Nat.le_of_ble_eq_true rfl) ?_
    intro r9 sh9 I9 J9 hD9; obtain ⟨rfl, rfl, rfl, hPc⟩ := hP1 _ _ _ _ hD9; obtain ⟨Post2, hM2, hP2⟩ := h2 _ hPc
    try simp only [Option.toList_some, Option.toList_none, List.cons_append, List.nil_append]
    refine g_aload_n (pc := 1311) (i := 2) (j := 2) C dL_law_1311 rfl rfl ?_
    refine g_aload_n (pc := 1312) (i := 0) (j := 0) C dL_law_1312 rfl rfl ?_
    refine g_iload_n (pc := 1313) (i := 3) (j := 3) C dL_law_1313 rfl rfl ?_
    refine g_iconst (pc := 1314) (v := 1) C dL_law_1314 (by decide) ?_
    refine g_iadd (pc := 1315) C dL_law_1315 ?_
    refine g_sld (pc := 1316) (j := j + 1) C hX dL_law_1316 (nJ1 j) (by omega) ?_
    refine g_aload_n (pc := 1317) (i := 0) (j := 0) C dL_law_1317 rfl rfl ?_
    refine g_iload_n (pc := 1318) (i := 3) (j := 3) C dL_law_1318 rfl rfl ?_
    refine g_iconst (pc := 1319) (v := 2) C dL_law_1319 (by decide) ?_
    refine g_iadd (pc := 1320) C dL_law_1320 ?_
    refine g_sld (pc := 1321) (j := j + 2) C hX dL_law_1321 (nJ2 j) (by omega) ?_
    refine g_aload_n (pc := 1322) (i := 0) (j := 0) C dL_law_1322 rfl rfl ?_
    refine g_iload_n (pc := 1323) (i := 3) (j := 3) C dL_law_1323 rfl rfl ?_
    refine g_iconst (pc := 1324) (v := 3) C dL_law_1324 (by decide) ?_
    refine g_iadd (pc := 1325) C dL_law_1325 ?_
    refine g_sld (pc := 1326) (j := j + 3) C hX dL_law_1326 (nJ3 j) (by omega) ?_
    refine g_callV (pc := 1327) C dL_law_1327 lmL_160 kcX8_put (by decide) (by first | rfl | assumption) (hM2) rfl rfl (Nat.le_of_ble_eq_true rfl) ?_
    intro r8 sh8 I8 J8 hD8; obtain ⟨rfl, rfl, hR2⟩ := hP2 _ _ _ _ hD8
    try simp only [Option.toList_some, Option.toList_none, List.cons_append, List.nil_append]
    refine g_icmp_eq (pc := 1330) (tgt := 1569) C dL_law_1330 (by decide) (fun h1330 => ?_) (fun h1330 => absurd rfl h1330)
    exact hn9 _ _ hR2
  refine pm_sw (35) (fun h32_35 => ?_) (fun h32_35 => ?_)
  · refine g_tsIn (pc := 32) (tgt := 1335) (35) C dL_law_32 (by rw [h32_35]; decide) (by decide) (by decide) rfl (by decide) ?_
    obtain ⟨Post1, ρ, Pc, hM1, hP1, h2⟩ := two_item hR (x := xs (j + 1)) (w := xs (j + 2)) (i := xs (j + 3))
    refine g_aload_n (pc := 1335) (i := 1) (j := 1) C dL_law_1335 rfl rfl ?_
    refine g_aload_n (pc := 1336) (i := 0) (j := 0) C dL_law_1336 rfl rfl ?_
    refine g_iload_n (pc := 1337) (i := 3) (j := 3) C dL_law_1337 rfl rfl ?_
    refine g_iconst (pc := 1338) (v := 1) C dL_law_1338 (by decide) ?_
    refine g_iadd (pc := 1339) C dL_law_1339 ?_
    refine g_sld (pc := 1340) (j := j + 1) C hX dL_law_1340 (nJ1 j) (by omega) ?_
    refine g_aload_n (pc := 1341) (i := 0) (j := 0) C dL_law_1341 rfl rfl ?_
    refine g_iload_n (pc := 1342) (i := 3) (j := 3) C dL_law_1342 rfl rfl ?_
    refine g_iconst (pc := 1343) (v := 2) C dL_law_1343 (by decide) ?_
    refine g_iadd (pc := 1344) C dL_law_1344 ?_
    refine g_sld (pc := 1345) (j := j + 2) C hX dL_law_1345 (nJ2 j) (by omega) ?_
    refine g_aload_n (pc := 1346) (i := 0) (j := 0) C dL_law_1346 rfl rfl ?_
    refine g_iload_n (pc := 1347) (i := 3) (j := 3) C dL_law_1347 rfl rfl ?_
    refine g_iconst (pc := 1348) (v := 3) C dL_law_1348 (by decide) ?_
    refine g_iadd (pc := 1349) C dL_law_1349 ?_
    refine g_sld (pc := 1350) (j := j + 3) C hX dL_law_1350 (nJ3 j) (by omega) ?_
    refine g_callV (pc := 1351) C dL_law_1351 lmL_161 kcX7_item (by decide) (by first | rfl | assumption) (hM1) rfl rfl (Nat.le_of_ble_eq_true rfl) ?_
    intro r9 sh9 I9 J9 hD9; obtain ⟨rfl, rfl, rfl, hPc⟩ := hP1 _ _ _ _ hD9; obtain ⟨Post2, hM2, hP2⟩ := h2 _ hPc
    try simp only [Option.toList_some, Option.toList_none, List.cons_append, List.nil_append]
    refine g_aload_n (pc := 1354) (i := 2) (j := 2) C dL_law_1354 rfl rfl ?_
    refine g_aload_n (pc := 1355) (i := 0) (j := 0) C dL_law_1355 rfl rfl ?_
    refine g_iload_n (pc := 1356) (i := 3) (j := 3) C dL_law_1356 rfl rfl ?_
    refine g_iconst (pc := 1357) (v := 1) C dL_law_1357 (by decide) ?_
    refine g_iadd (pc := 1358) C dL_law_1358 ?_
    refine g_sld (pc := 1359) (j := j + 1) C hX dL_law_1359 (nJ1 j) (by omega) ?_
    refine g_aload_n (pc := 1360) (i := 0) (j := 0) C dL_law_1360 rfl rfl ?_
    refine g_iload_n (pc := 1361) (i := 3) (j := 3) C dL_law_1361 rfl rfl ?_
    refine g_iconst (pc := 1362) (v := 2) C dL_law_1362 (by decide) ?_
    refine g_iadd (pc := 1363) C dL_law_1363 ?_
    refine g_sld (pc := 1364) (j := j + 2) C hX dL_law_1364 (nJ2 j) (by omega) ?_
    refine g_aload_n (pc := 1365) (i := 0) (j := 0) C dL_law_1365 rfl rfl ?_
    refine g_iload_n (pc := 1366) (i := 3) (j := 3) C dL_law_1366 rfl rfl ?_
    refine g_iconst (pc := 1367) (v := 3) C dL_law_1367 (by decide) ?_
    refine g_iadd (pc := 1368) C dL_law_1368 ?_
    refine g_sld (pc := 1369) (j := j + 3) C hX dL_law_1369 (nJ3 j) (by omega) ?_
    refine g_callV (pc := 1370) C dL_law_1370 lmL_164 kcX8_item (by decide) (by first | rfl | assumption) (hM2) rfl rfl (Nat.le_of_ble_eq_true rfl) ?_
    intro r8 sh8 I8 J8 hD8; obtain ⟨rfl, rfl, hR2⟩ := hP2 _ _ _ _ hD8
    try simp only [Option.toList_some, Option.toList_none, List.cons_append, List.nil_append]
    refine g_icmp_eq (pc := 1373) (tgt := 1569) C dL_law_1373 (by decide) (fun h1373 => ?_) (fun h1373 => absurd rfl h1373)
    exact hn9 _ _ hR2
  refine pm_sw (36) (fun h32_36 => ?_) (fun h32_36 => ?_)
  · refine g_tsIn (pc := 32) (tgt := 1378) (36) C dL_law_32 (by rw [h32_36]; decide) (by decide) (by decide) rfl (by decide) ?_
    obtain ⟨Post1, ρ, Pc, hM1, hP1, h2⟩ := two_shelf hR (x := xs (j + 1)) (w := xs (j + 2)) (v := xs (j + 3))
    refine g_aload_n (pc := 1378) (i := 1) (j := 1) C dL_law_1378 rfl rfl ?_
    refine g_aload_n (pc := 1379) (i := 0) (j := 0) C dL_law_1379 rfl rfl ?_
    refine g_iload_n (pc := 1380) (i := 3) (j := 3) C dL_law_1380 rfl rfl ?_
    refine g_iconst (pc := 1381) (v := 1) C dL_law_1381 (by decide) ?_
    refine g_iadd (pc := 1382) C dL_law_1382 ?_
    refine g_sld (pc := 1383) (j := j + 1) C hX dL_law_1383 (nJ1 j) (by omega) ?_
    refine g_aload_n (pc := 1384) (i := 0) (j := 0) C dL_law_1384 rfl rfl ?_
    refine g_iload_n (pc := 1385) (i := 3) (j := 3) C dL_law_1385 rfl rfl ?_
    refine g_iconst (pc := 1386) (v := 2) C dL_law_1386 (by decide) ?_
    refine g_iadd (pc := 1387) C dL_law_1387 ?_
    refine g_sld (pc := 1388) (j := j + 2) C hX dL_law_1388 (nJ2 j) (by omega) ?_
    refine g_aload_n (pc := 1389) (i := 0) (j := 0) C dL_law_1389 rfl rfl ?_
    refine g_iload_n (pc := 1390) (i := 3) (j := 3) C dL_law_1390 rfl rfl ?_
    refine g_iconst (pc := 1391) (v := 3) C dL_law_1391 (by decide) ?_
    refine g_iadd (pc := 1392) C dL_law_1392 ?_
    refine g_sld (pc := 1393) (j := j + 3) C hX dL_law_1393 (nJ3 j) (by omega) ?_
    refine g_callV (pc := 1394) C dL_law_1394 lmL_165 kcX7_shelf (by decide) (by first | rfl | assumption) (hM1) rfl rfl (Nat.le_of_ble_eq_true rfl) ?_
    intro r9 sh9 I9 J9 hD9; obtain ⟨rfl, rfl, rfl, hPc⟩ := hP1 _ _ _ _ hD9; obtain ⟨Post2, hM2, hP2⟩ := h2 _ hPc
    try simp only [Option.toList_some, Option.toList_none, List.cons_append, List.nil_append]
    refine g_aload_n (pc := 1397) (i := 2) (j := 2) C dL_law_1397 rfl rfl ?_
    refine g_aload_n (pc := 1398) (i := 0) (j := 0) C dL_law_1398 rfl rfl ?_
    refine g_iload_n (pc := 1399) (i := 3) (j := 3) C dL_law_1399 rfl rfl ?_
    refine g_iconst (pc := 1400) (v := 1) C dL_law_1400 (by decide) ?_
    refine g_iadd (pc := 1401) C dL_law_1401 ?_
    refine g_sld (pc := 1402) (j := j + 1) C hX dL_law_1402 (nJ1 j) (by omega) ?_
    refine g_aload_n (pc := 1403) (i := 0) (j := 0) C dL_law_1403 rfl rfl ?_
    refine g_iload_n (pc := 1404) (i := 3) (j := 3) C dL_law_1404 rfl rfl ?_
    refine g_iconst (pc := 1405) (v := 2) C dL_law_1405 (by decide) ?_
    refine g_iadd (pc := 1406) C dL_law_1406 ?_
    refine g_sld (pc := 1407) (j := j + 2) C hX dL_law_1407 (nJ2 j) (by omega) ?_
    refine g_aload_n (pc := 1408) (i := 0) (j := 0) C dL_law_1408 rfl rfl ?_
    refine g_iload_n (pc := 1409) (i := 3) (j := 3) C dL_law_1409 rfl rfl ?_
    refine g_iconst (pc := 1410) (v := 3) C dL_law_1410 (by decide) ?_
    refine g_iadd (pc := 1411) C dL_law_1411 ?_
    refine g_sld (pc := 1412) (j := j + 3) C hX dL_law_1412 (nJ3 j) (by omega) ?_
    refine g_callV (pc := 1413) C dL_law_1413 lmL_168 kcX8_shelf (by decide) (by first | rfl | assumption) (hM2) rfl rfl (Nat.le_of_ble_eq_true rfl) ?_
    intro r8 sh8 I8 J8 hD8; obtain ⟨rfl, rfl, hR2⟩ := hP2 _ _ _ _ hD8
    try simp only [Option.toList_some, Option.toList_none, List.cons_append, List.nil_append]
    refine g_icmp_eq (pc := 1416) (tgt := 1569) C dL_law_1416 (by decide) (fun h1416 => ?_) (fun h1416 => absurd rfl h1416)
    exact hn9 _ _ hR2
  refine pm_sw (37) (fun h32_37 => ?_) (fun h32_37 => ?_)
  · refine g_tsIn (pc := 32) (tgt := 1421) (37) C dL_law_32 (by rw [h32_37]; decide) (by decide) (by decide) rfl (by decide) ?_
    obtain ⟨Post1, ρ, Pc, hM1, hP1, h2⟩ := two_taken hR (x := xs (j + 1)) (w := xs (j + 2))
    refine g_aload_n (pc := 1421) (i := 1) (j := 1) C dL_law_1421 rfl rfl ?_
    refine g_aload_n (pc := 1422) (i := 0) (j := 0) C dL_law_1422 rfl rfl ?_
    refine g_iload_n (pc := 1423) (i := 3) (j := 3) C dL_law_1423 rfl rfl ?_
    refine g_iconst (pc := 1424) (v := 1) C dL_law_1424 (by decide) ?_
    refine g_iadd (pc := 1425) C dL_law_1425 ?_
    refine g_sld (pc := 1426) (j := j + 1) C hX dL_law_1426 (nJ1 j) (by omega) ?_
    refine g_aload_n (pc := 1427) (i := 0) (j := 0) C dL_law_1427 rfl rfl ?_
    refine g_iload_n (pc := 1428) (i := 3) (j := 3) C dL_law_1428 rfl rfl ?_
    refine g_iconst (pc := 1429) (v := 2) C dL_law_1429 (by decide) ?_
    refine g_iadd (pc := 1430) C dL_law_1430 ?_
    refine g_sld (pc := 1431) (j := j + 2) C hX dL_law_1431 (nJ2 j) (by omega) ?_
    refine g_callV (pc := 1432) C dL_law_1432 lmL_169 kcX7_taken (by decide) (by first | rfl | assumption) (hM1) rfl rfl (Nat.le_of_ble_eq_true rfl) ?_
    intro r9 sh9 I9 J9 hD9; obtain ⟨rfl, rfl, rfl, hPc⟩ := hP1 _ _ _ _ hD9; obtain ⟨Post2, hM2, hP2⟩ := h2 _ hPc
    try simp only [Option.toList_some, Option.toList_none, List.cons_append, List.nil_append]
    refine g_aload_n (pc := 1435) (i := 2) (j := 2) C dL_law_1435 rfl rfl ?_
    refine g_aload_n (pc := 1436) (i := 0) (j := 0) C dL_law_1436 rfl rfl ?_
    refine g_iload_n (pc := 1437) (i := 3) (j := 3) C dL_law_1437 rfl rfl ?_
    refine g_iconst (pc := 1438) (v := 1) C dL_law_1438 (by decide) ?_
    refine g_iadd (pc := 1439) C dL_law_1439 ?_
    refine g_sld (pc := 1440) (j := j + 1) C hX dL_law_1440 (nJ1 j) (by omega) ?_
    refine g_aload_n (pc := 1441) (i := 0) (j := 0) C dL_law_1441 rfl rfl ?_
    refine g_iload_n (pc := 1442) (i := 3) (j := 3) C dL_law_1442 rfl rfl ?_
    refine g_iconst (pc := 1443) (v := 2) C dL_law_1443 (by decide) ?_
    refine g_iadd (pc := 1444) C dL_law_1444 ?_
    refine g_sld (pc := 1445) (j := j + 2) C hX dL_law_1445 (nJ2 j) (by omega) ?_
    refine g_callV (pc := 1446) C dL_law_1446 lmL_172 kcX8_taken (by decide) (by first | rfl | assumption) (hM2) rfl rfl (Nat.le_of_ble_eq_true rfl) ?_
    intro r8 sh8 I8 J8 hD8; obtain ⟨rfl, rfl, hR2⟩ := hP2 _ _ _ _ hD8
    try simp only [Option.toList_some, Option.toList_none, List.cons_append, List.nil_append]
    refine g_icmp_eq (pc := 1449) (tgt := 1569) C dL_law_1449 (by decide) (fun h1449 => ?_) (fun h1449 => absurd rfl h1449)
    exact hn9 _ _ hR2
  refine pm_sw (38) (fun h32_38 => ?_) (fun h32_38 => ?_)
  · refine g_tsIn (pc := 32) (tgt := 1454) (38) C dL_law_32 (by rw [h32_38]; decide) (by decide) (by decide) rfl (by decide) ?_
    obtain ⟨Post1, ρ, Pc, hM1, hP1, h2⟩ := two_act hR (x := xs (j + 1)) (w := xs (j + 2)) (v := xs (j + 3))
    refine g_aload_n (pc := 1454) (i := 1) (j := 1) C dL_law_1454 rfl rfl ?_
    refine g_aload_n (pc := 1455) (i := 0) (j := 0) C dL_law_1455 rfl rfl ?_
    refine g_iload_n (pc := 1456) (i := 3) (j := 3) C dL_law_1456 rfl rfl ?_
    refine g_iconst (pc := 1457) (v := 1) C dL_law_1457 (by decide) ?_
    refine g_iadd (pc := 1458) C dL_law_1458 ?_
    refine g_sld (pc := 1459) (j := j + 1) C hX dL_law_1459 (nJ1 j) (by omega) ?_
    refine g_aload_n (pc := 1460) (i := 0) (j := 0) C dL_law_1460 rfl rfl ?_
    refine g_iload_n (pc := 1461) (i := 3) (j := 3) C dL_law_1461 rfl rfl ?_
    refine g_iconst (pc := 1462) (v := 2) C dL_law_1462 (by decide) ?_
    refine g_iadd (pc := 1463) C dL_law_1463 ?_
    refine g_sld (pc := 1464) (j := j + 2) C hX dL_law_1464 (nJ2 j) (by omega) ?_
    refine g_aload_n (pc := 1465) (i := 0) (j := 0) C dL_law_1465 rfl rfl ?_
    refine g_iload_n (pc := 1466) (i := 3) (j := 3) C dL_law_1466 rfl rfl ?_
    refine g_iconst (pc := 1467) (v := 3) C dL_law_1467 (by decide) ?_
    refine g_iadd (pc := 1468) C dL_law_1468 ?_
    refine g_sld (pc := 1469) (j := j + 3) C hX dL_law_1469 (nJ3 j) (by omega) ?_
    refine g_callV (pc := 1470) C dL_law_1470 lmL_173 kcX7_act (by decide) (by first | rfl | assumption) (hM1) rfl rfl (Nat.le_of_ble_eq_true rfl) ?_
    intro r9 sh9 I9 J9 hD9; obtain ⟨rfl, rfl, rfl, hPc⟩ := hP1 _ _ _ _ hD9; obtain ⟨Post2, hM2, hP2⟩ := h2 _ hPc
    try simp only [Option.toList_some, Option.toList_none, List.cons_append, List.nil_append]
    refine g_aload_n (pc := 1473) (i := 2) (j := 2) C dL_law_1473 rfl rfl ?_
    refine g_aload_n (pc := 1474) (i := 0) (j := 0) C dL_law_1474 rfl rfl ?_
    refine g_iload_n (pc := 1475) (i := 3) (j := 3) C dL_law_1475 rfl rfl ?_
    refine g_iconst (pc := 1476) (v := 1) C dL_law_1476 (by decide) ?_
    refine g_iadd (pc := 1477) C dL_law_1477 ?_
    refine g_sld (pc := 1478) (j := j + 1) C hX dL_law_1478 (nJ1 j) (by omega) ?_
    refine g_aload_n (pc := 1479) (i := 0) (j := 0) C dL_law_1479 rfl rfl ?_
    refine g_iload_n (pc := 1480) (i := 3) (j := 3) C dL_law_1480 rfl rfl ?_
    refine g_iconst (pc := 1481) (v := 2) C dL_law_1481 (by decide) ?_
    refine g_iadd (pc := 1482) C dL_law_1482 ?_
    refine g_sld (pc := 1483) (j := j + 2) C hX dL_law_1483 (nJ2 j) (by omega) ?_
    refine g_aload_n (pc := 1484) (i := 0) (j := 0) C dL_law_1484 rfl rfl ?_
    refine g_iload_n (pc := 1485) (i := 3) (j := 3) C dL_law_1485 rfl rfl ?_
    refine g_iconst (pc := 1486) (v := 3) C dL_law_1486 (by decide) ?_
    refine g_iadd (pc := 1487) C dL_law_1487 ?_
    refine g_sld (pc := 1488) (j := j + 3) C hX dL_law_1488 (nJ3 j) (by omega) ?_
    refine g_callV (pc := 1489) C dL_law_1489 lmL_176 kcX8_act (by decide) (by first | rfl | assumption) (hM2) rfl rfl (Nat.le_of_ble_eq_true rfl) ?_
    intro r8 sh8 I8 J8 hD8; obtain ⟨rfl, rfl, hR2⟩ := hP2 _ _ _ _ hD8
    try simp only [Option.toList_some, Option.toList_none, List.cons_append, List.nil_append]
    refine g_icmp_eq (pc := 1492) (tgt := 1569) C dL_law_1492 (by decide) (fun h1492 => ?_) (fun h1492 => absurd rfl h1492)
    exact hn9 _ _ hR2
  refine pm_sw (39) (fun h32_39 => ?_) (fun h32_39 => ?_)
  · refine g_tsIn (pc := 32) (tgt := 1497) (39) C dL_law_32 (by rw [h32_39]; decide) (by decide) (by decide) rfl (by decide) ?_
    obtain ⟨Post1, ρ, Pc, hM1, hP1, h2⟩ := two_trace hR (x := xs (j + 1))
    refine g_aload_n (pc := 1497) (i := 1) (j := 1) C dL_law_1497 rfl rfl ?_
    refine g_aload_n (pc := 1498) (i := 0) (j := 0) C dL_law_1498 rfl rfl ?_
    refine g_iload_n (pc := 1499) (i := 3) (j := 3) C dL_law_1499 rfl rfl ?_
    refine g_iconst (pc := 1500) (v := 1) C dL_law_1500 (by decide) ?_
    refine g_iadd (pc := 1501) C dL_law_1501 ?_
    refine g_sld (pc := 1502) (j := j + 1) C hX dL_law_1502 (nJ1 j) (by omega) ?_
    refine g_callV (pc := 1503) C dL_law_1503 lmL_177 kcX7_trace (by decide) (by first | rfl | assumption) (hM1) rfl rfl (Nat.le_of_ble_eq_true rfl) ?_
    intro r9 sh9 I9 J9 hD9; obtain ⟨rfl, rfl, rfl, hPc⟩ := hP1 _ _ _ _ hD9; obtain ⟨Post2, hM2, hP2⟩ := h2 _ hPc
    try simp only [Option.toList_some, Option.toList_none, List.cons_append, List.nil_append]
    refine g_aload_n (pc := 1506) (i := 2) (j := 2) C dL_law_1506 rfl rfl ?_
    refine g_aload_n (pc := 1507) (i := 0) (j := 0) C dL_law_1507 rfl rfl ?_
    refine g_iload_n (pc := 1508) (i := 3) (j := 3) C dL_law_1508 rfl rfl ?_
    refine g_iconst (pc := 1509) (v := 1) C dL_law_1509 (by decide) ?_
    refine g_iadd (pc := 1510) C dL_law_1510 ?_
    refine g_sld (pc := 1511) (j := j + 1) C hX dL_law_1511 (nJ1 j) (by omega) ?_
    refine g_callV (pc := 1512) C dL_law_1512 lmL_180 kcX8_trace (by decide) (by first | rfl | assumption) (hM2) rfl rfl (Nat.le_of_ble_eq_true rfl) ?_
    intro r8 sh8 I8 J8 hD8; obtain ⟨rfl, rfl, hR2⟩ := hP2 _ _ _ _ hD8
    try simp only [Option.toList_some, Option.toList_none, List.cons_append, List.nil_append]
    refine g_icmp_eq (pc := 1515) (tgt := 1569) C dL_law_1515 (by decide) (fun h1515 => ?_) (fun h1515 => absurd rfl h1515)
    exact hn9 _ _ hR2
  refine pm_sw (40) (fun h32_40 => ?_) (fun h32_40 => ?_)
  · refine g_tsIn (pc := 32) (tgt := 1520) (40) C dL_law_32 (by rw [h32_40]; decide) (by decide) (by decide) rfl (by decide) ?_
    obtain ⟨Post1, ρ, Pc, hM1, hP1, h2⟩ := two_many hR (x := xs (j + 1))
    refine g_aload_n (pc := 1520) (i := 1) (j := 1) C dL_law_1520 rfl rfl ?_
    refine g_aload_n (pc := 1521) (i := 0) (j := 0) C dL_law_1521 rfl rfl ?_
    refine g_iload_n (pc := 1522) (i := 3) (j := 3) C dL_law_1522 rfl rfl ?_
    refine g_iconst (pc := 1523) (v := 1) C dL_law_1523 (by decide) ?_
    refine g_iadd (pc := 1524) C dL_law_1524 ?_
    refine g_sld (pc := 1525) (j := j + 1) C hX dL_law_1525 (nJ1 j) (by omega) ?_
    refine g_callV (pc := 1526) C dL_law_1526 lmL_181 kcX7_many (by decide) (by first | rfl | assumption) (hM1) rfl rfl (Nat.le_of_ble_eq_true rfl) ?_
    intro r9 sh9 I9 J9 hD9; obtain ⟨rfl, rfl, rfl, hPc⟩ := hP1 _ _ _ _ hD9; obtain ⟨Post2, hM2, hP2⟩ := h2 _ hPc
    try simp only [Option.toList_some, Option.toList_none, List.cons_append, List.nil_append]
    refine g_aload_n (pc := 1529) (i := 2) (j := 2) C dL_law_1529 rfl rfl ?_
    refine g_aload_n (pc := 1530) (i := 0) (j := 0) C dL_law_1530 rfl rfl ?_
    refine g_iload_n (pc := 1531) (i := 3) (j := 3) C dL_law_1531 rfl rfl ?_
    refine g_iconst (pc := 1532) (v := 1) C dL_law_1532 (by decide) ?_
    refine g_iadd (pc := 1533) C dL_law_1533 ?_
    refine g_sld (pc := 1534) (j := j + 1) C hX dL_law_1534 (nJ1 j) (by omega) ?_
    refine g_callV (pc := 1535) C dL_law_1535 lmL_184 kcX8_many (by decide) (by first | rfl | assumption) (hM2) rfl rfl (Nat.le_of_ble_eq_true rfl) ?_
    intro r8 sh8 I8 J8 hD8; obtain ⟨rfl, rfl, hR2⟩ := hP2 _ _ _ _ hD8
    try simp only [Option.toList_some, Option.toList_none, List.cons_append, List.nil_append]
    refine g_icmp_eq (pc := 1538) (tgt := 1569) C dL_law_1538 (by decide) (fun h1538 => ?_) (fun h1538 => absurd rfl h1538)
    exact hn9 _ _ hR2
  refine pm_sw (41) (fun h32_41 => ?_) (fun h32_41 => ?_)
  · refine g_tsIn (pc := 32) (tgt := 1543) (41) C dL_law_32 (by rw [h32_41]; decide) (by decide) (by decide) rfl (by decide) ?_
    obtain ⟨Post1, ρ, Pc, hM1, hP1, h2⟩ := two_keep hR 
    refine g_aload_n (pc := 1543) (i := 1) (j := 1) C dL_law_1543 rfl rfl ?_
    refine g_callV (pc := 1544) C dL_law_1544 lmL_185 kcX7_keep (by decide) (by first | rfl | assumption) (hM1) rfl rfl (Nat.le_of_ble_eq_true rfl) ?_
    intro r9 sh9 I9 J9 hD9; obtain ⟨rfl, rfl, rfl, hPc⟩ := hP1 _ _ _ _ hD9; obtain ⟨Post2, hM2, hP2⟩ := h2 _ hPc
    try simp only [Option.toList_some, Option.toList_none, List.cons_append, List.nil_append]
    refine g_aload_n (pc := 1547) (i := 2) (j := 2) C dL_law_1547 rfl rfl ?_
    refine g_callV (pc := 1548) C dL_law_1548 lmL_188 kcX8_keep (by decide) (by first | rfl | assumption) (hM2) rfl rfl (Nat.le_of_ble_eq_true rfl) ?_
    intro r8 sh8 I8 J8 hD8; obtain ⟨rfl, rfl, hR2⟩ := hP2 _ _ _ _ hD8
    try simp only [Option.toList_some, Option.toList_none, List.cons_append, List.nil_append]
    refine g_icmp_eq (pc := 1551) (tgt := 1569) C dL_law_1551 (by decide) (fun h1551 => ?_) (fun h1551 => absurd rfl h1551)
    exact hn9 _ _ hR2
  refine pm_sw (42) (fun h32_42 => ?_) (fun h32_42 => ?_)
  · refine g_tsIn (pc := 32) (tgt := 1556) (42) C dL_law_32 (by rw [h32_42]; decide) (by decide) (by decide) rfl (by decide) ?_
    obtain ⟨Post1, ρ, Pc, hM1, hP1, h2⟩ := two_again hR 
    refine g_aload_n (pc := 1556) (i := 1) (j := 1) C dL_law_1556 rfl rfl ?_
    refine g_callV (pc := 1557) C dL_law_1557 lmL_189 kcX7_again (by decide) (by first | rfl | assumption) (hM1) rfl rfl (Nat.le_of_ble_eq_true rfl) ?_
    intro r9 sh9 I9 J9 hD9; obtain ⟨rfl, rfl, rfl, hPc⟩ := hP1 _ _ _ _ hD9; obtain ⟨Post2, hM2, hP2⟩ := h2 _ hPc
    try simp only [Option.toList_some, Option.toList_none, List.cons_append, List.nil_append]
    refine g_aload_n (pc := 1560) (i := 2) (j := 2) C dL_law_1560 rfl rfl ?_
    refine g_callV (pc := 1561) C dL_law_1561 lmL_192 kcX8_again (by decide) (by first | rfl | assumption) (hM2) rfl rfl (Nat.le_of_ble_eq_true rfl) ?_
    intro r8 sh8 I8 J8 hD8; obtain ⟨rfl, rfl, hR2⟩ := hP2 _ _ _ _ hD8
    try simp only [Option.toList_some, Option.toList_none, List.cons_append, List.nil_append]
    refine g_icmp_eq (pc := 1564) (tgt := 1569) C dL_law_1564 (by decide) (fun h1564 => ?_) (fun h1564 => absurd rfl h1564)
    exact hn9 _ _ hR2
  refine g_tsOut (pc := 32) (tgt := 1569) C dL_law_32 (by have q0 := lv_neT (a := 0) h32_0 (by decide); have q1 := lv_neT (a := 1) h32_1 (by decide); have q2 := lv_neT (a := 2) h32_2 (by decide); have q3 := lv_neT (a := 3) h32_3 (by decide); have q4 := lv_neT (a := 4) h32_4 (by decide); have q5 := lv_neT (a := 5) h32_5 (by decide); have q6 := lv_neT (a := 6) h32_6 (by decide); have q7 := lv_neT (a := 7) h32_7 (by decide); have q8 := lv_neT (a := 8) h32_8 (by decide); have q9 := lv_neT (a := 9) h32_9 (by decide); have q10 := lv_neT (a := 10) h32_10 (by decide); have q11 := lv_neT (a := 11) h32_11 (by decide); have q12 := lv_neT (a := 12) h32_12 (by decide); have q13 := lv_neT (a := 13) h32_13 (by decide); have q14 := lv_neT (a := 14) h32_14 (by decide); have q15 := lv_neT (a := 15) h32_15 (by decide); have q16 := lv_neT (a := 16) h32_16 (by decide); have q17 := lv_neT (a := 17) h32_17 (by decide); have q18 := lv_neT (a := 18) h32_18 (by decide); have q19 := lv_neT (a := 19) h32_19 (by decide); have q20 := lv_neT (a := 20) h32_20 (by decide); have q21 := lv_neT (a := 21) h32_21 (by decide); have q22 := lv_neT (a := 22) h32_22 (by decide); have q23 := lv_neT (a := 23) h32_23 (by decide); have q24 := lv_neT (a := 24) h32_24 (by decide); have q25 := lv_neT (a := 25) h32_25 (by decide); have q26 := lv_neT (a := 26) h32_26 (by decide); have q27 := lv_neT (a := 27) h32_27 (by decide); have q28 := lv_neT (a := 28) h32_28 (by decide); have q29 := lv_neT (a := 29) h32_29 (by decide); have q30 := lv_neT (a := 30) h32_30 (by decide); have q31 := lv_neT (a := 31) h32_31 (by decide); have q32 := lv_neT (a := 32) h32_32 (by decide); have q33 := lv_neT (a := 33) h32_33 (by decide); have q34 := lv_neT (a := 34) h32_34 (by decide); have q35 := lv_neT (a := 35) h32_35 (by decide); have q36 := lv_neT (a := 36) h32_36 (by decide); have q37 := lv_neT (a := 37) h32_37 (by decide); have q38 := lv_neT (a := 38) h32_38 (by decide); have q39 := lv_neT (a := 39) h32_39 (by decide); have q40 := lv_neT (a := 40) h32_40 (by decide); have q41 := lv_neT (a := 41) h32_41 (by decide); have q42 := lv_neT (a := 42) h32_42 (by decide); omega) (by decide) ?_
  exact hn9 _ _ hR
