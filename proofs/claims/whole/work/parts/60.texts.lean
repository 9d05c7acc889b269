/-! Texts: the JDK's length and charAt over the class's own words -/
theorem tx_len : ∀ i, i < 15 → pm_txl.getD i 0 = (pm_tx i).2.2.length := by decide +kernel
theorem tx_byt : ∀ i, i < 15 → pm_txb.getD i [] = (pm_tx i).2.2 := by decide +kernel
theorem tx_len_le : ∀ i, i < 15 → (pm_tx i).2.2.length ≤ 7 := by decide +kernel
theorem tx_chr : ∀ i, i < 15 → ∀ k, k < 8 → ((((pm_tx i).2.2.getD k 0) &&& 255).toUInt32 % 65536).toInt32 = (pm_tx i).2.2.getD k 0 := by decide +kernel
theorem tx_nar : ∀ i, i < 15 → ∀ k, k < 8 → narrow .char (.int ((pm_tx i).2.2.getD k 0)) = .int ((pm_tx i).2.2.getD k 0) := by decide +kernel
theorem tx_shr : ∀ i, i < 15 → nI (pm_tx i).2.2.length >>> ((0 : Int32) &&& 31) = nI (pm_tx i).2.2.length := by decide +kernel
/-- a link to a method of a text -/
def pm_lT (own : String) (idx : Nat) (y : MethodName) (nn : Nat) : Prop := (y.cls = "java/lang/String" ∧ y.cls ≠ "java/lang/invoke/MethodHandle" ∧ y.cls ≠ "java/lang/invoke/VarHandle" ∧ (parseMethodDescriptor y.desc).map (fun d => d.parameters.length) = some nn) ∧ Cond.methodLink own idx y ∈ pm_tbl ∧ Cond.instanceMethod y ∈ pm_tbl ∧ Cond.selects "java/lang/String" y y ∈ pm_tbl ∧ Cond.initialized "java/lang/String" ∈ pm_tbl
theorem lmX4_136 : pm_lT RX4 136 yJ0_length_8abf5 0 := ⟨⟨rfl, by decide, by decide, by decide +kernel⟩, pm_in 378 (by decide +kernel) rfl, pm_in 379 (by decide +kernel) rfl, pm_in 380 (by decide +kernel) rfl, pm_in 91 (by decide +kernel) rfl⟩
theorem lmX4_141 : pm_lT RX4 141 yJ0_charAt_5068e 1 := ⟨⟨rfl, by decide, by decide, by decide +kernel⟩, pm_in 388 (by decide +kernel) rfl, pm_in 389 (by decide +kernel) rfl, pm_in 390 (by decide +kernel) rfl, pm_in 91 (by decide +kernel) rfl⟩
theorem lmJ0_335 : pm_lT RJ0 335 yJ0_coder_7d493 0 := ⟨⟨rfl, by decide, by decide, by decide +kernel⟩, pm_in 382 (by decide +kernel) rfl, pm_in 383 (by decide +kernel) rfl, pm_in 384 (by decide +kernel) rfl, pm_in 91 (by decide +kernel) rfl⟩
theorem lmJ0_492 : pm_lT RJ0 492 yJ0_isLatin1_aae02 0 := ⟨⟨rfl, by decide, by decide, by decide +kernel⟩, pm_in 392 (by decide +kernel) rfl, pm_in 393 (by decide +kernel) rfl, pm_in 394 (by decide +kernel) rfl, pm_in 91 (by decide +kernel) rfl⟩
section TXR
variable {Γ : pm_T} {own : String} {cc : ByteArray} {d n cells slots pc : Nat} {L : List (Nat × Value)} {st : List Value} {sh : List pm_S} {I : pm_I} {J : pm_J}
theorem g_txV {i : Nat} (C : pm_Cx Γ RJ0 cc d n) (hd : decode cc pc = .ok (.getfield 9, 3)) (hi : i < 15) (k : pm_G Γ cells slots (pc + 3) L (.ref (1000 + (30 + i)) :: st) sh I J) : pm_G Γ cells slots pc L (.ref (1000 + (10 + i)) :: st) sh I J := by
  obtain ⟨p, l, e, R, s, m, args, below, meth, c, Q, u, nL⟩ := Γ
  obtain ⟨hx, hb, hml, rfl, hown, hts, hlk, hK, hfr, hlo, hB⟩ := C
  intro H locs ls hW hS hl hc hs
  have h1 := pm_ad_hi u (10 + i)
  have h2 := pm_ad_hi u (30 + i)
  show W p l e R s m args below meth c H locs cells slots Q (F0 m pc ls (.ref (pm_ad u (1000 + (10 + i))) :: st.map (pm_tr u)))
  rw [h1]
  refine vk_getf hx hb (hK.2.2.2.1.1 i hi).2.2.1 hS hown (hts _ lsJ0_9) (fun _ h9 => h9) hd ?_
  show W p l e R s m args below meth c H locs cells slots Q (F0 m (pc + 3) ls (.ref (u.2.1 (30 + i)) :: st.map (pm_tr u)))
  rw [← h2]
  exact k H locs ls hW hS hl hc hs
theorem g_txC {i : Nat} (C : pm_Cx Γ RJ0 cc d n) (hd : decode cc pc = .ok (.getfield 15, 3)) (hi : i < 15) (k : pm_G Γ cells slots (pc + 3) L (.int 0 :: st) sh I J) : pm_G Γ cells slots pc L (.ref (1000 + (10 + i)) :: st) sh I J := by
  obtain ⟨p, l, e, R, s, m, args, below, meth, c, Q, u, nL⟩ := Γ
  obtain ⟨hx, hb, hml, rfl, hown, hts, hlk, hK, hfr, hlo, hB⟩ := C
  intro H locs ls hW hS hl hc hs
  have h1 := pm_ad_hi u (10 + i)
  show W p l e R s m args below meth c H locs cells slots Q (F0 m pc ls (.ref (pm_ad u (1000 + (10 + i))) :: st.map (pm_tr u)))
  rw [h1]
  exact vk_getf hx hb (hK.2.2.2.1.1 i hi).2.1 hS hown (hts _ lsJ0_15) (fun _ h9 => h9) hd (k H locs ls hW hS hl hc hs)
theorem g_txL {i : Nat} (C : pm_Cx Γ own cc d n) (hd : decode cc pc = .ok (.arraylength, 1)) (hi : i < 15) (k : pm_G Γ cells slots (pc + 1) L (.int (nI (pm_tx i).2.2.length) :: st) sh I J) : pm_G Γ cells slots pc L (.ref (1000 + (30 + i)) :: st) sh I J := by
  obtain ⟨p, l, e, R, s, m, args, below, meth, c, Q, u, nL⟩ := Γ
  obtain ⟨hx, hb, hml, rfl, hown, hts, hlk, hK, hfr, hlo, hB⟩ := C
  intro H locs ls hW hS hl hc hs
  have h1 := pm_ad_hi u (30 + i)
  show W p l e R s m args below meth c H locs cells slots Q (F0 m pc ls (.ref (pm_ad u (1000 + (30 + i))) :: st.map (pm_tr u)))
  rw [h1]
  exact va_tlen hx hb (hK.2.2.2.1.1 i hi).2.2.2 hS (by rw [tx_len i hi]; rfl) hd (k H locs ls hW hS hl hc hs)
theorem g_txB {i z : Nat} {x : Int32} (C : pm_Cx Γ own cc d n) (hd : decode cc pc = .ok (.baload, 1)) (hi : i < 15) (hx0 : x = nI z) (hz : z < (pm_tx i).2.2.length) (k : pm_G Γ cells slots (pc + 1) L (.int ((pm_tx i).2.2.getD z 0) :: st) sh I J) : pm_G Γ cells slots pc L (.int x :: .ref (1000 + (30 + i)) :: st) sh I J := by
  obtain ⟨p, l, e, R, s, m, args, below, meth, c, Q, u, nL⟩ := Γ
  obtain ⟨hx, hb, hml, rfl, hown, hts, hlk, hK, hfr, hlo, hB⟩ := C
  intro H locs ls hW hS hl hc hs
  have h1 := pm_ad_hi u (30 + i)
  have h7 := tx_len_le i hi
  obtain ⟨c1, c2⟩ := pm_clamp hx0 hz (by omega)
  show W p l e R s m args below meth c H locs cells slots Q (F0 m pc ls (.int x :: .ref (pm_ad u (1000 + (30 + i))) :: st.map (pm_tr u)))
  rw [h1]
  exact va_tb hx hb (hK.2.2.2.1.1 i hi).2.2.2 hS (by rw [tx_len i hi]; exact c2) (by rw [c1, tx_byt i hi]; rfl) hd (k H locs ls hW hS hl hc hs)
theorem g_getsCS (C : pm_Cx Γ RJ0 cc d n) (hd : decode cc pc = .ok (.getstatic 38, 3)) (k : pm_G Γ cells slots (pc + 3) L (.int 1 :: st) sh I J) : pm_G Γ cells slots pc L st sh I J := by
  obtain ⟨p, l, e, R, s, m, args, below, meth, c, Q, u, nL⟩ := Γ
  obtain ⟨hx, hb, hml, rfl, hown, hts, hlk, hK, hfr, hlo, hB⟩ := C
  intro H locs ls hW hS hl hc hs
  exact va_gets hx hb hK.2.2.2.2.1 hS hown (hts _ lsJ0_38) (fun _ h9 => h9) hd (k H locs ls hW hS hl hc hs)
theorem g_callT {y : MethodName} {bytes : ByteArray} {maxL : Nat} {ret : Option FieldType} {av rest : List Value} {Post : Option Value → List pm_S → pm_I → pm_J → Prop} {idx i nn : Nat} (C : pm_Cx Γ own cc (d + 1) n) (hd : decode cc pc = .ok (.invokevirtual idx, 3)) (K : pm_lT own idx y nn) (hcode : Cond.code y bytes maxL ret ∈ pm_tbl) (hmx : maxL ≤ 17) (hi : i < 15) (hM : pm_M d 0 0 y bytes maxL ret (.ref (1000 + (10 + i)) :: av) sh I J Post) (hst : st = av.reverse ++ .ref (1000 + (10 + i)) :: rest) (hn : av.length = nn) (hcat : (rest.map fun v => v.category).sum ≤ 8)
    (k : ∀ (r : Option Value) (sh' : List pm_S) (I' : pm_I) (J' : pm_J), Post r sh' I' J' → pm_G Γ cells slots (pc + 3) L (r.toList ++ rest) sh' I' J') : pm_G Γ cells slots pc L st sh I J := by
  obtain ⟨p, l, e, R, s, m, args, below, meth, c, Q, u, nL⟩ := Γ
  obtain ⟨hx, hb, hml, rfl, hown, hts, hlk, hK, hfr, hlo, hB⟩ := C
  intro H locs ls hW hS hl hc hs
  obtain ⟨k2, k3, k4, k5, k6⟩ := K
  have hcw : CallW R s args own "java/lang/String" idx y bytes maxL ret (.code y bytes maxL ret :: pm_tbl) (pm_rm d 0 0) 0 0 nn := cwV nn hts (pm_goods (fun w hw => by
    rcases List.mem_append.mp hw with h | h
    · simp only [List.mem_cons, List.not_mem_nil, or_false] at h
      rcases h with rfl | rfl | rfl | rfl
      · exact k3
      · exact k4
      · exact k5
      · exact k6
    · rcases List.mem_cons.mp h with rfl | h
      · exact hcode
      · exact h)) rfl rfl rfl k2 ⟨hfr, by show 8 + (maxL + 11) + 36 * d ≤ R.locals; omega⟩
  subst hst
  refine pm_run (va_runV (As := av.map (pm_tr u)) (rest := rest.map (pm_tr u)) (b := pm_ad u (1000 + (10 + i))) ⟨hx, hb, hml, hown, hts⟩ (hM l u) hcw ⟨fun a U g mk q => ⟨q.1, q.2.1, pm_K.same rfl q.2.2⟩, by rw [pm_ad_hi]; exact vk_recv (i := i) hK.2.2.2.1 hi hS, fun U hU hWm => ⟨rfl, by rw [hU]; exact hW, by rw [hU]; exact pm_K.go hWm hS.2.1 hK⟩⟩ rfl (by rw [List.length_map]; exact hn) hl.1 (by simp [pm_tr]) (lv_room (by rw [List.map_map]; simpa only [Function.comp_def, pm_tr_cat] using hcat)) hd ⟨hc, hs⟩) hS (fun r sh' I' J' H1 locs1 hp hw hs1 => ?_)
  have h := k r sh' I' J' hp H1 locs1 ls hw hs1 hl hc hs
  rw [List.map_append] at h
  cases r <;> exact h
end TXR

set_option maxHeartbeats 4000000 in
set_option maxRecDepth 100000 in
theorem c_J3_ckN {d : Nat} {I : pm_I} {J : pm_J} {k N : Nat} (hk : k < N) (hN : N ≤ 100) : pm_M d 0 0 yJ3_checkIndex_8e157 cJ3_checkIndex_8e157 3 (some .int) [.int (nI k), .int (nI N), .null] SHP I J (pm_D (some (.int (nI k))) SHP I J) := by
  refine pm_start (own := RJ3) (nm := "checkIndex") (by decide) rfl rfl (L := [(0, .int (nI k)), (1, .int (nI N)), (2, .null)]) rfl (Nat.le_of_ble_eq_true rfl) (fun Γ C C2 => ?_)
  refine g_iload_n (pc := 0) (i := 0) (j := 0) C dJ3_checkIndex_8e157_0 rfl rfl ?_
  refine g_if_lt (pc := 1) (tgt := 9) C dJ3_checkIndex_8e157_1 (by decide) (fun h1 => absurd h1 (nI_pos (by omega))) (fun h1 => ?_)
  refine g_iload_n (pc := 4) (i := 0) (j := 0) C dJ3_checkIndex_8e157_4 rfl rfl ?_
  refine g_iload_n (pc := 5) (i := 1) (j := 1) C dJ3_checkIndex_8e157_5 rfl rfl ?_
  refine g_icmp_lt (pc := 6) (tgt := 16) C dJ3_checkIndex_8e157_6 (by decide) (fun h6 => ?_) (fun h6 => absurd (nI_lt hk (by omega)) h6)
  refine g_iload_n (pc := 16) (i := 0) (j := 0) C dJ3_checkIndex_8e157_16 rfl rfl ?_
  refine g_iret (pc := 17) C C2 dJ3_checkIndex_8e157_17 rfl (Nat.le_refl _) (Nat.le_refl _) ?_
  exact ⟨rfl, rfl, rfl, rfl⟩

set_option maxHeartbeats 4000000 in
set_option maxRecDepth 100000 in
theorem c_J3_ckR {d : Nat} {I : pm_I} {J : pm_J} {k N : Nat} {q : Nat} (hk : k < N) (hN : N ≤ 100) : pm_M d 0 0 yJ3_checkIndex_8e157 cJ3_checkIndex_8e157 3 (some .int) [.int (nI k), .int (nI N), .ref q] SHP I J (pm_D (some (.int (nI k))) SHP I J) := by
  refine pm_start (own := RJ3) (nm := "checkIndex") (by decide) rfl rfl (L := [(0, .int (nI k)), (1, .int (nI N)), (2, .ref q)]) rfl (Nat.le_of_ble_eq_true rfl) (fun Γ C C2 => ?_)
  refine g_iload_n (pc := 0) (i := 0) (j := 0) C dJ3_checkIndex_8e157_0 rfl rfl ?_
  refine g_if_lt (pc := 1) (tgt := 9) C dJ3_checkIndex_8e157_1 (by decide) (fun h1 => absurd h1 (nI_pos (by omega))) (fun h1 => ?_)
  refine g_iload_n (pc := 4) (i := 0) (j := 0) C dJ3_checkIndex_8e157_4 rfl rfl ?_
  refine g_iload_n (pc := 5) (i := 1) (j := 1) C dJ3_checkIndex_8e157_5 rfl rfl ?_
  refine g_icmp_lt (pc := 6) (tgt := 16) C dJ3_checkIndex_8e157_6 (by decide) (fun h6 => ?_) (fun h6 => absurd (nI_lt hk (by omega)) h6)
  refine g_iload_n (pc := 16) (i := 0) (j := 0) C dJ3_checkIndex_8e157_16 rfl rfl ?_
  refine g_iret (pc := 17) C C2 dJ3_checkIndex_8e157_17 rfl (Nat.le_refl _) (Nat.le_refl _) ?_
  exact ⟨rfl, rfl, rfl, rfl⟩

/-- no place from 1000 on -/
def pm_lo (d : pm_S) : Bool := match d with
  | .inl _ => true
  | .inr (.inl q) => q.2.all (fun o => match o with
    | none => true
    | some r => decide (r < 1000))
  | .inr (.inr q) => q.2.all (fun f => match f with
    | .inr (some r) => decide (r < 1000)
    | _ => true)
theorem SHP_lo : SHP.all pm_lo = true := by decide +kernel
theorem pm_ad_u {u u2 : pm_U} {k : Nat} (h1 : u2.1 = u.1) (hk : k < 1000) : pm_ad u2 k = pm_ad u k := by
  rw [pm_ad_lo hk, pm_ad_lo hk, h1]
theorem pm_ws_u {u u2 : pm_U} {sh : List pm_S} {I : pm_I} {J : pm_J} (h1 : u2.1 = u.1) (h2 : u2.2.2.2 = u.2.2.2) (hl : sh.length ≤ 1000) (hs : sh.all pm_lo = true) : pm_ws u2 sh I J = pm_ws u sh I J := by
  unfold pm_ws
  apply List.map_congr_left
  intro x hx
  obtain ⟨d, k⟩ := x
  have hk := List.mem_zipIdx hx
  have hm : d ∈ sh := List.fst_mem_of_mem_zipIdx hx
  have hd := List.all_eq_true.mp hs d hm
  have e1 : pm_ad u2 k = pm_ad u k := pm_ad_u h1 (by omega)
  show (pm_ad u2 k, pm_ce u2 I J k d) = (pm_ad u k, pm_ce u I J k d)
  rw [e1]
  congr 1
  rcases d with q | q | q
  · show (Sum.inl (u2.2.2.2 q.1, _) : va_E) = _
    rw [h2]
    rfl
  · have hq : ∀ o ∈ q.2, o.map (pm_ad u2) = o.map (pm_ad u) := by
      intro o ho
      have h3 := List.all_eq_true.mp hd o ho
      cases o with
      | none => rfl
      | some r => exact congrArg some (pm_ad_u h1 (of_decide_eq_true h3))
    have hf : (fun j : Nat => ((q.2)[j]?).bind (fun o => o.map (pm_ad u2))) = (fun j : Nat => ((q.2)[j]?).bind (fun o => o.map (pm_ad u))) := by
      funext j
      cases e : (q.2)[j]? with
      | none => rfl
      | some o => exact hq o (List.mem_of_getElem? e)
    show (Sum.inl (u2.2.2.2 q.1, q.2.length, .inr (.inr (.inr (.inr (fun j : Nat => ((q.2)[j]?).bind (fun o => o.map (pm_ad u2))))))) : va_E) = Sum.inl (u.2.2.2 q.1, q.2.length, .inr (.inr (.inr (.inr (fun j : Nat => ((q.2)[j]?).bind (fun o => o.map (pm_ad u)))))))
    rw [h2, hf]
  · show (Sum.inr (q.1, q.2.zipIdx.map (fun x => pm_fv u2 I J k x.2 x.1)) : va_E) = Sum.inr (q.1, q.2.zipIdx.map (fun x => pm_fv u I J k x.2 x.1))
    congr 2
    apply List.map_congr_left
    intro y hy
    obtain ⟨f, j⟩ := y
    have h3 := List.all_eq_true.mp hd f (List.fst_mem_of_mem_zipIdx hy)
    rcases f with a | a
    · cases a <;> rfl
    · cases a with
      | none => rfl
      | some r => exact congrArg Value.ref (pm_ad_u h1 (of_decide_eq_true h3))

set_option maxRecDepth 100000 in
theorem g_ckIdx {Γ : pm_T} {cc : ByteArray} {d n cells slots pc k N : Nat} {L : List (Nat × Value)} {st : List Value} {I : pm_I} {J : pm_J} (C : pm_Cx Γ RJ0 cc (d + 1) n) (hd1 : decode cc pc = .ok (.getstatic 1053, 3)) (hd2 : decode cc (pc + 3) = .ok (.invokestatic 1059, 3)) (hk : k < N) (hN : N ≤ 100) (hcat : (st.map fun v => v.category).sum ≤ 8) (kk : pm_G Γ cells slots (pc + 3 + 3) L (.int (nI k) :: st) SHP I J) : pm_G Γ cells slots pc L (.int (nI N) :: .int (nI k) :: st) SHP I J := by
  obtain ⟨p, l, e, R, s, m, args, below, meth, c, Q, u, nL⟩ := Γ
  obtain ⟨hx, hb, hml, rfl, hown, hts, hlk, hK, hfr, hlo, hB⟩ := C
  intro H locs ls hW hS hl hc hs
  obtain ⟨k2, k3, k4, k6⟩ := lmJ0_1059
  have key : ∀ (u2 : pm_U) (X : Value), X.category = 1 → pm_M d 0 0 yJ3_checkIndex_8e157 cJ3_checkIndex_8e157 3 (some .int) [.int (nI k), .int (nI N), X] SHP I J (pm_D (some (.int (nI k))) SHP I J) → u2.1 = u.1 → u2.2.2.1 = u.2.2.1 → pm_ws u2 SHP I J = pm_ws u SHP I J → pm_K u2 s s.heap → W p l e R s m args below meth c H locs cells slots Q (F0 m (pc + 3) ls (pm_tr u2 X :: .int (nI N) :: .int (nI k) :: st.map (pm_tr u))) := by
    intro u2 X hX hM e1 e3 e2 hK2
    have hA2 : pm_A u2 = pm_A u := by unfold pm_A; rw [e1]
    have hW2 : ∀ H1, pm_Wd u2 SHP I J H1 ↔ pm_Wd u SHP I J H1 := fun H1 => by unfold pm_Wd; rw [e1, e2, e3]
    have hS2 : va_S (pm_A u2) s.heap H locs := by rw [hA2]; exact hS
    have hcw := callB_of (R := R) (s := s) (args := args) (own := RJ0) (index := 1059) (y := yJ3_checkIndex_8e157) (bytes := cJ3_checkIndex_8e157) (maxL := 3) (ret := some .int) (rm := pm_rm d 0 0) (mc := 0) (ms := 0) 3 hts (pm_goodIn kcJ3_checkIndex_8e157) rfl rfl rfl (hts _ k6) (hts _ k3) k2 ⟨hfr, by show 8 + (3 + 11) + 36 * d ≤ R.locals; omega⟩
    refine pm_run (u := u2) (va_runS (As := [Value.int (nI k), .int (nI N), X].map (pm_tr u2)) (rest := st.map (pm_tr u)) ⟨hx, hb, hml, hown, hts⟩ (hM l u2) ⟨hcw, hts _ k4⟩ ⟨fun a U g mk q => ⟨q.1, q.2.1, pm_K.same rfl q.2.2⟩, fun U hU hWm => ⟨rfl, by rw [hU]; exact (hW2 H).mpr hW, by rw [hU]; exact pm_K.go hWm hS2.2.1 hK2⟩⟩ rfl rfl hl.1 (by simp [pm_tr]) (lv_room (by rw [List.map_map]; simpa only [Function.comp_def, pm_tr_cat] using hcat)) hd2 ⟨hc, hs⟩) hS2 (fun r sh' I' J' H1 locs1 hp hw hs1 => ?_)
    obtain ⟨rfl, rfl, rfl, rfl⟩ := hp
    exact kk H1 locs1 ls ((hW2 H1).mp hw) (by rw [← hA2]; exact hs1) hl hc hs
  rcases hK.2.2.2.2.2.1 with hZ | ⟨t, hZ⟩
  · exact va_gets (v := .null) hx hb hZ hS hown (hts _ lsJ0_1053) (fun _ h9 => h9) hd1 (key u .null rfl (c_J3_ckN hk hN) rfl rfl rfl hK)
  · refine va_gets (v := .ref t) hx hb hZ hS hown (hts _ lsJ0_1053) (fun _ h9 => h9) hd1 ?_
    have hK2 : pm_K (u.1, (fun j => if j = 100 then t else u.2.1 j), u.2.2.1, u.2.2.2) s s.heap := by
      obtain ⟨h1, h2, h3, h4, h5, h6, h7, h8, h9⟩ := hK
      refine ⟨h1, fun j hj => ?_, fun i hi => ?_, ?_, h5, h6, h7, h8, h9⟩
      · show va_Z RX7 (pm_tn j) "[I" (.ref (if j = 100 then t else u.2.1 j)) (pm_A u) s s.heap ∧ va_T .int (if j = 100 then t else u.2.1 j) _ _ (pm_A u) s s.heap
        rw [if_neg (by omega)]
        exact h2 j hj
      · show vk_R RX4 (pm_tx i).1 (pm_tx i).2.1 (if 10 + i = 100 then t else u.2.1 (10 + i)) s
        rw [if_neg (by omega)]
        exact h3 i hi
      · refine ⟨fun i hi => ?_, fun i j hi hj e => ?_⟩
        · show va_O "java/lang/String" (if 10 + i = 100 then t else u.2.1 (10 + i)) (pm_A u) s s.heap ∧ va_OF "java/lang/String" "coder" "B" (.int 0) (if 10 + i = 100 then t else u.2.1 (10 + i)) (pm_A u) s s.heap ∧ va_OF "java/lang/String" "value" "[B" (.ref (if 30 + i = 100 then t else u.2.1 (30 + i))) (if 10 + i = 100 then t else u.2.1 (10 + i)) (pm_A u) s s.heap ∧ va_T .byte (if 30 + i = 100 then t else u.2.1 (30 + i)) _ _ (pm_A u) s s.heap
          rw [if_neg (by omega), if_neg (by omega)]
          exact h4.1 i hi
        · have e2 : (if 10 + i = 100 then t else u.2.1 (10 + i)) = (if 10 + j = 100 then t else u.2.1 (10 + j)) := e
          rw [if_neg (by omega), if_neg (by omega)] at e2
          exact h4.2 i j hi hj e2
    have h := key (u.1, (fun j => if j = 100 then t else u.2.1 j), u.2.2.1, u.2.2.2) (.ref 1100) rfl (c_J3_ckR hk hN) rfl rfl (pm_ws_u rfl rfl (by decide) SHP_lo) hK2
    exact h

set_option maxHeartbeats 4000000 in
set_option maxRecDepth 100000 in
theorem c_J0_checkIndex_df160 {d : Nat} {I : pm_I} {J : pm_J} {k N : Nat} (hk : k < N) (hN : N ≤ 100) : pm_M (d + 1) 0 0 yJ0_checkIndex_df160 cJ0_checkIndex_df160 2 (none : Option Jvm.ClassFile.FieldType) [.int (nI k), .int (nI N)] SHP I J (pm_D none SHP I J) := by
  refine pm_start (own := RJ0) (nm := "checkIndex") (by decide) rfl rfl (L := [(0, .int (nI k)), (1, .int (nI N))]) rfl (Nat.le_of_ble_eq_true rfl) (fun Γ C C2 => ?_)
  refine g_iload_n (pc := 0) (i := 0) (j := 0) C dJ0_checkIndex_df160_0 rfl rfl ?_
  refine g_iload_n (pc := 1) (i := 1) (j := 1) C dJ0_checkIndex_df160_1 rfl rfl ?_
  refine g_ckIdx (pc := 2) C dJ0_checkIndex_df160_2 dJ0_checkIndex_df160_5 hk hN (by decide) ?_
  refine g_pop (pc := 8) C dJ0_checkIndex_df160_8 rfl ?_
  refine g_vret (pc := 9) C C2 dJ0_checkIndex_df160_9 (Nat.le_refl _) (Nat.le_refl _) ?_
  exact ⟨rfl, rfl, rfl, rfl⟩

set_option maxHeartbeats 4000000 in
set_option maxRecDepth 100000 in
theorem c_J1_charAt_3b067 {d : Nat} {i : Nat} (hi : i < 15) {k : Nat} (hk : k < (pm_tx i).2.2.length) {I : pm_I} {J : pm_J} : pm_M (d + 2) 0 0 yJ1_charAt_3b067 cJ1_charAt_3b067 2 (some .char) [.ref (1000 + (30 + i)), .int (nI k)] SHP I J (pm_D (some (.int (((pm_tx i).2.2.getD k 0)))) SHP I J) := by
  refine pm_start (own := RJ1) (nm := "charAt") (by decide) rfl rfl (L := [(0, .ref (1000 + (30 + i))), (1, .int (nI k))]) rfl (Nat.le_of_ble_eq_true rfl) (fun Γ C C2 => ?_)
  have h7 := tx_len_le i hi
  refine g_iload_n (pc := 0) (i := 1) (j := 1) C dJ1_charAt_3b067_0 rfl rfl ?_
  refine g_aload_n (pc := 1) (i := 0) (j := 0) C dJ1_charAt_3b067_1 rfl rfl ?_
  refine g_txL (pc := 2) C dJ1_charAt_3b067_2 hi ?_
  refine g_callS (pc := 3) C dJ1_charAt_3b067_3 lmJ1_9 kcJ0_checkIndex_df160 (by decide) (c_J0_checkIndex_df160 hk (by omega)) rfl rfl (Nat.le_of_ble_eq_true rfl) ?_
  intro r9 sh9 I9 J9 hD9; obtain ⟨rfl, rfl, rfl, rfl⟩ := pm_Dq hD9; clear hD9
  try simp only [Option.toList_some, Option.toList_none, List.cons_append, List.nil_append]
  refine g_aload_n (pc := 6) (i := 0) (j := 0) C dJ1_charAt_3b067_6 rfl rfl ?_
  refine g_iload_n (pc := 7) (i := 1) (j := 1) C dJ1_charAt_3b067_7 rfl rfl ?_
  refine g_txB (pc := 8) C dJ1_charAt_3b067_8 hi rfl hk ?_
  refine g_sipush (pc := 9) (v := 255) C dJ1_charAt_3b067_9 (by decide) ?_
  refine g_iand (pc := 12) C dJ1_charAt_3b067_12 ?_
  refine g_i2c (pc := 13) C dJ1_charAt_3b067_13 ?_
  rw [tx_chr i hi k (by omega)]
  refine g_iret (pc := 14) C C2 dJ1_charAt_3b067_14 (tx_nar i hi k (by omega)) (Nat.le_refl _) (Nat.le_refl _) ?_
  exact ⟨rfl, rfl, rfl, rfl⟩

set_option maxHeartbeats 4000000 in
set_option maxRecDepth 100000 in
theorem c_J0_coder_7d493 {d : Nat} {i : Nat} (hi : i < 15) {I : pm_I} {J : pm_J} : pm_M d 0 0 yJ0_coder_7d493 cJ0_coder_7d493 1 (some .byte) [.ref (1000 + (10 + i))] SHP I J (pm_D (some (.int (0))) SHP I J) := by
  refine pm_start (own := RJ0) (nm := "coder") (by decide) rfl rfl (L := [(0, .ref (1000 + (10 + i)))]) rfl (Nat.le_of_ble_eq_true rfl) (fun Γ C C2 => ?_)
  refine g_getsCS (pc := 0) C dJ0_coder_7d493_0 ?_
  refine g_if_eq (pc := 3) (tgt := 13) C dJ0_coder_7d493_3 (by decide) (fun h3 => absurd h3 (by decide)) (fun h3 => ?_)
  refine g_aload_n (pc := 6) (i := 0) (j := 0) C dJ0_coder_7d493_6 rfl rfl ?_
  refine g_txC (pc := 7) C dJ0_coder_7d493_7 hi ?_
  refine g_goto (pc := 10) (tgt := 14) C dJ0_coder_7d493_10 (by decide) ?_
  refine g_iret (pc := 14) C C2 dJ0_coder_7d493_14 (by first | rfl | exact pm_nz) (Nat.le_refl _) (Nat.le_refl _) ?_
  exact ⟨rfl, rfl, rfl, rfl⟩

set_option maxHeartbeats 4000000 in
set_option maxRecDepth 100000 in
theorem c_J0_isLatin1_aae02 {d : Nat} {i : Nat} (hi : i < 15) {I : pm_I} {J : pm_J} : pm_M d 0 0 yJ0_isLatin1_aae02 cJ0_isLatin1_aae02 1 (some .boolean) [.ref (1000 + (10 + i))] SHP I J (pm_D (some (.int (1))) SHP I J) := by
  refine pm_start (own := RJ0) (nm := "isLatin1") (by decide) rfl rfl (L := [(0, .ref (1000 + (10 + i)))]) rfl (Nat.le_of_ble_eq_true rfl) (fun Γ C C2 => ?_)
  refine g_getsCS (pc := 0) C dJ0_isLatin1_aae02_0 ?_
  refine g_if_eq (pc := 3) (tgt := 17) C dJ0_isLatin1_aae02_3 (by decide) (fun h3 => absurd h3 (by decide)) (fun h3 => ?_)
  refine g_aload_n (pc := 6) (i := 0) (j := 0) C dJ0_isLatin1_aae02_6 rfl rfl ?_
  refine g_txC (pc := 7) C dJ0_isLatin1_aae02_7 hi ?_
  refine g_if_ne (pc := 10) (tgt := 17) C dJ0_isLatin1_aae02_10 (by decide) (fun h10 => absurd h10 (by decide)) (fun h10 => ?_)
  refine g_iconst (pc := 13) (v := 1) C dJ0_isLatin1_aae02_13 (by decide) ?_
  refine g_goto (pc := 14) (tgt := 18) C dJ0_isLatin1_aae02_14 (by decide) ?_
  refine g_iret (pc := 18) C C2 dJ0_isLatin1_aae02_18 (by first | rfl | exact pm_nz) (Nat.le_refl _) (Nat.le_refl _) ?_
  exact ⟨rfl, rfl, rfl, rfl⟩

set_option maxHeartbeats 4000000 in
set_option maxRecDepth 100000 in
theorem c_J0_length_8abf5 {d : Nat} {i : Nat} (hi : i < 15) {I : pm_I} {J : pm_J} : pm_M (d + 1) 0 0 yJ0_length_8abf5 cJ0_length_8abf5 1 (some .int) [.ref (1000 + (10 + i))] SHP I J (pm_D (some (.int (nI (pm_tx i).2.2.length))) SHP I J) := by
  refine pm_start (own := RJ0) (nm := "length") (by decide) rfl rfl (L := [(0, .ref (1000 + (10 + i)))]) rfl (Nat.le_of_ble_eq_true rfl) (fun Γ C C2 => ?_)
  refine g_aload_n (pc := 0) (i := 0) (j := 0) C dJ0_length_8abf5_0 rfl rfl ?_
  refine g_txV (pc := 1) C dJ0_length_8abf5_1 hi ?_
  refine g_txL (pc := 4) C dJ0_length_8abf5_4 hi ?_
  refine g_aload_n (pc := 5) (i := 0) (j := 0) C dJ0_length_8abf5_5 rfl rfl ?_
  refine g_callT (pc := 6) C dJ0_length_8abf5_6 lmJ0_335 kcJ0_coder_7d493 (by decide) hi (c_J0_coder_7d493 hi) rfl rfl (Nat.le_of_ble_eq_true rfl) ?_
  intro r9 sh9 I9 J9 hD9; obtain ⟨rfl, rfl, rfl, rfl⟩ := pm_Dq hD9; clear hD9
  try simp only [Option.toList_some, Option.toList_none, List.cons_append, List.nil_append]
  refine g_ishr (pc := 9) C dJ0_length_8abf5_9 ?_
  refine g_iret (pc := 10) C C2 dJ0_length_8abf5_10 rfl (Nat.le_refl _) (Nat.le_refl _) ?_
  refine ⟨?_, rfl, rfl, rfl⟩
  rw [tx_shr i hi]

set_option maxHeartbeats 4000000 in
set_option maxRecDepth 100000 in
theorem c_J0_charAt_5068e {d : Nat} {i : Nat} (hi : i < 15) {k : Nat} (hk : k < (pm_tx i).2.2.length) {I : pm_I} {J : pm_J} : pm_M (d + 3) 0 0 yJ0_charAt_5068e cJ0_charAt_5068e 2 (some .char) [.ref (1000 + (10 + i)), .int (nI k)] SHP I J (pm_D (some (.int (((pm_tx i).2.2.getD k 0)))) SHP I J) := by
  refine pm_start (own := RJ0) (nm := "charAt") (by decide) rfl rfl (L := [(0, .ref (1000 + (10 + i))), (1, .int (nI k))]) rfl (Nat.le_of_ble_eq_true rfl) (fun Γ C C2 => ?_)
  refine g_aload_n (pc := 0) (i := 0) (j := 0) C dJ0_charAt_5068e_0 rfl rfl ?_
  refine g_callT (pc := 1) C dJ0_charAt_5068e_1 lmJ0_492 kcJ0_isLatin1_aae02 (by decide) hi (c_J0_isLatin1_aae02 hi) rfl rfl (Nat.le_of_ble_eq_true rfl) ?_
  intro r9 sh9 I9 J9 hD9; obtain ⟨rfl, rfl, rfl, rfl⟩ := pm_Dq hD9; clear hD9
  try simp only [Option.toList_some, Option.toList_none, List.cons_append, List.nil_append]
  refine g_if_eq (pc := 4) (tgt := 16) C dJ0_charAt_5068e_4 (by decide) (fun h4 => absurd h4 (by decide)) (fun h4 => ?_)
  refine g_aload_n (pc := 7) (i := 0) (j := 0) C dJ0_charAt_5068e_7 rfl rfl ?_
  refine g_txV (pc := 8) C dJ0_charAt_5068e_8 hi ?_
  refine g_iload_n (pc := 11) (i := 1) (j := 1) C dJ0_charAt_5068e_11 rfl rfl ?_
  refine g_callS (pc := 12) C dJ0_charAt_5068e_12 lmJ0_495 kcJ1_charAt_3b067 (by decide) (c_J1_charAt_3b067 hi hk) rfl rfl (Nat.le_of_ble_eq_true rfl) ?_
  intro r9 sh9 I9 J9 hD9; obtain ⟨rfl, rfl, rfl, rfl⟩ := pm_Dq hD9; clear hD9
  try simp only [Option.toList_some, Option.toList_none, List.cons_append, List.nil_append]
  refine g_iret (pc := 15) C C2 dJ0_charAt_5068e_15 (tx_nar i hi k (by have := tx_len_le i hi; omega)) (Nat.le_refl _) (Nat.le_refl _) ?_
  exact ⟨rfl, rfl, rfl, rfl⟩
