/-! Calls and ends -/
section PMC
variable {p : Program} {l : Launch} {e : Env} {R : Room} {s : State} {m : MethodId} {args : Array Value} {below : List Frame} {meth : Method} {c : Code} {H : Heap} {locs : List Loc} {cells slots : Nat} {Q : State → Prop} {pc : Nat} {ls : Array Slot} {rest st0 : List Value} {u : pm_U}
theorem pm_run {mc ms : Nat} {a : Array Value} {Post : Option Value → List pm_S → pm_I → pm_J → Prop} (hr : va_Run p l e R s m args below meth c H locs cells slots mc ms (F0 m pc ls st0) rest (pm_Qc u Post a) (pm_A u)) (hS : va_S (pm_A u) s.heap H locs)
    (kk : ∀ (r : Option Value) (sh' : List pm_S) (I' : pm_I) (J' : pm_J) (H1 : Heap) (locs1 : List Loc), Post r sh' I' J' → pm_Wd u sh' I' J' H1 → va_S (pm_A u) s.heap H1 locs1 → W p l e R s m args below meth c H1 locs1 (cells + mc) (slots + ms) Q (F0 m (pc + 3) ls ((r.map (pm_tr u)).toList ++ rest))) : W p l e R s m args below meth c H locs cells slots Q (F0 m pc ls st0) := by
  intro T hT X
  obtain ⟨v, st₀, t, T', L, h0, X', hL, e1, e2, ⟨⟨r, sh', I', J', hv, hp, hw⟩, hz, hk⟩, st⟩ := hr T hT X
  cases hv
  rw [h0] at hz hk
  obtain ⟨t2, a1, b1⟩ := kk r sh' I' J' T'.heap (locs ++ L) hp (by rw [e1]; exact hw)
    ⟨Nat.le_trans hS.1 (by rw [e1]; exact hz), fun q h1 h2 => by rw [e1, hk q (Nat.lt_of_lt_of_le h1 hS.1) h2]; exact hS.2.1 q h1 h2, fun q hq => by
      rcases List.mem_append.mp hq with h | h
      · exact hS.2.2 q h
      · exact hL q h⟩ T' rfl X'
  exact ⟨t2, st t2 a1, b1⟩
end PMC
theorem pm_goods {ws : List Cond} (h : ∀ w ∈ ws, w ∈ pm_tbl) : GoodIn pm_tbl ws := fun w hw => ⟨h w hw, good_of_word (List.mem_filter.mp (h w hw)).2⟩
/-- links to methods: on an object, static, of a nest mate, a maker -/
def pm_lV (own : String) (idx : Nat) (y : MethodName) (ci nn : Nat) : Prop := ∃ (C : String) (T : u_T) (N : Nat), vwCl[ci]? = some (C, T, N) ∧ (y.cls = C ∧ y.cls ≠ "java/lang/invoke/MethodHandle" ∧ y.cls ≠ "java/lang/invoke/VarHandle" ∧ (parseMethodDescriptor y.desc).map (fun d => d.parameters.length) = some nn) ∧ Cond.methodLink own idx y ∈ pm_tbl ∧ Cond.instanceMethod y ∈ pm_tbl ∧ Cond.selects C y y ∈ pm_tbl ∧ Cond.initialized C ∈ pm_tbl
def pm_lS (own : String) (idx : Nat) (y : MethodName) (nn : Nat) : Prop := (y.cls ≠ "java/lang/invoke/MethodHandle" ∧ y.cls ≠ "java/lang/invoke/VarHandle" ∧ (parseMethodDescriptor y.desc).map (fun d => d.parameters.length) = some nn) ∧ Cond.methodLink own idx y ∈ pm_tbl ∧ Cond.static y ∈ pm_tbl ∧ Cond.initialized y.cls ∈ pm_tbl
def pm_lN (own : String) (idx : Nat) (y : MethodName) (nn : Nat) : Prop := (y.cls ≠ "java/lang/invoke/MethodHandle" ∧ y.cls ≠ "java/lang/invoke/VarHandle" ∧ (parseMethodDescriptor y.desc).map (fun d => d.parameters.length) = some nn) ∧ (own, idx, y) ∈ pm_nM ∧ Cond.static y ∈ pm_tbl ∧ Cond.initialized y.cls ∈ pm_tbl
def pm_lI (own : String) (idx : Nat) (y : MethodName) (nn : Nat) : Prop := (y.name = "<init>" ∧ y.cls ≠ "java/lang/invoke/MethodHandle" ∧ y.cls ≠ "java/lang/invoke/VarHandle" ∧ (parseMethodDescriptor y.desc).map (fun d => d.parameters.length) = some nn) ∧ (Cond.methodLink own idx y ∈ pm_tbl ∨ (own, idx, y) ∈ pm_nM) ∧ Cond.instanceMethod y ∈ pm_tbl ∧ Cond.initialized y.cls ∈ pm_tbl
/-- a determined answer -/
def pm_D (r : Option Value) (sh : List pm_S) (I : pm_I) (J : pm_J) : Option Value → List pm_S → pm_I → pm_J → Prop := fun r2 sh2 I2 J2 => r2 = r ∧ sh2 = sh ∧ I2 = I ∧ J2 = J
def pm_rc (Γ : pm_T) (c9 s9 : Nat) : Prop := match Γ with
  | (_, _, _, R, _, _, _, _, _, _, _, _, _) => c9 ≤ R.cells ∧ s9 ≤ R.slots
section PMR2
variable {Γ : pm_T} {own : String} {cc : ByteArray} {d n cells slots pc : Nat} {L : List (Nat × Value)} {st : List Value} {sh : List pm_S} {I : pm_I} {J : pm_J}
theorem g_callV {y : MethodName} {bytes : ByteArray} {maxL : Nat} {ret : Option FieldType} {av rest : List Value} {Post : Option Value → List pm_S → pm_I → pm_J → Prop} {idx a ci nn : Nat} {fs : List pm_F} (C : pm_Cx Γ own cc (d + 1) n) (hd : decode cc pc = .ok (.invokevirtual idx, 3)) (K : pm_lV own idx y ci nn) (hcode : Cond.code y bytes maxL ret ∈ pm_tbl) (hmx : maxL ≤ 17) (ha : sh[a]? = some (.inr (.inr (ci, fs)))) (hM : pm_M d 0 0 y bytes maxL ret (.ref a :: av) sh I J Post) (hst : st = av.reverse ++ .ref a :: rest) (hn : av.length = nn) (hcat : (rest.map fun v => v.category).sum ≤ 8)
    (k : ∀ (r : Option Value) (sh' : List pm_S) (I' : pm_I) (J' : pm_J), Post r sh' I' J' → pm_G Γ cells slots (pc + 3) L (r.toList ++ rest) sh' I' J') : pm_G Γ cells slots pc L st sh I J := by
  obtain ⟨p, l, e, R, s, m, args, below, meth, c, Q, u, nL⟩ := Γ
  obtain ⟨hx, hb, hml, rfl, hown, hts, hlk, hK, hfr, hlo, hB⟩ := C
  intro H locs ls hW hS hl hc hs
  obtain ⟨C9, T9, N9, k1, k2, k3, k4, k5, k6⟩ := K
  have hcw : CallW R s args own C9 idx y bytes maxL ret (.code y bytes maxL ret :: pm_tbl) (pm_rm d 0 0) 0 0 nn := cwV nn hts (pm_goods (fun w hw => by
    rcases List.mem_append.mp hw with h | h
    · simp only [List.mem_cons, List.not_mem_nil, or_false] at h
      rcases h with rfl | rfl | rfl | rfl
      · exact k3
      · exact k4
      · exact k5
      · exact k6
    · rcases List.mem_cons.mp h with rfl | h
      · exact hcode
      · exact h)) rfl rfl rfl k2 ⟨hfr, by show 8 + (maxL + 11) + 36 * d ≤ R.locals; omega⟩
  subst hst
  refine pm_run (va_runV (As := av.map (pm_tr u)) (rest := rest.map (pm_tr u)) (b := pm_ad u a) ⟨hx, hb, hml, hown, hts⟩ (hM l u) hcw ⟨fun a U g mk q => ⟨q.1, q.2.1, pm_K.same rfl q.2.2⟩, va_recv hK.1 hW.1 k1 (pm_ws_get ha), fun U hU hWm => ⟨rfl, by rw [hU]; exact hW, by rw [hU]; exact pm_K.go hWm hS.2.1 hK⟩⟩ rfl (by rw [List.length_map]; exact hn) hl.1 (by simp [pm_tr]) (lv_room (by rw [List.map_map]; simpa only [Function.comp_def, pm_tr_cat] using hcat)) hd ⟨hc, hs⟩) hS (fun r sh' I' J' H1 locs1 hp hw hs1 => ?_)
  have h := k r sh' I' J' hp H1 locs1 ls hw hs1 hl hc hs
  rw [List.map_append] at h
  cases r <;> exact h
theorem g_callS {y : MethodName} {bytes : ByteArray} {maxL : Nat} {ret : Option FieldType} {av rest : List Value} {Post : Option Value → List pm_S → pm_I → pm_J → Prop} {idx nn : Nat} (C : pm_Cx Γ own cc (d + 1) n) (hd : decode cc pc = .ok (.invokestatic idx, 3)) (K : pm_lS own idx y nn) (hcode : Cond.code y bytes maxL ret ∈ pm_tbl) (hmx : maxL ≤ 17) (hM : pm_M d 0 0 y bytes maxL ret av sh I J Post) (hst : st = av.reverse ++ rest) (hn : av.length = nn) (hcat : (rest.map fun v => v.category).sum ≤ 8)
    (k : ∀ (r : Option Value) (sh' : List pm_S) (I' : pm_I) (J' : pm_J), Post r sh' I' J' → pm_G Γ cells slots (pc + 3) L (r.toList ++ rest) sh' I' J') : pm_G Γ cells slots pc L st sh I J := by
  obtain ⟨p, l, e, R, s, m, args, below, meth, c, Q, u, nL⟩ := Γ
  obtain ⟨hx, hb, hml, rfl, hown, hts, hlk, hK, hfr, hlo, hB⟩ := C
  intro H locs ls hW hS hl hc hs
  obtain ⟨k2, k3, k4, k6⟩ := K
  have hcw := callB_of (R := R) (s := s) (args := args) (own := own) (index := idx) (y := y) (bytes := bytes) (maxL := maxL) (ret := ret) (rm := pm_rm d 0 0) (mc := 0) (ms := 0) nn hts (pm_goodIn hcode) rfl rfl rfl (hts _ k6) (hts _ k3) k2 ⟨hfr, by show 8 + (maxL + 11) + 36 * d ≤ R.locals; omega⟩
  subst hst
  refine pm_run (va_runS (As := av.map (pm_tr u)) (rest := rest.map (pm_tr u)) ⟨hx, hb, hml, hown, hts⟩ (hM l u) ⟨hcw, hts _ k4⟩ ⟨fun a U g mk q => ⟨q.1, q.2.1, pm_K.same rfl q.2.2⟩, fun U hU hWm => ⟨rfl, by rw [hU]; exact hW, by rw [hU]; exact pm_K.go hWm hS.2.1 hK⟩⟩ rfl (by rw [List.length_map]; exact hn) hl.1 (by simp) (lv_room (by rw [List.map_map]; simpa only [Function.comp_def, pm_tr_cat] using hcat)) hd ⟨hc, hs⟩) hS (fun r sh' I' J' H1 locs1 hp hw hs1 => ?_)
  have h := k r sh' I' J' hp H1 locs1 ls hw hs1 hl hc hs
  rw [List.map_append] at h
  cases r <;> exact h
theorem g_callN {y : MethodName} {bytes : ByteArray} {maxL : Nat} {ret : Option FieldType} {av rest : List Value} {Post : Option Value → List pm_S → pm_I → pm_J → Prop} {idx nn : Nat} (C : pm_Cx Γ own cc (d + 1) n) (hd : decode cc pc = .ok (.invokestatic idx, 3)) (K : pm_lN own idx y nn) (hcode : Cond.code y bytes maxL ret ∈ pm_tbl) (hmx : maxL ≤ 17) (hM : pm_M d 0 0 y bytes maxL ret av sh I J Post) (hst : st = av.reverse ++ rest) (hn : av.length = nn) (hcat : (rest.map fun v => v.category).sum ≤ 8)
    (k : ∀ (r : Option Value) (sh' : List pm_S) (I' : pm_I) (J' : pm_J), Post r sh' I' J' → pm_G Γ cells slots (pc + 3) L (r.toList ++ rest) sh' I' J') : pm_G Γ cells slots pc L st sh I J := by
  obtain ⟨p, l, e, R, s, m, args, below, meth, c, Q, u, nL⟩ := Γ
  obtain ⟨hx, hb, hml, rfl, hown, hts, hlk, hK, hfr, hlo, hB⟩ := C
  intro H locs ls hW hS hl hc hs
  obtain ⟨k2, k3, k4, k6⟩ := K
  have hcw := va_cnB (R := R) (s := s) (args := args) (own := own) (host := RX7) (index := idx) (y := y) (bytes := bytes) (maxL := maxL) (ret := ret) (rm := pm_rm d 0 0) (mc := 0) (ms := 0) nn hts (pm_goodIn hcode) rfl rfl rfl (hK.2.2.2.2.2.2.2.1 _ k3) (hts _ k6) k2 ⟨hfr, by show 8 + (maxL + 11) + 36 * d ≤ R.locals; omega⟩
  subst hst
  refine pm_run (va_runSN (As := av.map (pm_tr u)) (rest := rest.map (pm_tr u)) ⟨hx, hb, hml, hown, hts⟩ (hM l u) ⟨hcw, hts _ k4, trivial⟩ ⟨fun a U g mk q => ⟨q.1, q.2.1, pm_K.same rfl q.2.2⟩, fun U hU hWm => ⟨rfl, by rw [hU]; exact hW, by rw [hU]; exact pm_K.go hWm hS.2.1 hK⟩⟩ rfl (by rw [List.length_map]; exact hn) hl.1 (by simp) (lv_room (by rw [List.map_map]; simpa only [Function.comp_def, pm_tr_cat] using hcat)) hd ⟨hc, hs⟩) hS (fun r sh' I' J' H1 locs1 hp hw hs1 => ?_)
  have h := k r sh' I' J' hp H1 locs1 ls hw hs1 hl hc hs
  rw [List.map_append] at h
  cases r <;> exact h
/-- a maker is called: it may make cells -/
theorem g_callI {y : MethodName} {bytes : ByteArray} {maxL mc ms : Nat} {av rest : List Value} {Post : Option Value → List pm_S → pm_I → pm_J → Prop} {idx a nn : Nat} (C : pm_Cx Γ own cc (d + 1) n) (hd : decode cc pc = .ok (.invokespecial idx, 3)) (K : pm_lI own idx y nn) (hcode : Cond.code y bytes maxL none ∈ pm_tbl) (hmx : maxL ≤ 17) (hM : pm_M d mc ms y bytes maxL none (.ref a :: av) sh I J Post) (hst : st = av.reverse ++ .ref a :: rest) (hn : av.length = nn) (hcat : (rest.map fun v => v.category).sum ≤ 8) (hroom : pm_rc Γ (cells + mc) (slots + ms))
    (k : ∀ (r : Option Value) (sh' : List pm_S) (I' : pm_I) (J' : pm_J), Post r sh' I' J' → pm_G Γ (cells + mc) (slots + ms) (pc + 3) L (r.toList ++ rest) sh' I' J') : pm_G Γ cells slots pc L st sh I J := by
  obtain ⟨p, l, e, R, s, m, args, below, meth, c, Q, u, nL⟩ := Γ
  obtain ⟨hx, hb, hml, rfl, hown, hts, hlk, hK, hfr, hlo, hB⟩ := C
  intro H locs ls hW hS hl hc hs
  obtain ⟨⟨k1, k2⟩, k3, k4, k6⟩ := K
  subst hst
  have hpre : PreS s H (va_Pc ((Value.ref a :: av).map (pm_tr u)) (fun U => pm_Wd u sh I J U.heap ∧ pm_K u U U.heap)) (.ref (pm_ad u a) :: av.map (pm_tr u)) := ⟨fun a U g mk q => ⟨q.1, q.2.1, pm_K.same rfl q.2.2⟩, fun U hU hWm => ⟨rfl, by rw [hU]; exact hW, by rw [hU]; exact pm_K.go hWm hS.2.1 hK⟩⟩
  have hrun : va_Run p l e R s m args below meth c H locs cells slots mc ms (F0 m pc ls ((av.reverse ++ .ref a :: rest).map (pm_tr u))) (rest.map (pm_tr u)) (pm_Qc u Post (Value.ref (pm_ad u a) :: av.map (pm_tr u)).toArray) (pm_A u) := by
    rcases k3 with k3 | k3
    · exact va_runI (As := av.map (pm_tr u)) (b := pm_ad u a) ⟨hx, hb, hml, hown, hts⟩ (hM l u) ⟨callB_of (R := R) (s := s) (args := args) (own := own) (index := idx) (y := y) (bytes := bytes) (maxL := maxL) (ret := none) (rm := pm_rm d mc ms) (mc := mc) (ms := ms) nn hts (pm_goodIn hcode) rfl rfl rfl (hts _ k6) (hts _ k3) k2 ⟨hfr, by show 8 + (maxL + 11) + 36 * d ≤ R.locals; omega⟩, k1, hts _ k4⟩ hpre rfl (by rw [List.length_map]; exact hn) hl.1 (by simp [pm_tr]) (lv_room (by rw [List.map_map]; simpa only [Function.comp_def, pm_tr_cat] using hcat)) hd hroom
    · exact va_runIN (As := av.map (pm_tr u)) (b := pm_ad u a) ⟨hx, hb, hml, hown, hts⟩ (hM l u) ⟨va_cnB (R := R) (s := s) (args := args) (own := own) (host := RX7) (index := idx) (y := y) (bytes := bytes) (maxL := maxL) (ret := none) (rm := pm_rm d mc ms) (mc := mc) (ms := ms) nn hts (pm_goodIn hcode) rfl rfl rfl (hK.2.2.2.2.2.2.2.1 _ k3) (hts _ k6) k2 ⟨hfr, by show 8 + (maxL + 11) + 36 * d ≤ R.locals; omega⟩, k1, hts _ k4⟩ hpre rfl (by rw [List.length_map]; exact hn) hl.1 (by simp [pm_tr]) (lv_room (by rw [List.map_map]; simpa only [Function.comp_def, pm_tr_cat] using hcat)) hd hroom
  refine pm_run hrun hS (fun r sh' I' J' H1 locs1 hp hw hs1 => ?_)
  have h := k r sh' I' J' hp H1 locs1 ls hw hs1 hl hroom.1 hroom.2
  rw [List.map_append] at h
  cases r <;> exact h
theorem g_objInit {a idx : Nat} (C : pm_Cx Γ own cc (d + 1) n) (hd : decode cc pc = .ok (.invokespecial idx, 3)) (h1 : Cond.methodLink own idx Lib.objectInit ∈ pm_tbl) (h2 : Cond.instanceMethod Lib.objectInit ∈ pm_tbl) (h3 : Cond.code Lib.objectInit ⟨#[0xb1]⟩ 1 none ∈ pm_tbl) (hcat : (st.map fun v => v.category).sum ≤ 8) (k : pm_G Γ cells slots (pc + 3) L st sh I J) : pm_G Γ cells slots pc L (.ref a :: st) sh I J := by
  obtain ⟨p, l, e, R, s, m, args, below, meth, c, Q, u, nL⟩ := Γ
  obtain ⟨hx, hb, hml, rfl, hown, hts, hlk, hK, hfr, hlo, hB⟩ := C
  intro H locs ls hW hS hl hc hs
  have hcat2 : ((st.map (pm_tr u)).map fun v => v.category).sum ≤ 8 := by rw [List.map_map]; simpa only [Function.comp_def, pm_tr_cat] using hcat
  exact W.objInit hx hb hown (hts _ h1) (hts _ h2) (hts _ h3) rfl (by rw [hml]; exact hl.1) rfl hd (by omega) (by have h := lv_room (m := m) (pc := pc) (ls := ls) (rest := (Value.ref a :: st).map (pm_tr u)) hcat2; omega) (k H locs ls hW hS hl hc hs)
theorem g_iret {nm : String} {ty : FieldType} {mc ms : Nat} {Post : Option Value → List pm_S → pm_I → pm_J → Prop} {v : Int32} (C : pm_Cx Γ own cc d n) (C2 : pm_Ct Γ nm (some ty) mc ms Post) (hd : decode cc pc = .ok (.ireturn, 1)) (hn : narrow ty (.int v) = .int v) (hc1 : cells ≤ mc) (hs1 : slots ≤ ms) (hp : Post (some (.int v)) sh I J) : pm_G Γ cells slots pc L [.int v] sh I J := by
  obtain ⟨p, l, e, R, s, m, args, below, meth, c, Q, u, nL⟩ := Γ
  obtain ⟨hx, hb, hml, rfl, hown, hts, hlk, hK, hfr, hlo, hB⟩ := C
  obtain ⟨-, hr, rfl, -, -⟩ := C2
  intro H locs ls hW hS hl hc hs
  refine W.widen hc1 hs1 ?_
  exact W.zret (ty := ty) hx hb hr hn (fun t ht _ => ⟨⟨some (.int v), sh, I, J, rfl, hp, by rw [ht]; exact hW⟩, hS.F ht⟩) hS.2.2 hd hlk
theorem g_vret {nm : String} {mc ms : Nat} {Post : Option Value → List pm_S → pm_I → pm_J → Prop} (C : pm_Cx Γ own cc d n) (C2 : pm_Ct Γ nm none mc ms Post) (hd : decode cc pc = .ok (.return_, 1)) (hc1 : cells ≤ mc) (hs1 : slots ≤ ms) (hp : Post none sh I J) : pm_G Γ cells slots pc L [] sh I J := by
  obtain ⟨p, l, e, R, s, m, args, below, meth, c, Q, u, nL⟩ := Γ
  obtain ⟨hx, hb, hml, rfl, hown, hts, hlk, hK, hfr, hlo, hB⟩ := C
  obtain ⟨-, hr, rfl, -, -⟩ := C2
  intro H locs ls hW hS hl hc hs
  refine W.widen hc1 hs1 ?_
  exact W.vret hx hb hr (fun t ht _ => ⟨⟨none, sh, I, J, rfl, hp, by rw [ht]; exact hW⟩, hS.F ht⟩) hS.2.2 hd hlk
theorem g_aret {nm : String} {rt : FieldType} {mc ms a : Nat} {Post : Option Value → List pm_S → pm_I → pm_J → Prop} (C : pm_Cx Γ own cc d n) (C2 : pm_Ct Γ nm (some rt) mc ms Post) (hd : decode cc pc = .ok (.areturn, 1)) (hrt : (∃ n, rt = .object n) ∨ ∃ t, rt = .array t) (hc1 : cells ≤ mc) (hs1 : slots ≤ ms) (hp : Post (some (.ref a)) sh I J) : pm_G Γ cells slots pc L [.ref a] sh I J := by
  obtain ⟨p, l, e, R, s, m, args, below, meth, c, Q, u, nL⟩ := Γ
  obtain ⟨hx, hb, hml, rfl, hown, hts, hlk, hK, hfr, hlo, hB⟩ := C
  obtain ⟨-, hr, rfl, -, -⟩ := C2
  intro H locs ls hW hS hl hc hs
  refine W.widen hc1 hs1 ?_
  exact W.aret (v := .ref (pm_ad u a)) hx hb hr hrt (Or.inr ⟨_, rfl⟩) (fun t ht _ => ⟨⟨some (.ref a), sh, I, J, rfl, hp, by rw [ht]; exact hW⟩, hS.F ht⟩) hS.2.2 hd hlk
end PMR2
