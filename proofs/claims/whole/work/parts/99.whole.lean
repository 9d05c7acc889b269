def pl2 (x : pm_F) : Bool := match x with
  | .inl _ => true
  | .inr none => true
  | _ => false
theorem pl_c {fs : List pm_F} (h : fs.all pl2 = true) : ∀ x ∈ fs, (∃ q, x = .inl q) ∨ x = .inr none := fun x hx => by
  have h2 := List.all_eq_true.mp h x hx
  rcases x with q | q
  · exact Or.inl ⟨q, rfl⟩
  · rcases q with _ | q
    · exact Or.inr rfl
    · cases h2
theorem nJ5 (j : Nat) : nI j + 5 = nI (j + 5) := by rw [show (5 : Int32) = nI 5 by decide, nI_add]
theorem law_loop {Γ : pm_T} {L0 c9 s9 : Nat} {xs : Nat → Int32} (C : pm_Cx Γ RL cL_law (11 + 1) 4) (hX : pm_X Γ L0 xs) (hL : L0 ≤ 2560) (hout : ∀ (I : pm_I) (J : pm_J) (j : Nat), pm_G Γ c9 s9 1575 [(0, .ref (1000 + 99)), (1, .ref 0), (2, .ref 102), (3, .int (nI j))] [] SHP I J) : ∀ (n j : Nat) (I : pm_I) (J : pm_J), L0 ≤ j + n → j ≤ L0 + 5 → Rel I I J → pm_G Γ c9 s9 18 [(0, .ref (1000 + 99)), (1, .ref 0), (2, .ref 102), (3, .int (nI j))] [] SHP I J := by
  intro n
  induction n with
  | zero =>
    intro j I J h0 h1 hR
    refine g_iload_n (pc := 18) (i := 3) (j := 3) C dL_law_18 rfl rfl ?_
    refine g_aload_n (pc := 19) (i := 0) (j := 0) C dL_law_19 rfl rfl ?_
    refine g_slen (pc := 20) C hX dL_law_20 ?_
    refine g_iconst (pc := 21) (v := 5) C dL_law_21 (by decide) ?_
    refine g_isub (pc := 22) C dL_law_22 ?_
    refine g_icmp_gt (pc := 23) (tgt := 1575) C dL_law_23 (by decide) (fun h => hout _ _ _) (fun h => ?_)
    have h5 := law_lt hL (by omega) h
    omega
  | succ n ih =>
    intro j I J h0 h1 hR
    refine g_iload_n (pc := 18) (i := 3) (j := 3) C dL_law_18 rfl rfl ?_
    refine g_aload_n (pc := 19) (i := 0) (j := 0) C dL_law_19 rfl rfl ?_
    refine g_slen (pc := 20) C hX dL_law_20 ?_
    refine g_iconst (pc := 21) (v := 5) C dL_law_21 (by decide) ?_
    refine g_isub (pc := 22) C dL_law_22 ?_
    refine g_icmp_gt (pc := 23) (tgt := 1575) C dL_law_23 (by decide) (fun h => hout _ _ _) (fun h => ?_)
    have h5 := law_lt hL (by omega) h
    refine law_body C hX hL h5 hR (fun I2 J2 hR2 => ?_)
    refine g_iinc (pc := 1569) (j := 3) (v := nI (j + 5)) (L2 := [(0, .ref (1000 + 99)), (1, .ref 0), (2, .ref 102), (3, .int (nI (j + 5)))]) C dL_law_1569 rfl (nJ5 j) (by decide) rfl ?_
    refine g_goto (pc := 1572) (tgt := 18) C dL_law_1572 (by decide) ?_
    exact ih (j + 5) I2 J2 (by omega) (by omega) hR2
set_option maxHeartbeats 4000000 in
set_option maxRecDepth 100000 in
theorem law_main {Γ : pm_T} {L0 : Nat} {xs : Nat → Int32} (C : pm_Cx Γ RL cL_law (11 + 1) 4) (hX : pm_X Γ L0 xs) (hL : L0 ≤ 2560) (hr : ∀ c s, c ≤ 600000 → s ≤ 7302250 → pm_rc Γ c s) (hout : ∀ (c9 s9 : Nat) (I : pm_I) (J : pm_J) (j : Nat), pm_G Γ c9 s9 1575 [(0, .ref (1000 + 99)), (1, .ref 0), (2, .ref 102), (3, .int (nI j))] [] SHP I J) : pm_G Γ 0 0 0 [(0, .ref (1000 + 99))] [] (pf 0 (fun _ => .inl (0, 0))) (fun _ _ => 0) pm_J0 := by
  refine g_new (pc := 0) (fs := [.inr none, .inr none, .inl 0, .inr none, .inr none, .inr none, .inr none, .inl 0, .inr none, .inr none, .inr none]) C dL_law_0 lnL_7 (pl_b rfl) (fun a ha => rfl) (Or.inl (pl_a rfl)) (hr _ _ (by decide) (by decide)) (by decide) ?_
  show pm_G Γ _ _ _ _ _ (pf 1 _) _ _
  refine g_dup (pc := 3) C dL_law_3 rfl ?_
  refine g_callI (pc := 4) C dL_law_4 lmL_9 kcX7_init (by decide) (c_X7_init (d := 8) uf_at (fun a ha => rfl)) rfl rfl (Nat.le_of_ble_eq_true rfl) (hr _ _ (by decide) (by decide)) ?_
  intro r9 sh9 I9 J9 hD9; obtain ⟨rfl, rfl, rfl, rfl⟩ := pm_Dq hD9; clear hD9
  try simp only [Option.toList_some, Option.toList_none, List.cons_append, List.nil_append]
  show pm_G Γ _ _ _ _ _ (pf 102 mk_F7) mk_I7 _
  refine g_astore_n (pc := 7) (i := 1) (L2 := [(0, _), (1, _)]) C dL_law_7 rfl (by decide) rfl ?_
  refine g_new (pc := 8) (fs := [.inr none, .inl 0, .inl 0, .inr none, .inr none, .inr none, .inl 0, .inl 0, .inl 0, .inr none, .inl 0, .inl 0, .inl 0, .inl 0, .inl 1, .inl 0, .inl 0, .inl 0, .inl 0, .inr none, .inr none, .inr none, .inr none, .inr none, .inr none, .inl 0, .inl 0, .inr none, .inr none, .inr none, .inr none, .inr none, .inr none, .inl 0, .inl 0, .inl 0, .inr none, .inl 0, .inl 0, .inl 0, .inr none, .inl 0, .inr none]) C dL_law_8 lnL_10 (pl_c rfl) mk_Z7 (Or.inr rfl) (hr _ _ (by decide) (by decide)) (by decide) ?_
  show pm_G Γ _ _ _ _ _ (pf 103 _) _ _
  refine g_dup (pc := 11) C dL_law_11 rfl ?_
  refine g_callI (pc := 12) C dL_law_12 lmL_12 kcX8_init (by decide) (c_X8_init (d := 10) (by decide) uf_at (pm_Z_up mk_Z7 (by decide)) (by decide)) rfl rfl (Nat.le_of_ble_eq_true rfl) (hr _ _ (by decide) (by decide)) ?_
  intro r9 sh9 I9 J9 hD9; obtain ⟨rfl, rfl, rfl, rfl⟩ := pm_Dq hD9; clear hD9
  try simp only [Option.toList_some, Option.toList_none, List.cons_append, List.nil_append]
  show pm_G Γ _ _ _ _ _ (pf 123 mk_F8) mk_I8 _
  rw [mk_SHP]
  refine g_astore_n (pc := 15) (i := 2) (L2 := [(0, _), (1, _), (2, _)]) C dL_law_15 rfl (by decide) rfl ?_
  refine g_iconst (pc := 16) (v := 0) C dL_law_16 (by decide) ?_
  refine g_istore_n (pc := 17) (i := 3) (L2 := [(0, _), (1, _), (2, _), (3, _)]) C dL_law_17 rfl (by decide) rfl ?_
  exact pm_Geq9 (law_loop C hX hL (hout _ _) L0 0 _ _ (by omega) (by omega) mk_rel) rfl rfl rfl rfl
/-! THE CLAIM OUT OF ONE WALK OF THE LAW'S BODY. Your part is whole_start (and what it stands on); all else here is the same for every law, but numbers. -/
def R_law : String := "BalloonTownLaw"
def lw_P (b : Addr) (xs : List Int32) (args : Array Value) (s : State) : Prop := args = #[.ref b] ∧ s.IntsAt b xs ∧ xs.length ≤ 2560 ∧ (Jvm.Cond.and given_1 narrow_1).before args s = true
def lw_Q (_ : Array Value) (s : State) (o : Outcome) (t : State) : Prop := o = .returned (some (.int 1)) ∧ Framed s o t [] 600000 7302250
def lw_Z (below : List Frame) (a : Array Value) (s : State) : State → Prop := fun t => ∃ o, t.status = .running ∧ Ended t below o ∧ lw_Q a s o t
/-- the law's own end, with 1 on the stack, nothing written that was there before, its room as the claim has it -/
theorem lw_ret {p : Program} {l : Launch} {e : Env} {s : State} {m : MethodId} {below : List Frame} {meth : Method} {c : Code} {b : Nat} (hx : p.tables.exec = Jvm.exec) (hb : c.code = code) (hr : meth.sig.returnType = ret) (hlocks : meth.locks = false) {pc : Nat} {H : Heap} {ls : Array Slot} (hdg : decode code pc = .ok (.ireturn, 1)) : W p l e room_1 s m #[Value.ref b] below meth c H [] 600000 7302250 (lw_Z below #[Value.ref b] s) (F0 m pc ls [.int 1]) := by
  intro T hT X
  obtain ⟨fs, hret, hrun, hended, hW, hframe⟩ := X.leave (v := some (.int 1)) (hlocks := hlocks) (fun h => by rw [hr] at h; cases h)
  have hmeth' : T.vm.method? m = some meth := X.method'
  refine ⟨T.setFrames fs, ?_, .returned (some (.int 1)), hrun, hended, rfl, ⟨_, rfl⟩, hW, hframe⟩
  jvm_step X.here [X.here.top, hx, hb, hdg, hmeth', hr, ret, narrow_b1]
  (try refine ⟨rfl, ?_⟩); (try refine ⟨rfl, ?_⟩)
  first | (intro acts; rw [hret _ acts rfl rfl rfl]) | rw [hret _ _ rfl rfl rfl]
  exact Steps.refl _
/-- what holds at the law's entry: the machine, the code, the tables' words (any of lw_tbl by 'hts w (by decide +kernel)'), the script of L ints xs at the cell b, what the Statement gives of the start (any of its parts by flat_of_before) -/
def lw_At (p : Program) (s : State) (m : MethodId) (meth : Method) (c : Code) (b L : Nat) (xs : Nat → Int32) : Prop :=
  p.tables.exec = Jvm.exec ∧ c.code = code ∧ meth.sig.returnType = ret ∧ c.maxLocals = 4 ∧ s.vm.findClass R_law = some m.cls ∧ (∀ w ∈ lw_tbl, w.before #[Value.ref b] s = true) ∧ va_X b L xs s s.heap ∧ b < s.heap.size ∧ meth.locks = false ∧ (Jvm.Cond.and given_1 narrow_1).before #[Value.ref b] s = true
set_option maxHeartbeats 4000000 in
/-- from the entry, for every script of at most 2560 ints -/
theorem whole_start {p : Program} {e : Env} {s : State} {m : MethodId} {below : List Frame} {meth : Method} {c : Code} (l : Launch) (hflags : l.flags = flags0) {b L : Nat} {xs : Nat → Int32} (hL : L ≤ 2560) (C0 : lw_At p s m meth c b L xs) : W p l e room_1 s m #[Value.ref b] below meth c s.heap [] 0 0 (lw_Z below #[Value.ref b] s) (entryFrame m ([Value.ref b] : List Value).toArray 4) := by
  obtain ⟨hx, hb, hr, hml, hown, hts, hX, hbl, hlocks, hgv⟩ := id C0
  obtain ⟨u, u1, u99, hK⟩ := st_K b hts hgv
  have Cx : pm_Cx (p, l, e, room_1, s, m, #[Value.ref b], below, meth, c, lw_Z below #[Value.ref b] s, u, 4) RL cL_law (11 + 1) 4 := ⟨hx, hb, hml, rfl, hown, st_pm hts, hlocks, hK, by decide, by decide, by rw [u1]; exact Nat.le_refl _⟩
  have hX9 : pm_X (p, l, e, room_1, s, m, #[Value.ref b], below, meth, c, lw_Z below #[Value.ref b] s, u, 4) L xs := ⟨by rw [u99]; exact hX, by rw [u99]; exact hbl, u1⟩
  have main := law_main Cx hX9 hL (fun c9 s9 h1 h2 => ⟨h1, h2⟩) (fun c9 s9 I J j => by
    refine g_iconst (pc := 1575) (v := 1) Cx dL_law_1575 (by decide) ?_
    intro H locs ls hW hS hl hc hs
    refine va_forget (fun q hq => ?_) (W.widen hc hs (lw_ret hx hb hr hlocks dL_law_1576))
    have h := hS.2.2 q hq
    have h2 : u.1 ≤ q.base := h
    rw [u1] at h2
    exact h2)
  rw [lg_entry_eq]
  have hl := lv_entry ([.ref b]) (n := 4) (Nat.le_of_ble_eq_true rfl)
  refine main s.heap [] _ ⟨fun k q h => by simp [pm_ws, pf] at h, by rw [u1]; simp [pf], by simp [pf]⟩ va_S.rf ?_ (Nat.zero_le _) (Nat.zero_le _)
  show lv_has _ 4 [(0, .ref (pm_ad u (1000 + 99)))]
  rw [pm_ad_hi, u99]
  exact hl
set_option maxHeartbeats 4000000 in
theorem lw_walk (l : Launch) (hflags : l.flags = flags0) (b : Addr) (xs : List Int32) : MetFree l x (headSpec (Jvm.Cond.code x code maxLocals ret :: tables_1) room_1) (lw_P b xs) (fun _ _ _ _ _ => True) lw_Q := by
  refine MetFree.of_bodyS (code := code) (maxLocals := maxLocals) (ret := ret) (by decide) ?_ ?_
  · intro args s m h hn
    obtain ⟨meth, c, h1, h2, h3, h4, h5, h6, -, -⟩ := Cond.code_spec hn (atoms_spec (ws := Jvm.Cond.code x code maxLocals ret :: tables_1) h _ List.mem_cons_self)
    exact ⟨meth, c, h1, h2, h3, h4, h5, h6⟩
  · intro p e s m args below meth c s₁ B hml0 hP _
    obtain ⟨rfl, hx, hbd, hgv⟩ := hP
    obtain ⟨scr, harrAt, hlist, hof, hsmall⟩ := hx
    obtain ⟨hcb, hkn, -, -⟩ := State.arrayAt?_spec harrAt
    have hown : s.vm.findClass R_law = some m.cls := findClass_of_methodNamed B.named
    have hts0 : ∀ c ∈ (Jvm.Cond.code x code maxLocals ret :: tables_1), c.before #[Value.ref b] s = true := atoms_spec (ws := Jvm.Cond.code x code maxLocals ret :: tables_1) B.pre
    have hts : ∀ w ∈ lw_tbl, w.before #[Value.ref b] s = true := k2_hts_sels lw_privs (fun w hw => hts0 w (List.mem_cons_of_mem _ hw)) lw_privs_ok
    have hml : c.maxLocals = 4 := B.maxLocals_eq (hts0 _ List.mem_cons_self)
    have X₀ : Stand p l e room_1 s m #[Value.ref b] below meth c s₁ [] 0 0 := Stand.of_body B
    have hh0 : s₁.heap = s.heap := by rw [B.state]; rfl
    have hsz : scr.slots.size = xs.length := by rw [← Array.length_toList, hlist, List.length_map]
    have hval : ∀ j : Nat, j < xs.length → scr.slots[j]? = some (.int (xs.getD j 0)) := fun j hj => by
      rw [← Array.getElem?_toList, hlist]
      simp [hj]
    have hbl : b < s.heap.size := (Array.getElem?_eq_some_iff.mp hcb).1
    have hX : va_X b xs.length (fun j => xs.getD j 0) s s.heap := ⟨scr, hcb, hof, hkn, hsz, hval⟩
    have K : W p l e room_1 s m #[Value.ref b] below meth c s₁.heap [] 0 0 (lw_Z below #[Value.ref b] s) (entryFrame m ([Value.ref b] : List Value).toArray 4) := by
      rw [hh0]
      exact whole_start l hflags hbd ⟨B.exec, B.bytes, B.returns, hml, hown, hts, hX, hbl, B.notSynchronized, hgv⟩
    obtain ⟨t, a1, o, b1, b2, b3⟩ := K s₁ rfl X₀
    exact ⟨t, o, a1, b1, b2, b3⟩
theorem lw_pre_spec {args : Array Value} {s : State} (h : (Jvm.Cond.and given_1 narrow_1).before args s = true) (hr : rest_1_c.before args s = true) : ∃ (b : Addr) (xs : List Int32), lw_P b xs args s := by
  have hs := flat_of_before _ h
  have hq := flat_of_before _ hr
  have hc : (Cond.count 1).before args s = true := hs _ (by decide +kernel)
  have harr : (Cond.arrayOf (.arg 0) .int).before args s = true := hs _ (by decide +kernel)
  have hle : (Cond.le (.length (.arg 0)) (.int 2560)).before args s = true := hs _ (by decide +kernel)
  have hlen : (Cond.isInt (.length (.arg 0))).before args s = true := hq _ (by decide +kernel)
  have hall : (Cond.all (.arg 0) (.isInt (.elem (.arg 0) (.index 0)))).before args s = true := hq _ (by decide +kernel)
  obtain ⟨b, xs, hb, hx⟩ := State.ints_of_pre rfl harr hlen hall
  have hsm : xs.length < 2 ^ 31 := hx.choose_spec.2.2.2
  have hev : (Term.length (.arg 0)).eval args s none [] s = some (.int xs.length.toInt32) := hx.length_eval hb
  have hv := Cond.le_ints hev (show (Term.int 2560).eval args s none [] s = some (.int 2560) from rfl)
  have hd : xs.length.toInt32 ≤ 2560 := by
    simpa [Cond.before, Cond.holds, hv] using hle
  have hN : xs.length ≤ 2560 := (Int32.ofNat_le_ofNat hsm (by decide)).mp (show Int32.ofNat xs.length ≤ Int32.ofNat 2560 from hd)
  exact ⟨b, xs, Cond.one_arg hc (show args[0]? = some (.ref b) from hb), hx, hN, h⟩
theorem lw_comes (l : Launch) (hflags : l.flags = flags0) : Comes l x (Jvm.Cond.code x code maxLocals ret :: tables_1) room_1 (fun tb e args s => Calls_1 tb e args s ∧ rest_1 tb e args s ∧ Pre_1 tb e args s)
    (fun _ _ args s o t => lw_Q args s o t) := by
  intro p e ha hc hk s m args below hf hfit hheap happ hpre
  obtain ⟨b, xs, hP⟩ := lw_pre_spec hpre.2.2 hpre.2.1
  obtain ⟨k, o, h1, h2, h3, hQ⟩ := lw_walk l hflags b xs p e ha hc hk s m args below hf ((Spec.applies_iff_loose hf).mp happ).1 hP trivial
  exact ⟨k, o, h1, h2, h3, hQ⟩
theorem lw_frame {s t : State} {o : Outcome} {args : Array Value} (h : Framed s o t [] 600000 7302250) :
    Framed s o t (fieldLocs frame_1_writes args s ++ arrayLocs frame_1_arrays args s ++ staticLocs frame_1_statics s) 600000 7302250 := h
theorem lw_limb (L : Cond) (hL : ∀ (args : Array Value) (s t : State), L.after args s (.returned (some (.int 1))) t = true) :
    ArmFor flags0 classFile x code maxLocals ret World_1 tables_1 room_1 Calls_1 rest_1 Pre_1
      (fun tb e a s o t => postC L tb e a s o t ∧ Framed s o t (fieldLocs frame_1_writes a s ++ arrayLocs frame_1_arrays a s ++ staticLocs frame_1_statics s) 600000 7302250) := by
  intro l hflags _ _ p e ha hc hk s m args below hf hfit hheap happ hpre
  obtain ⟨k, o, h1, h2, h3, rfl, hF⟩ := lw_comes l hflags p e ha hc hk s m args below hf hfit hheap happ hpre
  exact ⟨k, _, h1, h2, h3, hL args s _, lw_frame hF⟩
theorem i_vc : Claimed_1_1 ∧ Claimed_1_2 := ⟨lw_limb limb_1_1 (fun args s t => by simp [limb_1_1, Cond.after, Cond.holds, Cond.value]), lw_limb limb_1_2 (fun args s t => Cond.after_iff.mpr (by
  first | (rw [show limb_1_2 = Cond.eq .result (.int 1) from rfl, Cond.eq_ints (x := 1) (y := 1) rfl rfl]; simp; done) | (simp [limb_1_2, Cond.value, Term.eval]; done)))⟩
