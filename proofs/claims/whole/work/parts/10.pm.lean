/-- the words that go from a method to those that it calls -/
def pm_tbl : List Cond := lw_tbl.filter goodWord
theorem pm_in {w : Cond} (i : Nat) (h : lw_tbl[i]? = some w) (hg : goodWord w = true) : w ∈ pm_tbl := List.mem_filter.mpr ⟨List.mem_of_getElem? h, hg⟩
theorem pm_goodIn {w : Cond} (hw : w ∈ pm_tbl) : GoodIn pm_tbl (w :: pm_tbl) := by
  intro v hv
  have hm : v ∈ pm_tbl := by
    rcases List.mem_cons.mp hv with rfl | h
    · exact hw
    · exact h
  exact ⟨hm, good_of_word (List.mem_filter.mp hm).2⟩
/-- links between nest mates: of a static table, of a method -/
def pm_nF : List (String × Nat × String) := [(RX1, 15, "AT_FIRST"), (RX4, 77, "LEAST"), (RX4, 81, "MOST"), (RX5, 104, "MOST")]
def pm_nM : List (String × Nat × MethodName) := [(RX7, 28, yX4_init), (RX7, 65, yX0_init), (RX7, 70, yX2_init), (RX7, 71, yX3_init), (RX1, 32, yX7_held), (RX4, 145, yX7_within), (RX5, 34, yX1_init), (RX5, 45, yX7_within), (RX6, 11, yX1_init)]
def pm_AOI (U : State) : Prop := (Cond.arrayOver (.array .int)).before #[] U = true
/-! The world as two functions over a shape: ints and longs by address and slot. Addresses are places in the order of making; from 1000 on: what stood before (tables, texts). -/
abbrev pm_I : Type := Nat → Nat → Int32
abbrev pm_J : Type := Nat → Nat → Int64
/-- a field: .inl 0 an int, .inl 1 a long, .inr r a reference -/
abbrev pm_F : Type := Nat ⊕ Option Nat
/-- a cell: a row of numbers (its kind, its length), a row of references, an object (its number, its fields) -/
abbrev pm_S : Type := (Nat × Nat) ⊕ ((Nat × List (Option Nat)) ⊕ (Nat × List pm_F))
/-- where the new cells begin, where the old ones lie, the numbers of the objects' and of the rows' sorts -/
abbrev pm_U : Type := Nat × (Nat → Nat) × va_G × (Nat → ClassId)
def pm_ad (u : pm_U) (k : Nat) : Nat := if k < 1000 then u.1 + k else u.2.1 (k - 1000)
def pm_tr (u : pm_U) (v : Value) : Value := match v with
  | .ref k => .ref (pm_ad u k)
  | w => w
def pm_fv (u : pm_U) (I : pm_I) (J : pm_J) (k j : Nat) (f : pm_F) : Value := match f with
  | .inl 0 => .int (I k j)
  | .inl _ => .long (J k j)
  | .inr none => .null
  | .inr (some r) => .ref (pm_ad u r)
def pm_ce (u : pm_U) (I : pm_I) (J : pm_J) (k : Nat) (d : pm_S) : va_E := match d with
  | .inl q => .inl (u.2.2.2 q.1, q.2, if q.1 = 2 then .inr (.inl (J k)) else .inl (I k))
  | .inr (.inl q) => .inl (u.2.2.2 q.1, q.2.length, .inr (.inr (.inr (.inr (fun j => ((q.2)[j]?).bind (fun o => o.map (pm_ad u)))))))
  | .inr (.inr q) => .inr (q.1, q.2.zipIdx.map (fun x => pm_fv u I J k x.2 x.1))
def pm_ws (u : pm_U) (sh : List pm_S) (I : pm_I) (J : pm_J) : va_W := sh.zipIdx.map (fun x => (pm_ad u x.2, pm_ce u I J x.2 x.1))
def pm_A (u : pm_U) : Nat → Prop := fun q => u.1 ≤ q
def pm_tys (u : pm_U) : List (ClassId × FieldType) := [(u.2.2.2 0, .int), (u.2.2.2 1, .byte), (u.2.2.2 2, .long), (u.2.2.2 3, .object RX1), (u.2.2.2 4, .object RX2), (u.2.2.2 5, .object RX3), (u.2.2.2 6, .array .int)]
/-- int x stands at slot k of a -/
def pm_u (I : pm_I) (a k : Nat) (x : Int32) : pm_I := fun b => if b = a then upd (I a) k x else I b
def pm_uJ (J : pm_J) (a k : Nat) (x : Int64) : pm_J := fun b => if b = a then vp_updL (J a) k x else J b
/-- the static tables -/
def pm_tn (j : Nat) : String := match j with
  | 0 => "UNDER"
  | 1 => "LEAST"
  | 2 => "MOST"
  | _ => "AT_FIRST"
def pm_tv (j : Nat) : List Int32 := match j with
  | 0 => [-1, 0, 0, 2, 1, 0]
  | 1 => [0, 0, 0, 0, 1, 0, 0, 0, 0]
  | 2 => [5, 9, 5, 99, 99, 999, 999, 99, 9]
  | _ => [0, 0, 0, 0, 50, 100, 50, 20, 1]
/-- the texts: entry of the pool, text, bytes -/
def pm_tx (i : Nat) : Nat × String × List Int32 := match i with
  | 0 => (134, "balloon", [98, 97, 108, 108, 111, 111, 110])
  | 1 => (124, "silk", [115, 105, 108, 107])
  | 2 => (126, "leaky", [108, 101, 97, 107, 121])
  | 3 => (128, "patched", [112, 97, 116, 99, 104, 101, 100])
  | 4 => (130, "chapel", [99, 104, 97, 112, 101, 108])
  | 5 => (132, "barge", [98, 97, 114, 103, 101])
  | 6 => (84, "in", [105, 110])
  | 7 => (103, "gas", [103, 97, 115])
  | 8 => (109, "sand", [115, 97, 110, 100])
  | 9 => (111, "rope", [114, 111, 112, 101])
  | 10 => (113, "bread", [98, 114, 101, 97, 100])
  | 11 => (115, "mouths", [109, 111, 117, 116, 104, 115])
  | 12 => (47, "warm", [119, 97, 114, 109])
  | 13 => (57, "cold", [99, 111, 108, 100])
  | _ => (59, "gap", [103, 97, 112])
def pm_txl : List Nat := (List.range 15).map (fun i => (pm_tx i).2.2.length)
def pm_txb : List (List Int32) := (List.range 15).map (fun i => (pm_tx i).2.2)
/-- what stands since before: the sorts' numbers, the tables, the texts -/
def pm_K (u : pm_U) (s : State) (H : Heap) : Prop :=
  va_K u.2.2.1 vwCl (pm_tys u) s ∧ (∀ j, j < 4 → va_Z RX7 (pm_tn j) "[I" (.ref (u.2.1 j)) (pm_A u) s H ∧ va_T .int (u.2.1 j) (pm_tv j).length (fun i => .int ((pm_tv j).getD i 0)) (pm_A u) s H) ∧ (∀ i, i < 15 → vk_R RX4 (pm_tx i).1 (pm_tx i).2.1 (u.2.1 (10 + i)) s) ∧
  vk_S 15 pm_txl pm_txb (fun i => u.2.1 (10 + i)) (fun i => u.2.1 (30 + i)) (pm_A u) s H ∧ va_Z "java/lang/String" "COMPACT_STRINGS" "Z" (.int 1) (pm_A u) s H ∧ va_Zq "jdk/internal/util/Preconditions" "SIOOBE_FORMATTER" "Ljava/util/function/BiFunction;" (pm_A u) s H ∧
  (∀ q ∈ pm_nF, va_Nw (.fieldLinkNest q.1 q.2.1 RX7 q.2.2 "[I" RX7) s) ∧ (∀ q ∈ pm_nM, va_Nw (.methodLinkNest q.1 q.2.1 q.2.2 RX7) s) ∧ (va_AO RX1 s ∧ va_AO RX2 s ∧ va_AO RX3 s ∧ pm_AOI s)
def pm_Wd (u : pm_U) (sh : List pm_S) (I : pm_I) (J : pm_J) (H : Heap) : Prop := va_P u.2.2.1 vwCl (pm_ws u sh I J) H ∧ H.size = u.1 + sh.length ∧ sh.length ≤ 1000
theorem pm_K.go {u : pm_U} {s U : State} {H : Heap} (hW : s.WarmedH U.vm) (hq : ∀ a : Nat, a < s.heap.size → ¬ pm_A u a → H[a]? = s.heap[a]?) (h : pm_K u s s.heap) : pm_K u U H := by
  obtain ⟨h1, h2, h3, h4, h5, h6, h7, h8, h9, h10, h11, h12⟩ := h
  exact ⟨va_K.moved hW.alike h1, fun j hj => ⟨va_Z.moved hW.alike ((h2 j hj).1.kept hq), va_T.moved hW.alike ((h2 j hj).2.kept hq)⟩, fun i hi => vk_R.warm hW (h3 i hi), vk_S.moved hW.alike (h4.kept hq), va_Z.moved hW.alike (h5.kept hq), va_Zq.moved hW.alike (h6.kept hq), fun q hq => va_Nw.warmF hW (h7 q hq), fun q hq => va_Nw.warmM hW (h8 q hq), h9.moved hW.alike, h10.moved hW.alike, h11.moved hW.alike, arrayOver_alikeB hW.alike h12⟩
theorem pm_K.same {u : pm_U} {s U : State} {H : Heap} (hv : U.vm = s.vm) (h : pm_K u s H) : pm_K u U H := by
  obtain ⟨h1, h2, h3, h4, h5, h6, h7, h8, h9, h10, h11, h12⟩ := h
  have ha : s.vm.Alike U.vm := by rw [hv]; exact Vm.Alike.refl _
  exact ⟨va_K.moved ha h1, fun j hj => ⟨va_Z.moved ha (h2 j hj).1, va_T.moved ha (h2 j hj).2⟩, fun i hi => vk_R.same hv (h3 i hi), vk_S.moved ha h4, va_Z.moved ha h5, va_Zq.moved ha h6, fun q hq => va_Nw.same rfl hv.symm (h7 q hq), fun q hq => va_Nw.same rfl hv.symm (h8 q hq), h9.moved ha, h10.moved ha, h11.moved ha, arrayOver_alikeB ha h12⟩
theorem pm_ws_get {u : pm_U} {sh : List pm_S} {I : pm_I} {J : pm_J} {k : Nat} {d : pm_S} (h : sh[k]? = some d) : (pm_ws u sh I J)[k]? = some (pm_ad u k, pm_ce u I J k d) := by
  simp [pm_ws, h]
theorem pm_ws_len {u : pm_U} {sh : List pm_S} {I : pm_I} {J : pm_J} : (pm_ws u sh I J).length = sh.length := by simp [pm_ws]
theorem pm_ws_inv {u : pm_U} {sh : List pm_S} {I : pm_I} {J : pm_J} {k : Nat} {q : Nat × va_E} (h : (pm_ws u sh I J)[k]? = some q) : ∃ d, sh[k]? = some d ∧ q = (pm_ad u k, pm_ce u I J k d) := by
  have hk : k < sh.length := by rw [← pm_ws_len (u := u) (I := I) (J := J)]; exact (List.getElem?_eq_some_iff.mp h).1
  have h1 := pm_ws_get (u := u) (I := I) (J := J) (List.getElem?_eq_getElem hk)
  exact ⟨_, List.getElem?_eq_getElem hk, Option.some.inj (h.symm.trans h1)⟩
theorem pm_ad_lo {u : pm_U} {k : Nat} (h : k < 1000) : pm_ad u k = u.1 + k := if_pos h
theorem pm_ws_D {u : pm_U} {sh : List pm_S} {I : pm_I} {J : pm_J} (h : sh.length ≤ 1000) : va_D (pm_A u) (pm_ws u sh I J) := by
  refine ⟨fun i j p q hi hj e => ?_, fun k q hk => ?_⟩
  · have li := (List.getElem?_eq_some_iff.mp hi).1
    have lj := (List.getElem?_eq_some_iff.mp hj).1
    rw [pm_ws_len] at li lj
    obtain ⟨d, -, rfl⟩ := pm_ws_inv hi
    obtain ⟨d', -, rfl⟩ := pm_ws_inv hj
    have e2 : pm_ad u i = pm_ad u j := e
    rw [pm_ad_lo (by omega), pm_ad_lo (by omega)] at e2
    omega
  · have lk := (List.getElem?_eq_some_iff.mp hk).1
    rw [pm_ws_len] at lk
    obtain ⟨d, -, rfl⟩ := pm_ws_inv hk
    show u.1 ≤ pm_ad u k
    rw [pm_ad_lo (by omega)]
    omega
/-- one cell otherwise -/
theorem pm_ws_set {u : pm_U} {sh : List pm_S} {I I' : pm_I} {J J' : pm_J} {k : Nat} {d' : pm_S} (hk : k < sh.length) (hI : ∀ a, a ≠ k → I' a = I a) (hJ : ∀ a, a ≠ k → J' a = J a) :
    (pm_ws u sh I J).set k (pm_ad u k, pm_ce u I' J' k d') = pm_ws u (sh.set k d') I' J' := by
  apply List.ext_getElem?
  intro i
  by_cases hi : i = k
  · subst hi
    rw [List.getElem?_set_self (by rw [pm_ws_len]; exact hk), pm_ws_get (List.getElem?_set_self hk)]
  · rw [List.getElem?_set_ne (Ne.symm hi)]
    by_cases hl : i < sh.length
    · rw [pm_ws_get (List.getElem?_eq_getElem hl), pm_ws_get (d := sh[i]) (by rw [List.getElem?_set_ne (Ne.symm hi)]; exact List.getElem?_eq_getElem hl)]
      have e : pm_ce u I J i sh[i] = pm_ce u I' J' i sh[i] := by
        have e1 : ∀ (j : Nat) (f : pm_F), pm_fv u I J i j f = pm_fv u I' J' i j f := by
          intro j f
          unfold pm_fv
          rw [hI i hi, hJ i hi]
        rcases sh[i] with q | q | q
        · simp only [pm_ce]; rw [hI i hi, hJ i hi]
        · rfl
        · simp only [pm_ce]
          congr 2
          apply List.map_congr_left
          intro x _
          exact e1 _ _
      rw [e]
    · rw [List.getElem?_eq_none (by rw [pm_ws_len]; omega), List.getElem?_eq_none (by rw [pm_ws_len, List.length_set]; omega)]
theorem pm_ws_same {u : pm_U} {sh : List pm_S} {I I' : pm_I} {J J' : pm_J} {k : Nat} {d : pm_S} (hk : sh[k]? = some d) (hI : ∀ a, a ≠ k → I' a = I a) (hJ : ∀ a, a ≠ k → J' a = J a) :
    (pm_ws u sh I J).set k (pm_ad u k, pm_ce u I' J' k d) = pm_ws u sh I' J' := by
  have hl := (List.getElem?_eq_some_iff.mp hk)
  rw [pm_ws_set hl.1 hI hJ]
  congr 1
  rw [← hl.2]
  exact List.set_getElem_self hl.1
theorem pm_u_at {I : pm_I} {a k : Nat} {x : Int32} : pm_u I a k x a = upd (I a) k x := if_pos rfl
theorem pm_u_off {I : pm_I} {a k b : Nat} {x : Int32} (h : b ≠ a) : pm_u I a k x b = I b := if_neg h
theorem pm_uJ_at {J : pm_J} {a k : Nat} {x : Int64} : pm_uJ J a k x a = vp_updL (J a) k x := if_pos rfl
theorem pm_uJ_off {J : pm_J} {a k b : Nat} {x : Int64} (h : b ≠ a) : pm_uJ J a k x b = J b := if_neg h
/-- all that a walk holds fast -/
abbrev pm_T : Type := Program × Launch × Env × Room × State × MethodId × Array Value × List Frame × Method × Code × (State → Prop) × pm_U × Nat
/-- from here the machine comes to its end: at pc, with these locals, this stack, this world -/
def pm_G (Γ : pm_T) (cells slots pc : Nat) (L : List (Nat × Value)) (st : List Value) (sh : List pm_S) (I : pm_I) (J : pm_J) : Prop := match Γ with
  | (p, l, e, R, s, m, args, below, meth, c, Q, u, nL) => ∀ (H : Heap) (locs : List Loc) (ls : Array Slot), pm_Wd u sh I J H → va_S (pm_A u) s.heap H locs → lv_has ls nL (L.map fun q => (q.1, pm_tr u q.2)) → cells ≤ R.cells → slots ≤ R.slots → W p l e R s m args below meth c H locs cells slots Q (F0 m pc ls (st.map (pm_tr u)))
/-- the frame of a walk: the code, whose it is, how deep calls may go, how many locals -/
def pm_Cx (Γ : pm_T) (own : String) (cc : ByteArray) (d n : Nat) : Prop := match Γ with
  | (p, _, _, R, s, m, args, _, meth, c, _, u, nL) => p.tables.exec = Jvm.exec ∧ c.code = cc ∧ c.maxLocals = nL ∧ nL = n ∧ s.vm.findClass own = some m.cls ∧ (∀ w ∈ pm_tbl, w.before args s = true) ∧ meth.locks = false ∧ pm_K u s s.heap ∧ d ≤ R.frames ∧ 36 * d ≤ R.locals ∧ u.1 ≤ s.heap.size
def pm_Qc (u : pm_U) (Post : Option Value → List pm_S → pm_I → pm_J → Prop) : Array Value → State → Outcome → State → Prop := fun _ st oc t => (∃ (r : Option Value) (sh' : List pm_S) (I' : pm_I) (J' : pm_J), oc = .returned (r.map (pm_tr u)) ∧ Post r sh' I' J' ∧ pm_Wd u sh' I' J' t.heap) ∧ va_F (pm_A u) st t
/-- its end -/
def pm_Ct (Γ : pm_T) (nm : String) (ret : Option FieldType) (mc ms : Nat) (Post : Option Value → List pm_S → pm_I → pm_J → Prop) : Prop := match Γ with
  | (_, _, _, R, s, _, args, below, meth, _, Q, u, _) => meth.name = nm ∧ meth.sig.returnType = ret ∧ Q = MQ below (pm_Qc u Post) args s mc ms (pm_A u) ∧ R.cells = mc ∧ R.slots = ms
def pm_rm (d mc ms : Nat) : Room := { frames := d, cells := mc, slots := ms, locals := 36 * d }
/-- a method's contract -/
def pm_M (d mc ms : Nat) (y : MethodName) (bytes : ByteArray) (maxL : Nat) (ret : Option FieldType) (av : List Value) (sh : List pm_S) (I : pm_I) (J : pm_J) (Post : Option Value → List pm_S → pm_I → pm_J → Prop) : Prop :=
  ∀ (l : Launch) (u : pm_U), Met l y (.code y bytes maxL ret :: pm_tbl) (pm_rm d mc ms) (va_Pc (av.map (pm_tr u)) (fun U => pm_Wd u sh I J U.heap ∧ pm_K u U U.heap)) (pm_Qc u Post) mc ms (pm_A u)
theorem pm_tr_cat (u : pm_U) (v : Value) : (pm_tr u v).category = v.category := by cases v <;> rfl
theorem pm_args (u : pm_U) : ∀ (vs : List Value) (i : Nat), lv_args i (vs.map (pm_tr u)) = (lv_args i vs).map fun q => (q.1, pm_tr u q.2)
  | [], _ => rfl
  | v :: vs, i => by
    show (i, pm_tr u v) :: lv_args (if (pm_tr u v).category = 2 then i + 2 else i + 1) (vs.map (pm_tr u)) = _
    rw [pm_tr_cat, pm_args u vs]
    rfl
theorem pm_sl (u : pm_U) : ∀ (vs : List Value), (lg_sl (vs.map (pm_tr u))).length = (lg_sl vs).length
  | [] => rfl
  | v :: vs => by
    have e : lg_sl ((v :: vs).map (pm_tr u)) = (if (pm_tr u v).category = 2 then [.val (pm_tr u v), .second] else [.val (pm_tr u v)]) ++ lg_sl (vs.map (pm_tr u)) := rfl
    have e2 : lg_sl (v :: vs) = (if v.category = 2 then [.val v, .second] else [.val v]) ++ lg_sl vs := rfl
    rw [e, e2, List.length_append, List.length_append, pm_sl u vs, pm_tr_cat]
    split <;> rfl
/-- how a contract's proof begins -/
theorem pm_start {d mc ms : Nat} {y : MethodName} {bytes : ByteArray} {maxL : Nat} {ret : Option FieldType} {av : List Value} {sh : List pm_S} {I : pm_I} {J : pm_J} {Post : Option Value → List pm_S → pm_I → pm_J → Prop} {own nm : String} (hy : plainName y.cls = true) (ho : y.cls = own) (hnm : y.name = nm) {L : List (Nat × Value)} (hL : lv_args 0 av = L) (hn : (lg_sl av).length ≤ maxL)
    (k : ∀ Γ : pm_T, pm_Cx Γ own bytes d maxL → pm_Ct Γ nm ret mc ms Post → pm_G Γ 0 0 0 L [] sh I J) : pm_M d mc ms y bytes maxL ret av sh I J Post := by
  intro l u
  refine Met.ofW (cc := bytes) (maxL := maxL) (ret := ret) hy rfl ?_
  intro p e s m args below meth c s₁ B hml hv
  obtain ⟨rfl, hWd, hK⟩ := hv
  have hts := atoms_spec (ws := .code y bytes maxL ret :: pm_tbl) B.pre
  have hown : s.vm.findClass own = some m.cls := by rw [← ho]; exact findClass_of_methodNamed B.named
  have hname : meth.name = nm := (name_of_methodNamed B.named B.method).1.trans hnm
  have h := k (p, l, e, pm_rm d mc ms, s, m, (av.map (pm_tr u)).toArray, below, meth, c, MQ below (pm_Qc u Post) (av.map (pm_tr u)).toArray s mc ms (pm_A u), u, maxL)
    ⟨B.exec, B.bytes, hml, rfl, hown, fun w hw => hts w (List.mem_cons_of_mem _ hw), B.notSynchronized, hK, Nat.le_refl _, Nat.le_refl _, by rw [hWd.2.1]; omega⟩ ⟨hname, B.returns, rfl, rfl, rfl⟩
  rw [lg_entry_eq]
  have hl := lv_entry (av.map (pm_tr u)) (n := maxL) (by rw [pm_sl]; exact hn)
  rw [pm_args, hL] at hl
  exact h s.heap [] _ hWd va_S.rf hl (Nat.zero_le _) (Nat.zero_le _)
