/-! One rule an instruction, over pm_G -/
theorem pm_lk {u : pm_U} {ls : Array Slot} {nL : Nat} {L : List (Nat × Value)} {i j : Nat} {v : Value} (h : lv_has ls nL (L.map fun q => (q.1, pm_tr u q.2))) (hj : L[j]? = some (i, v)) : ls[i]? = some (.val (pm_tr u v)) := lv_at h j (by rw [List.getElem?_map, hj]; rfl)
theorem pm_ad_hi (u : pm_U) (j : Nat) : pm_ad u (1000 + j) = u.2.1 j := by
  unfold pm_ad
  rw [if_neg (by omega), Nat.add_sub_cancel_left]
def pm_ins (i : Nat) (v : Value) : List (Nat × Value) → List (Nat × Value)
  | [] => [(i, v)]
  | q :: l => if i < q.1 then (i, v) :: q :: l else q :: pm_ins i v l
theorem pm_ins_mem {i : Nat} {v : Value} {q : Nat × Value} : ∀ {l : List (Nat × Value)}, q ∈ pm_ins i v l → q = (i, v) ∨ q ∈ l
  | [], h => Or.inl (List.mem_singleton.mp h)
  | x :: l, h => by
    unfold pm_ins at h
    split at h
    · rcases List.mem_cons.mp h with h | h
      · exact Or.inl h
      · exact Or.inr h
    · rcases List.mem_cons.mp h with h | h
      · exact Or.inr (h ▸ List.mem_cons_self)
      · rcases pm_ins_mem h with h | h
        · exact Or.inl h
        · exact Or.inr (List.mem_cons_of_mem _ h)
def pm_st (L : List (Nat × Value)) (i : Nat) (v : Value) : List (Nat × Value) := pm_ins i v (L.filter (fun q => !(q.1 == i) && !(q.1 + 1 == i && q.2.category == 2)))
def pm_stl (L : List (Nat × Value)) (i : Nat) (v : Value) : List (Nat × Value) := pm_ins i v (L.filter (fun q => !(q.1 == i) && (!(q.1 == i + 1) && !(q.1 + 1 == i && q.2.category == 2))))
theorem pm_st_has {u : pm_U} {ls : Array Slot} {nL : Nat} {L : List (Nat × Value)} {i : Nat} {v : Value} (h : lv_has ls nL ((i, pm_tr u v) :: (L.map fun q => (q.1, pm_tr u q.2)).filter (fun q => !(q.1 == i) && !(q.1 + 1 == i && q.2.category == 2)))) : lv_has ls nL ((pm_st L i v).map fun q => (q.1, pm_tr u q.2)) := by
  refine ⟨h.1, h.2.1, fun q hm => h.2.2 q ?_⟩
  obtain ⟨q0, hm0, rfl⟩ := List.mem_map.mp hm
  rcases pm_ins_mem hm0 with rfl | hm1
  · exact List.mem_cons_self
  · obtain ⟨m1, m2⟩ := List.mem_filter.mp hm1
    refine List.mem_cons_of_mem _ (List.mem_filter.mpr ⟨List.mem_map.mpr ⟨q0, m1, rfl⟩, ?_⟩)
    show (!(q0.1 == i) && !(q0.1 + 1 == i && (pm_tr u q0.2).category == 2)) = true
    rw [pm_tr_cat]
    exact m2
theorem pm_stl_has {u : pm_U} {ls : Array Slot} {nL : Nat} {L : List (Nat × Value)} {i : Nat} {v : Value} (h : lv_has ls nL ((i, pm_tr u v) :: (L.map fun q => (q.1, pm_tr u q.2)).filter (fun q => !(q.1 == i) && (!(q.1 == i + 1) && !(q.1 + 1 == i && q.2.category == 2))))) : lv_has ls nL ((pm_stl L i v).map fun q => (q.1, pm_tr u q.2)) := by
  refine ⟨h.1, h.2.1, fun q hm => h.2.2 q ?_⟩
  obtain ⟨q0, hm0, rfl⟩ := List.mem_map.mp hm
  rcases pm_ins_mem hm0 with rfl | hm1
  · exact List.mem_cons_self
  · obtain ⟨m1, m2⟩ := List.mem_filter.mp hm1
    refine List.mem_cons_of_mem _ (List.mem_filter.mpr ⟨List.mem_map.mpr ⟨q0, m1, rfl⟩, ?_⟩)
    show (!(q0.1 == i) && (!(q0.1 == i + 1) && !(q0.1 + 1 == i && (pm_tr u q0.2).category == 2))) = true
    rw [pm_tr_cat]
    exact m2
/-- a link to a field, read; written; written as final by its own maker -/
def pm_fl (own : String) (idx ci q : Nat) : Prop := ∃ (C : String) (T : u_T) (N : Nat), vwCl[ci]? = some (C, T, N) ∧ q < N ∧ Cond.fieldLink own idx (T q).1 (T q).2.1 (T q).2.2.1 ∈ pm_tbl ∧ (∀ w ∈ u_ws C T N, w ∈ pm_tbl)
def pm_fp (own : String) (idx ci q : Nat) (fin : Bool) (ty : FieldType) : Prop := ∃ (C : String) (T : u_T) (N : Nat) (ty9 : Nat → FieldType), vwCl[ci]? = some (C, T, N) ∧ q < N ∧ Cond.fieldLink own idx (T q).1 (T q).2.1 (T q).2.2.1 ∈ pm_tbl ∧ (∀ w ∈ u_ws C T N, w ∈ pm_tbl) ∧
  (∀ k, k < N → parseFieldDescriptor (T k).2.2.1 = some (ty9 k)) ∧ (∀ a, a < N → ∀ b, b < N → a ≠ b → (T a).2.1 ≠ (T b).2.1) ∧ (T q).2.2.2 = fin ∧ parseFieldDescriptor (T q).2.2.1 = some ty ∧ (fin = true → (T q).1 = own)
theorem pm_fget {u : pm_U} {I : pm_I} {J : pm_J} {a q : Nat} {fs : List pm_F} {f : pm_F} (h : fs[q]? = some f) : (fs.zipIdx.map (fun x => pm_fv u I J a x.2 x.1))[q]? = some (pm_fv u I J a q f) := by simp [h]
theorem pm_flen {u : pm_U} {I : pm_I} {J : pm_J} {a q : Nat} {fs : List pm_F} {f : pm_F} (h : fs[q]? = some f) : q < (fs.zipIdx.map (fun x => pm_fv u I J a x.2 x.1)).length := by
  rw [List.length_map, List.length_zipIdx]
  exact (List.getElem?_eq_some_iff.mp h).1
/-- an object's fields, one otherwise -/
theorem pm_fset {u : pm_U} {I I' : pm_I} {J J' : pm_J} {a q : Nat} {fs : List pm_F} {f f' : pm_F} (h : fs[q]? = some f) (hI : ∀ j, j ≠ q → I' a j = I a j) (hJ : ∀ j, j ≠ q → J' a j = J a j) :
    (fs.zipIdx.map (fun x => pm_fv u I J a x.2 x.1)).set q (pm_fv u I' J' a q f') = (fs.set q f').zipIdx.map (fun x => pm_fv u I' J' a x.2 x.1) := by
  have hq := (List.getElem?_eq_some_iff.mp h).1
  apply List.ext_getElem?
  intro i
  by_cases hi : i = q
  · subst hi
    rw [List.getElem?_set_self (by rw [List.length_map, List.length_zipIdx]; exact hq), pm_fget (f := f') (List.getElem?_set_self hq)]
  · rw [List.getElem?_set_ne (Ne.symm hi)]
    by_cases hl : i < fs.length
    · rw [pm_fget (List.getElem?_eq_getElem hl), pm_fget (f := fs[i]) (by rw [List.getElem?_set_ne (Ne.symm hi)]; exact List.getElem?_eq_getElem hl)]
      congr 1
      unfold pm_fv
      rw [hI i hi, hJ i hi]
    · rw [List.getElem?_eq_none (by simp; omega), List.getElem?_eq_none (by simp; omega)]
theorem pm_upd_off {f : Nat → Int32} {k j : Nat} {x : Int32} (h : j ≠ k) : upd f k x j = f j := pk_un h
theorem pm_oset {u : pm_U} {sh : List pm_S} {I I' : pm_I} {J J' : pm_J} {a ci q : Nat} {fs : List pm_F} {f f' : pm_F} (ha : sh[a]? = some (.inr (.inr (ci, fs)))) (hq : fs[q]? = some f) (hI : ∀ b, b ≠ a → I' b = I b) (hJ : ∀ b, b ≠ a → J' b = J b) (hI2 : ∀ j, j ≠ q → I' a j = I a j) (hJ2 : ∀ j, j ≠ q → J' a j = J a j) :
    (pm_ws u sh I J).set a (pm_ad u a, .inr (ci, (fs.zipIdx.map (fun x => pm_fv u I J a x.2 x.1)).set q (pm_fv u I' J' a q f'))) = pm_ws u (sh.set a (.inr (.inr (ci, fs.set q f')))) I' J' := by
  rw [pm_fset hq hI2 hJ2]
  exact pm_ws_set (d' := .inr (.inr (ci, fs.set q f'))) (List.getElem?_eq_some_iff.mp ha).1 hI hJ
theorem pm_shset {sh : List pm_S} {a : Nat} {d : pm_S} (h : sh[a]? = some d) : sh.set a d = sh := by
  obtain ⟨h1, h2⟩ := List.getElem?_eq_some_iff.mp h
  rw [← h2]
  exact List.set_getElem_self h1
theorem pm_fsset {fs : List pm_F} {a : Nat} {d : pm_F} (h : fs[a]? = some d) : fs.set a d = fs := by
  obtain ⟨h1, h2⟩ := List.getElem?_eq_some_iff.mp h
  rw [← h2]
  exact List.set_getElem_self h1
section PMW
variable {p : Program} {l : Launch} {e : Env} {R : Room} {s : State} {m : MethodId} {args : Array Value} {below : List Frame} {meth : Method} {c : Code} {H : Heap} {locs : List Loc} {cells slots : Nat} {Q : State → Prop} {own : String} {cc : ByteArray} {pc : Nat} {ls : Array Slot} {rest : List Value} {u : pm_U} {sh sh' : List pm_S} {I I' : pm_I} {J J' : pm_J}
theorem pm_put {idx a ci q : Nat} {fs : List pm_F} {ty : FieldType} {v : Value} {fin : Bool} (hx : p.tables.exec = Jvm.exec) (hb : c.code = cc) (hown : s.vm.findClass own = some m.cls) (hts : ∀ w ∈ pm_tbl, w.before args s = true) (hK : va_K u.2.2.1 vwCl (pm_tys u) s) (hW : pm_Wd u sh I J H) (hS : va_S (pm_A u) s.heap H locs) (hd : decode cc pc = .ok (.putfield idx, 3)) (K : pm_fp own idx ci q fin ty) (hfin : fin = true → meth.name = "<init>") (hn : narrow ty v = v) (hf : fits ty v = true) (ha : sh[a]? = some (.inr (.inr (ci, fs)))) (hq : q < fs.length) (hlen : sh'.length = sh.length)
    (hset : (pm_ws u sh I J).set a (pm_ad u a, .inr (ci, (fs.zipIdx.map (fun x => pm_fv u I J a x.2 x.1)).set q v)) = pm_ws u sh' I' J')
    (k : ∀ (H1 : Heap) (locs1 : List Loc), pm_Wd u sh' I' J' H1 → va_S (pm_A u) s.heap H1 locs1 → W p l e R s m args below meth c H1 locs1 cells slots Q (F0 m (pc + 3) ls rest)) : W p l e R s m args below meth c H locs cells slots Q (F0 m pc ls (v :: .ref (pm_ad u a) :: rest)) := by
  obtain ⟨C9, T9, N9, ty9, k1, k2, k3, k4, k5, k6, k7, k8, k9⟩ := K
  have hD := pm_ws_D (u := u) (I := I) (J := J) hW.2.2
  have he := pm_ws_get (u := u) (I := I) (J := J) ha
  have hap := va_apart (own := own) hts k4 ty9 k5 k6 hK k1
  obtain ⟨r, h1, cell, q1, q2, q3, q4⟩ := hW.1 a _ he
  have hr : r = (C9, T9, N9) := Option.some.inj (h1.symm.trans k1)
  subst hr
  obtain ⟨hS9, hfc, kC, hkC, hkind⟩ := hK.1 ci _ k1
  obtain ⟨cf, kf, fi, f, hi, hsl⟩ := hS9 q k2
  have hlay := hts _ (k4 _ (u_in_lay k2))
  unfold u_lay at hlay
  have hst := (u_facts hfc hkC (u_lays hts k4 k2) hi).1
  have key : ∀ (H1 : Heap) (locs1 : List Loc), H1[pm_ad u a]? = some (cell.setSlot (u.2.2.1.2 ci q) v) → H1.size = H.size → (∀ x : Nat, x ≠ pm_ad u a → H1[x]? = H[x]?) → W p l e R s m args below meth c H1 (locs ++ [⟨pm_ad u a, u.2.2.1.2 ci q⟩]) cells slots Q (F0 m (pc + 3) ls rest) := by
    intro H1 locs1 e1 e2 e3
    have hP1 := hW.1.set hD he (e := .inr (ci, (fs.zipIdx.map (fun x => pm_fv u I J a x.2 x.1)).set q v)) ⟨_, k1, t_OB.to (V := updV (vp_V (fs.zipIdx.map (fun x => pm_fv u I J a x.2 x.1))) q v) ⟨_, e1, q2, q3, t_set q4 hap k2 _⟩ (fun j _ => vp_updV_set (by rw [List.length_map, List.length_zipIdx]; exact hq) _ j)⟩ e3
    rw [hset] at hP1
    exact k H1 _ ⟨hP1, by rw [e2, hW.2.1, hlen], by rw [hlen]; exact hW.2.2⟩ (hS.put e2 e3 (hD.2 a _ he))
  cases fin with
  | false =>
    rw [if_neg (by rw [k7]; decide)] at hlay
    refine W.putK hx hb (f := f) ⟨hown, hts _ k3, ⟨_, _, _, hi⟩, hst⟩ (by rw [q2]; exact u_store hfc hkC hkind hlay hi k8 hn hf) q1 q3 (by rw [hsl]; exact k2_hasslot (q4 q k2)) rfl rfl hd fun H1 e1 e2 e3 => ?_
    rw [hsl] at e1 ⊢
    exact key H1 locs e1 e2 e3
  | true =>
    rw [if_pos k7] at hlay
    have hcf : m.cls = cf := by
      obtain ⟨_, _, c', _, _, _, -, -, hf', -, -, -, hown2, -⟩ := Cond.laysFinal_spec hlay
      have e1 : c' = cf := by have := hi.symm.trans hf'; simp at this; exact this.1.symm
      rw [k9 rfl] at hown2
      rw [← e1]; exact Option.some.inj (hown.symm.trans hown2)
    refine W.putFinK hx hb hown (hts _ k3) hi hst hcf (hfin rfl) (by rw [q2]; exact u_fits hfc hkC hkind (Or.inr hlay) hi k8 hn hf) q1 q3 (by rw [hsl]; exact k2_hasslot (q4 q k2)) rfl rfl hd fun H1 e1 e2 e3 => ?_
    rw [hsl] at e1 ⊢
    exact key H1 locs e1 e2 e3
theorem pm_clamp {i : Int32} {j N : Nat} (hi : i = nI j) (hj : j < N) (hN : N ≤ 100000) : i.toNatClampNeg = j ∧ vp_in i N := by
  subst hi
  exact ⟨nI_clamp (by omega), vp_in_nI hj (by omega)⟩
/-- a store into a row, after the machine's own step -/
theorem pm_ast {a : Nat} {d : pm_S} {H1 : Heap} {x : Nat} (hW : pm_Wd u sh I J H) (hS : va_S (pm_A u) s.heap H locs) (ha : sh[a]? = some d) (hI : ∀ b, b ≠ a → I' b = I b) (hJ : ∀ b, b ≠ a → J' b = J b) (he : va_at u.2.2.1 vwCl (pm_ad u a, pm_ce u I' J' a d) H1) (z : H1.size = H.size) (oq : ∀ q : Nat, q ≠ pm_ad u a → H1[q]? = H[q]?) : pm_Wd u sh I' J' H1 ∧ va_S (pm_A u) s.heap H1 (locs ++ [⟨pm_ad u a, x⟩]) := by
  have hD := pm_ws_D (u := u) (I := I) (J := J) hW.2.2
  have h0 := pm_ws_get (u := u) (I := I) (J := J) ha
  have hP1 := hW.1.set hD h0 he oq
  rw [pm_ws_same ha hI hJ] at hP1
  exact ⟨⟨hP1, z.trans hW.2.1, hW.2.2⟩, hS.put z oq (hD.2 a _ h0)⟩
end PMW
section PMR
variable {Γ : pm_T} {own : String} {cc : ByteArray} {d n cells slots pc : Nat} {L : List (Nat × Value)} {st : List Value} {sh : List pm_S} {I : pm_I} {J : pm_J}
theorem g_iconst {z : Int} {v : Int32} (C : pm_Cx Γ own cc d n) (hd : decode cc pc = .ok (.iconst z, 1)) (hv : Int32.ofInt z = v) (k : pm_G Γ cells slots (pc + 1) L (.int v :: st) sh I J) : pm_G Γ cells slots pc L st sh I J := by
  obtain ⟨p, l, e, R, s, m, args, below, meth, c, Q, u, nL⟩ := Γ
  obtain ⟨hx, hb, hml, rfl, hown, hts, hlk, hK, hfr, hlo, hB⟩ := C
  intro H locs ls hW hS hl hc hs
  exact lv_iconst hx hb hd hv (k H locs ls hW hS hl hc hs)
theorem g_bipush {z : Int} {v : Int32} (C : pm_Cx Γ own cc d n) (hd : decode cc pc = .ok (.bipush z, 2)) (hv : (Int8.ofInt z).toInt32 = v) (k : pm_G Γ cells slots (pc + 2) L (.int v :: st) sh I J) : pm_G Γ cells slots pc L st sh I J := by
  obtain ⟨p, l, e, R, s, m, args, below, meth, c, Q, u, nL⟩ := Γ
  obtain ⟨hx, hb, hml, rfl, hown, hts, hlk, hK, hfr, hlo, hB⟩ := C
  intro H locs ls hW hS hl hc hs
  exact lv_bipush hx hb hd hv (k H locs ls hW hS hl hc hs)
theorem g_sipush {z : Int} {v : Int32} (C : pm_Cx Γ own cc d n) (hd : decode cc pc = .ok (.sipush z, 3)) (hv : (Int16.ofInt z).toInt32 = v) (k : pm_G Γ cells slots (pc + 3) L (.int v :: st) sh I J) : pm_G Γ cells slots pc L st sh I J := by
  obtain ⟨p, l, e, R, s, m, args, below, meth, c, Q, u, nL⟩ := Γ
  obtain ⟨hx, hb, hml, rfl, hown, hts, hlk, hK, hfr, hlo, hB⟩ := C
  intro H locs ls hW hS hl hc hs
  exact lv_sipush hx hb hd hv (k H locs ls hW hS hl hc hs)
theorem g_lconst {z : Fin 2} {v : Int64} (C : pm_Cx Γ own cc d n) (hd : decode cc pc = .ok (.lconst z, 1)) (hv : Int64.ofNat (z : Nat) = v) (k : pm_G Γ cells slots (pc + 1) L (.long v :: st) sh I J) : pm_G Γ cells slots pc L st sh I J := by
  obtain ⟨p, l, e, R, s, m, args, below, meth, c, Q, u, nL⟩ := Γ
  obtain ⟨hx, hb, hml, rfl, hown, hts, hlk, hK, hfr, hlo, hB⟩ := C
  intro H locs ls hW hS hl hc hs
  exact lv_lconst hx hb hd hv (k H locs ls hW hS hl hc hs)
theorem g_ldc {idx : Nat} {v : Int32} (C : pm_Cx Γ own cc d n) (hd : decode cc pc = .ok (.ldc idx, 2)) (hw : Cond.constant own idx v ∈ pm_tbl) (k : pm_G Γ cells slots (pc + 2) L (.int v :: st) sh I J) : pm_G Γ cells slots pc L st sh I J := by
  obtain ⟨p, l, e, R, s, m, args, below, meth, c, Q, u, nL⟩ := Γ
  obtain ⟨hx, hb, hml, rfl, hown, hts, hlk, hK, hfr, hlo, hB⟩ := C
  intro H locs ls hW hS hl hc hs
  exact lv_ldc hx hb hown (hts _ hw) hd (k H locs ls hW hS hl hc hs)
theorem g_ldcw {idx : Nat} {v : Int32} (C : pm_Cx Γ own cc d n) (hd : decode cc pc = .ok (.ldc_w idx, 3)) (hw : Cond.constant own idx v ∈ pm_tbl) (k : pm_G Γ cells slots (pc + 3) L (.int v :: st) sh I J) : pm_G Γ cells slots pc L st sh I J := by
  obtain ⟨p, l, e, R, s, m, args, below, meth, c, Q, u, nL⟩ := Γ
  obtain ⟨hx, hb, hml, rfl, hown, hts, hlk, hK, hfr, hlo, hB⟩ := C
  intro H locs ls hW hS hl hc hs
  exact lv_ldcw hx hb hown (hts _ hw) hd (k H locs ls hW hS hl hc hs)
theorem g_ldc2 {idx : Nat} {v : Int64} (C : pm_Cx Γ own cc d n) (hd : decode cc pc = .ok (.ldc2_w idx, 3)) (hw : Cond.constantLong own idx v ∈ pm_tbl) (k : pm_G Γ cells slots (pc + 3) L (.long v :: st) sh I J) : pm_G Γ cells slots pc L st sh I J := by
  obtain ⟨p, l, e, R, s, m, args, below, meth, c, Q, u, nL⟩ := Γ
  obtain ⟨hx, hb, hml, rfl, hown, hts, hlk, hK, hfr, hlo, hB⟩ := C
  intro H locs ls hW hS hl hc hs
  exact lv_ldc2 hx hb hown (hts _ hw) hd (k H locs ls hW hS hl hc hs)
theorem g_iload_n {q : Fin 4} {i j : Nat} {x : Int32} (C : pm_Cx Γ own cc d n) (hd : decode cc pc = .ok (.iload_n q, 1)) (hi : (q : Nat) = i) (hj : L[j]? = some (i, .int x)) (k : pm_G Γ cells slots (pc + 1) L (.int x :: st) sh I J) : pm_G Γ cells slots pc L st sh I J := by
  obtain ⟨p, l, e, R, s, m, args, below, meth, c, Q, u, nL⟩ := Γ
  obtain ⟨hx, hb, hml, rfl, hown, hts, hlk, hK, hfr, hlo, hB⟩ := C
  intro H locs ls hW hS hl hc hs
  exact lv_iload_n hx hb hd hi (x := x) (pm_lk hl hj) (k H locs ls hW hS hl hc hs)
theorem g_iload {i j : Nat} {x : Int32} (C : pm_Cx Γ own cc d n) (hd : decode cc pc = .ok (.iload i, 2)) (hj : L[j]? = some (i, .int x)) (k : pm_G Γ cells slots (pc + 2) L (.int x :: st) sh I J) : pm_G Γ cells slots pc L st sh I J := by
  obtain ⟨p, l, e, R, s, m, args, below, meth, c, Q, u, nL⟩ := Γ
  obtain ⟨hx, hb, hml, rfl, hown, hts, hlk, hK, hfr, hlo, hB⟩ := C
  intro H locs ls hW hS hl hc hs
  exact lv_iload hx hb hd (x := x) (pm_lk hl hj) (k H locs ls hW hS hl hc hs)
theorem g_istore_n {q : Fin 4} {i : Nat} {x : Int32} {L2 : List (Nat × Value)} (C : pm_Cx Γ own cc d n) (hd : decode cc pc = .ok (.istore_n q, 1)) (hi : (q : Nat) = i) (hn : i < n) (hL : pm_st L i (.int x) = L2) (k : pm_G Γ cells slots (pc + 1) L2 st sh I J) : pm_G Γ cells slots pc L (.int x :: st) sh I J := by
  obtain ⟨p, l, e, R, s, m, args, below, meth, c, Q, u, nL⟩ := Γ
  obtain ⟨hx, hb, hml, rfl, hown, hts, hlk, hK, hfr, hlo, hB⟩ := C
  intro H locs ls hW hS hl hc hs
  subst hL
  exact lv_istore_n hx hb hd hi (x := x) hl hn rfl (fun ls2 h2 => k H locs ls2 hW hS (pm_st_has (v := .int x) h2) hc hs)
theorem g_istore {i : Nat} {x : Int32} {L2 : List (Nat × Value)} (C : pm_Cx Γ own cc d n) (hd : decode cc pc = .ok (.istore i, 2)) (hn : i < n) (hL : pm_st L i (.int x) = L2) (k : pm_G Γ cells slots (pc + 2) L2 st sh I J) : pm_G Γ cells slots pc L (.int x :: st) sh I J := by
  obtain ⟨p, l, e, R, s, m, args, below, meth, c, Q, u, nL⟩ := Γ
  obtain ⟨hx, hb, hml, rfl, hown, hts, hlk, hK, hfr, hlo, hB⟩ := C
  intro H locs ls hW hS hl hc hs
  subst hL
  exact lv_istore hx hb hd (x := x) hl hn rfl (fun ls2 h2 => k H locs ls2 hW hS (pm_st_has (v := .int x) h2) hc hs)
theorem g_lload_n {q : Fin 4} {i j : Nat} {x : Int64} (C : pm_Cx Γ own cc d n) (hd : decode cc pc = .ok (.lload_n q, 1)) (hi : (q : Nat) = i) (hj : L[j]? = some (i, .long x)) (k : pm_G Γ cells slots (pc + 1) L (.long x :: st) sh I J) : pm_G Γ cells slots pc L st sh I J := by
  obtain ⟨p, l, e, R, s, m, args, below, meth, c, Q, u, nL⟩ := Γ
  obtain ⟨hx, hb, hml, rfl, hown, hts, hlk, hK, hfr, hlo, hB⟩ := C
  intro H locs ls hW hS hl hc hs
  exact lv_lload_n hx hb hd hi (x := x) (pm_lk hl hj) (k H locs ls hW hS hl hc hs)
theorem g_lload {i j : Nat} {x : Int64} (C : pm_Cx Γ own cc d n) (hd : decode cc pc = .ok (.lload i, 2)) (hj : L[j]? = some (i, .long x)) (k : pm_G Γ cells slots (pc + 2) L (.long x :: st) sh I J) : pm_G Γ cells slots pc L st sh I J := by
  obtain ⟨p, l, e, R, s, m, args, below, meth, c, Q, u, nL⟩ := Γ
  obtain ⟨hx, hb, hml, rfl, hown, hts, hlk, hK, hfr, hlo, hB⟩ := C
  intro H locs ls hW hS hl hc hs
  exact lv_lload hx hb hd (x := x) (pm_lk hl hj) (k H locs ls hW hS hl hc hs)
theorem g_lstore_n {q : Fin 4} {i : Nat} {x : Int64} {L2 : List (Nat × Value)} (C : pm_Cx Γ own cc d n) (hd : decode cc pc = .ok (.lstore_n q, 1)) (hi : (q : Nat) = i) (hn : i + 1 < n) (hL : pm_stl L i (.long x) = L2) (k : pm_G Γ cells slots (pc + 1) L2 st sh I J) : pm_G Γ cells slots pc L (.long x :: st) sh I J := by
  obtain ⟨p, l, e, R, s, m, args, below, meth, c, Q, u, nL⟩ := Γ
  obtain ⟨hx, hb, hml, rfl, hown, hts, hlk, hK, hfr, hlo, hB⟩ := C
  intro H locs ls hW hS hl hc hs
  subst hL
  exact lv_lstore_n hx hb hd hi (x := x) hl hn rfl (fun ls2 h2 => k H locs ls2 hW hS (pm_stl_has (v := .long x) h2) hc hs)
theorem g_lstore {i : Nat} {x : Int64} {L2 : List (Nat × Value)} (C : pm_Cx Γ own cc d n) (hd : decode cc pc = .ok (.lstore i, 2)) (hn : i + 1 < n) (hL : pm_stl L i (.long x) = L2) (k : pm_G Γ cells slots (pc + 2) L2 st sh I J) : pm_G Γ cells slots pc L (.long x :: st) sh I J := by
  obtain ⟨p, l, e, R, s, m, args, below, meth, c, Q, u, nL⟩ := Γ
  obtain ⟨hx, hb, hml, rfl, hown, hts, hlk, hK, hfr, hlo, hB⟩ := C
  intro H locs ls hW hS hl hc hs
  subst hL
  exact lv_lstore hx hb hd (x := x) hl hn rfl (fun ls2 h2 => k H locs ls2 hW hS (pm_stl_has (v := .long x) h2) hc hs)
theorem g_aload_n {q : Fin 4} {i j : Nat} {x : Nat} (C : pm_Cx Γ own cc d n) (hd : decode cc pc = .ok (.aload_n q, 1)) (hi : (q : Nat) = i) (hj : L[j]? = some (i, .ref x)) (k : pm_G Γ cells slots (pc + 1) L (.ref x :: st) sh I J) : pm_G Γ cells slots pc L st sh I J := by
  obtain ⟨p, l, e, R, s, m, args, below, meth, c, Q, u, nL⟩ := Γ
  obtain ⟨hx, hb, hml, rfl, hown, hts, hlk, hK, hfr, hlo, hB⟩ := C
  intro H locs ls hW hS hl hc hs
  exact lv_aload_n hx hb hd hi (x := (pm_ad u x)) (pm_lk hl hj) (k H locs ls hW hS hl hc hs)
theorem g_aload {i j : Nat} {x : Nat} (C : pm_Cx Γ own cc d n) (hd : decode cc pc = .ok (.aload i, 2)) (hj : L[j]? = some (i, .ref x)) (k : pm_G Γ cells slots (pc + 2) L (.ref x :: st) sh I J) : pm_G Γ cells slots pc L st sh I J := by
  obtain ⟨p, l, e, R, s, m, args, below, meth, c, Q, u, nL⟩ := Γ
  obtain ⟨hx, hb, hml, rfl, hown, hts, hlk, hK, hfr, hlo, hB⟩ := C
  intro H locs ls hW hS hl hc hs
  exact lv_aload hx hb hd (x := (pm_ad u x)) (pm_lk hl hj) (k H locs ls hW hS hl hc hs)
theorem g_astore_n {q : Fin 4} {i : Nat} {x : Nat} {L2 : List (Nat × Value)} (C : pm_Cx Γ own cc d n) (hd : decode cc pc = .ok (.astore_n q, 1)) (hi : (q : Nat) = i) (hn : i < n) (hL : pm_st L i (.ref x) = L2) (k : pm_G Γ cells slots (pc + 1) L2 st sh I J) : pm_G Γ cells slots pc L (.ref x :: st) sh I J := by
  obtain ⟨p, l, e, R, s, m, args, below, meth, c, Q, u, nL⟩ := Γ
  obtain ⟨hx, hb, hml, rfl, hown, hts, hlk, hK, hfr, hlo, hB⟩ := C
  intro H locs ls hW hS hl hc hs
  subst hL
  exact lv_astore_n hx hb hd hi (x := (pm_ad u x)) hl hn rfl (fun ls2 h2 => k H locs ls2 hW hS (pm_st_has (v := .ref x) h2) hc hs)
theorem g_astore {i : Nat} {x : Nat} {L2 : List (Nat × Value)} (C : pm_Cx Γ own cc d n) (hd : decode cc pc = .ok (.astore i, 2)) (hn : i < n) (hL : pm_st L i (.ref x) = L2) (k : pm_G Γ cells slots (pc + 2) L2 st sh I J) : pm_G Γ cells slots pc L (.ref x :: st) sh I J := by
  obtain ⟨p, l, e, R, s, m, args, below, meth, c, Q, u, nL⟩ := Γ
  obtain ⟨hx, hb, hml, rfl, hown, hts, hlk, hK, hfr, hlo, hB⟩ := C
  intro H locs ls hW hS hl hc hs
  subst hL
  exact lv_astore hx hb hd (x := (pm_ad u x)) hl hn rfl (fun ls2 h2 => k H locs ls2 hW hS (pm_st_has (v := .ref x) h2) hc hs)
theorem g_iinc {i j : Nat} {z : Int} {x v : Int32} {L2 : List (Nat × Value)} (C : pm_Cx Γ own cc d n) (hd : decode cc pc = .ok (.iinc i z, 3)) (hj : L[j]? = some (i, .int x)) (hv : x + Int32.ofInt z = v) (hn : i < n) (hL : pm_st L i (.int v) = L2) (k : pm_G Γ cells slots (pc + 3) L2 st sh I J) : pm_G Γ cells slots pc L st sh I J := by
  obtain ⟨p, l, e, R, s, m, args, below, meth, c, Q, u, nL⟩ := Γ
  obtain ⟨hx, hb, hml, rfl, hown, hts, hlk, hK, hfr, hlo, hB⟩ := C
  intro H locs ls hW hS hl hc hs
  subst hL
  exact lv_iinc hx hb hd hl (k := j) (by rw [List.getElem?_map, hj]; rfl) hv hn rfl (fun ls2 h2 => k H locs ls2 hW hS (pm_st_has (v := .int v) h2) hc hs)
theorem g_iadd {x y : Int32} (C : pm_Cx Γ own cc d n) (hd : decode cc pc = .ok (.iadd, 1)) (k : pm_G Γ cells slots (pc + 1) L (.int (x + y) :: st) sh I J) : pm_G Γ cells slots pc L (.int y :: .int x :: st) sh I J := by
  obtain ⟨p, l, e, R, s, m, args, below, meth, c, Q, u, nL⟩ := Γ
  obtain ⟨hx, hb, hml, rfl, hown, hts, hlk, hK, hfr, hlo, hB⟩ := C
  intro H locs ls hW hS hl hc hs
  exact lv_iadd hx hb hd (k H locs ls hW hS hl hc hs)
theorem g_isub {x y : Int32} (C : pm_Cx Γ own cc d n) (hd : decode cc pc = .ok (.isub, 1)) (k : pm_G Γ cells slots (pc + 1) L (.int (x - y) :: st) sh I J) : pm_G Γ cells slots pc L (.int y :: .int x :: st) sh I J := by
  obtain ⟨p, l, e, R, s, m, args, below, meth, c, Q, u, nL⟩ := Γ
  obtain ⟨hx, hb, hml, rfl, hown, hts, hlk, hK, hfr, hlo, hB⟩ := C
  intro H locs ls hW hS hl hc hs
  exact lv_isub hx hb hd (k H locs ls hW hS hl hc hs)
theorem g_imul {x y : Int32} (C : pm_Cx Γ own cc d n) (hd : decode cc pc = .ok (.imul, 1)) (k : pm_G Γ cells slots (pc + 1) L (.int (x * y) :: st) sh I J) : pm_G Γ cells slots pc L (.int y :: .int x :: st) sh I J := by
  obtain ⟨p, l, e, R, s, m, args, below, meth, c, Q, u, nL⟩ := Γ
  obtain ⟨hx, hb, hml, rfl, hown, hts, hlk, hK, hfr, hlo, hB⟩ := C
  intro H locs ls hW hS hl hc hs
  exact lv_imul hx hb hd (k H locs ls hW hS hl hc hs)
theorem g_iand {x y : Int32} (C : pm_Cx Γ own cc d n) (hd : decode cc pc = .ok (.iand, 1)) (k : pm_G Γ cells slots (pc + 1) L (.int (x &&& y) :: st) sh I J) : pm_G Γ cells slots pc L (.int y :: .int x :: st) sh I J := by
  obtain ⟨p, l, e, R, s, m, args, below, meth, c, Q, u, nL⟩ := Γ
  obtain ⟨hx, hb, hml, rfl, hown, hts, hlk, hK, hfr, hlo, hB⟩ := C
  intro H locs ls hW hS hl hc hs
  exact lv_iand hx hb hd (k H locs ls hW hS hl hc hs)
theorem g_ior {x y : Int32} (C : pm_Cx Γ own cc d n) (hd : decode cc pc = .ok (.ior, 1)) (k : pm_G Γ cells slots (pc + 1) L (.int (x ||| y) :: st) sh I J) : pm_G Γ cells slots pc L (.int y :: .int x :: st) sh I J := by
  obtain ⟨p, l, e, R, s, m, args, below, meth, c, Q, u, nL⟩ := Γ
  obtain ⟨hx, hb, hml, rfl, hown, hts, hlk, hK, hfr, hlo, hB⟩ := C
  intro H locs ls hW hS hl hc hs
  exact lv_ior hx hb hd (k H locs ls hW hS hl hc hs)
theorem g_ixor {x y : Int32} (C : pm_Cx Γ own cc d n) (hd : decode cc pc = .ok (.ixor, 1)) (k : pm_G Γ cells slots (pc + 1) L (.int (x ^^^ y) :: st) sh I J) : pm_G Γ cells slots pc L (.int y :: .int x :: st) sh I J := by
  obtain ⟨p, l, e, R, s, m, args, below, meth, c, Q, u, nL⟩ := Γ
  obtain ⟨hx, hb, hml, rfl, hown, hts, hlk, hK, hfr, hlo, hB⟩ := C
  intro H locs ls hW hS hl hc hs
  exact lv_ixor hx hb hd (k H locs ls hW hS hl hc hs)
theorem g_ishl {x y : Int32} (C : pm_Cx Γ own cc d n) (hd : decode cc pc = .ok (.ishl, 1)) (k : pm_G Γ cells slots (pc + 1) L (.int (x <<< (y &&& 31)) :: st) sh I J) : pm_G Γ cells slots pc L (.int y :: .int x :: st) sh I J := by
  obtain ⟨p, l, e, R, s, m, args, below, meth, c, Q, u, nL⟩ := Γ
  obtain ⟨hx, hb, hml, rfl, hown, hts, hlk, hK, hfr, hlo, hB⟩ := C
  intro H locs ls hW hS hl hc hs
  exact lv_ishl hx hb hd (k H locs ls hW hS hl hc hs)
theorem g_ishr {x y : Int32} (C : pm_Cx Γ own cc d n) (hd : decode cc pc = .ok (.ishr, 1)) (k : pm_G Γ cells slots (pc + 1) L (.int (x >>> (y &&& 31)) :: st) sh I J) : pm_G Γ cells slots pc L (.int y :: .int x :: st) sh I J := by
  obtain ⟨p, l, e, R, s, m, args, below, meth, c, Q, u, nL⟩ := Γ
  obtain ⟨hx, hb, hml, rfl, hown, hts, hlk, hK, hfr, hlo, hB⟩ := C
  intro H locs ls hW hS hl hc hs
  exact lv_ishr hx hb hd (k H locs ls hW hS hl hc hs)
theorem g_idiv {x y : Int32} (C : pm_Cx Γ own cc d n) (hd : decode cc pc = .ok (.idiv, 1)) (hne : ¬ y = 0) (k : pm_G Γ cells slots (pc + 1) L (.int (x / y) :: st) sh I J) : pm_G Γ cells slots pc L (.int y :: .int x :: st) sh I J := by
  obtain ⟨p, l, e, R, s, m, args, below, meth, c, Q, u, nL⟩ := Γ
  obtain ⟨hx, hb, hml, rfl, hown, hts, hlk, hK, hfr, hlo, hB⟩ := C
  intro H locs ls hW hS hl hc hs
  exact lv_idiv hx hb hd hne (k H locs ls hW hS hl hc hs)
theorem g_irem {x y : Int32} (C : pm_Cx Γ own cc d n) (hd : decode cc pc = .ok (.irem, 1)) (hne : ¬ y = 0) (k : pm_G Γ cells slots (pc + 1) L (.int (x - x / y * y) :: st) sh I J) : pm_G Γ cells slots pc L (.int y :: .int x :: st) sh I J := by
  obtain ⟨p, l, e, R, s, m, args, below, meth, c, Q, u, nL⟩ := Γ
  obtain ⟨hx, hb, hml, rfl, hown, hts, hlk, hK, hfr, hlo, hB⟩ := C
  intro H locs ls hW hS hl hc hs
  exact lv_irem hx hb hd hne (k H locs ls hW hS hl hc hs)
theorem g_ladd {x y : Int64} (C : pm_Cx Γ own cc d n) (hd : decode cc pc = .ok (.ladd, 1)) (k : pm_G Γ cells slots (pc + 1) L (.long (x + y) :: st) sh I J) : pm_G Γ cells slots pc L (.long y :: .long x :: st) sh I J := by
  obtain ⟨p, l, e, R, s, m, args, below, meth, c, Q, u, nL⟩ := Γ
  obtain ⟨hx, hb, hml, rfl, hown, hts, hlk, hK, hfr, hlo, hB⟩ := C
  intro H locs ls hW hS hl hc hs
  exact lv_ladd hx hb hd (k H locs ls hW hS hl hc hs)
theorem g_lsub {x y : Int64} (C : pm_Cx Γ own cc d n) (hd : decode cc pc = .ok (.lsub, 1)) (k : pm_G Γ cells slots (pc + 1) L (.long (x - y) :: st) sh I J) : pm_G Γ cells slots pc L (.long y :: .long x :: st) sh I J := by
  obtain ⟨p, l, e, R, s, m, args, below, meth, c, Q, u, nL⟩ := Γ
  obtain ⟨hx, hb, hml, rfl, hown, hts, hlk, hK, hfr, hlo, hB⟩ := C
  intro H locs ls hW hS hl hc hs
  exact lv_lsub hx hb hd (k H locs ls hW hS hl hc hs)
theorem g_lmul {x y : Int64} (C : pm_Cx Γ own cc d n) (hd : decode cc pc = .ok (.lmul, 1)) (k : pm_G Γ cells slots (pc + 1) L (.long (x * y) :: st) sh I J) : pm_G Γ cells slots pc L (.long y :: .long x :: st) sh I J := by
  obtain ⟨p, l, e, R, s, m, args, below, meth, c, Q, u, nL⟩ := Γ
  obtain ⟨hx, hb, hml, rfl, hown, hts, hlk, hK, hfr, hlo, hB⟩ := C
  intro H locs ls hW hS hl hc hs
  exact lv_lmul hx hb hd (k H locs ls hW hS hl hc hs)
theorem g_land {x y : Int64} (C : pm_Cx Γ own cc d n) (hd : decode cc pc = .ok (.land, 1)) (k : pm_G Γ cells slots (pc + 1) L (.long (x &&& y) :: st) sh I J) : pm_G Γ cells slots pc L (.long y :: .long x :: st) sh I J := by
  obtain ⟨p, l, e, R, s, m, args, below, meth, c, Q, u, nL⟩ := Γ
  obtain ⟨hx, hb, hml, rfl, hown, hts, hlk, hK, hfr, hlo, hB⟩ := C
  intro H locs ls hW hS hl hc hs
  exact lv_land hx hb hd (k H locs ls hW hS hl hc hs)
theorem g_lor {x y : Int64} (C : pm_Cx Γ own cc d n) (hd : decode cc pc = .ok (.lor, 1)) (k : pm_G Γ cells slots (pc + 1) L (.long (x ||| y) :: st) sh I J) : pm_G Γ cells slots pc L (.long y :: .long x :: st) sh I J := by
  obtain ⟨p, l, e, R, s, m, args, below, meth, c, Q, u, nL⟩ := Γ
  obtain ⟨hx, hb, hml, rfl, hown, hts, hlk, hK, hfr, hlo, hB⟩ := C
  intro H locs ls hW hS hl hc hs
  exact lv_lor hx hb hd (k H locs ls hW hS hl hc hs)
theorem g_iushr {x y : Int32} (C : pm_Cx Γ own cc d n) (hd : decode cc pc = .ok (.iushr, 1)) (k : pm_G Γ cells slots (pc + 1) L (.int (x.toUInt32 >>> (y.toUInt32 &&& Int32.toUInt32 31)).toInt32 :: st) sh I J) : pm_G Γ cells slots pc L (.int y :: .int x :: st) sh I J := by
  obtain ⟨p, l, e, R, s, m, args, below, meth, c, Q, u, nL⟩ := Γ
  obtain ⟨hx, hb, hml, rfl, hown, hts, hlk, hK, hfr, hlo, hB⟩ := C
  intro H locs ls hW hS hl hc hs
  exact lv_iushr hx hb hd rfl (k H locs ls hW hS hl hc hs)
theorem g_lshl {x : Int64} {y : Int32} (C : pm_Cx Γ own cc d n) (hd : decode cc pc = .ok (.lshl, 1)) (k : pm_G Γ cells slots (pc + 1) L (.long (x <<< (y.toInt64 &&& 63)) :: st) sh I J) : pm_G Γ cells slots pc L (.int y :: .long x :: st) sh I J := by
  obtain ⟨p, l, e, R, s, m, args, below, meth, c, Q, u, nL⟩ := Γ
  obtain ⟨hx, hb, hml, rfl, hown, hts, hlk, hK, hfr, hlo, hB⟩ := C
  intro H locs ls hW hS hl hc hs
  exact lv_lshl hx hb hd rfl (k H locs ls hW hS hl hc hs)
theorem g_lshr {x : Int64} {y : Int32} (C : pm_Cx Γ own cc d n) (hd : decode cc pc = .ok (.lshr, 1)) (k : pm_G Γ cells slots (pc + 1) L (.long (x >>> (y.toInt64 &&& 63)) :: st) sh I J) : pm_G Γ cells slots pc L (.int y :: .long x :: st) sh I J := by
  obtain ⟨p, l, e, R, s, m, args, below, meth, c, Q, u, nL⟩ := Γ
  obtain ⟨hx, hb, hml, rfl, hown, hts, hlk, hK, hfr, hlo, hB⟩ := C
  intro H locs ls hW hS hl hc hs
  exact lv_lshr hx hb hd rfl (k H locs ls hW hS hl hc hs)
theorem g_i2l {x : Int32} (C : pm_Cx Γ own cc d n) (hd : decode cc pc = .ok (.i2l, 1)) (k : pm_G Γ cells slots (pc + 1) L (.long (x.toInt64) :: st) sh I J) : pm_G Γ cells slots pc L (.int x :: st) sh I J := by
  obtain ⟨p, l, e, R, s, m, args, below, meth, c, Q, u, nL⟩ := Γ
  obtain ⟨hx, hb, hml, rfl, hown, hts, hlk, hK, hfr, hlo, hB⟩ := C
  intro H locs ls hW hS hl hc hs
  exact lv_i2l hx hb hd rfl (k H locs ls hW hS hl hc hs)
theorem g_l2i {x : Int64} (C : pm_Cx Γ own cc d n) (hd : decode cc pc = .ok (.l2i, 1)) (k : pm_G Γ cells slots (pc + 1) L (.int (x.toInt32) :: st) sh I J) : pm_G Γ cells slots pc L (.long x :: st) sh I J := by
  obtain ⟨p, l, e, R, s, m, args, below, meth, c, Q, u, nL⟩ := Γ
  obtain ⟨hx, hb, hml, rfl, hown, hts, hlk, hK, hfr, hlo, hB⟩ := C
  intro H locs ls hW hS hl hc hs
  exact lv_l2i hx hb hd rfl (k H locs ls hW hS hl hc hs)
theorem g_i2b {x : Int32} (C : pm_Cx Γ own cc d n) (hd : decode cc pc = .ok (.i2b, 1)) (k : pm_G Γ cells slots (pc + 1) L (.int (x.toInt8.toInt32) :: st) sh I J) : pm_G Γ cells slots pc L (.int x :: st) sh I J := by
  obtain ⟨p, l, e, R, s, m, args, below, meth, c, Q, u, nL⟩ := Γ
  obtain ⟨hx, hb, hml, rfl, hown, hts, hlk, hK, hfr, hlo, hB⟩ := C
  intro H locs ls hW hS hl hc hs
  exact lv_i2b hx hb hd rfl (k H locs ls hW hS hl hc hs)
theorem g_i2s {x : Int32} (C : pm_Cx Γ own cc d n) (hd : decode cc pc = .ok (.i2s, 1)) (k : pm_G Γ cells slots (pc + 1) L (.int (x.toInt16.toInt32) :: st) sh I J) : pm_G Γ cells slots pc L (.int x :: st) sh I J := by
  obtain ⟨p, l, e, R, s, m, args, below, meth, c, Q, u, nL⟩ := Γ
  obtain ⟨hx, hb, hml, rfl, hown, hts, hlk, hK, hfr, hlo, hB⟩ := C
  intro H locs ls hW hS hl hc hs
  exact lv_i2s hx hb hd rfl (k H locs ls hW hS hl hc hs)
theorem g_i2c {x : Int32} (C : pm_Cx Γ own cc d n) (hd : decode cc pc = .ok (.i2c, 1)) (k : pm_G Γ cells slots (pc + 1) L (.int ((x.toUInt32 % 65536).toInt32) :: st) sh I J) : pm_G Γ cells slots pc L (.int x :: st) sh I J := by
  obtain ⟨p, l, e, R, s, m, args, below, meth, c, Q, u, nL⟩ := Γ
  obtain ⟨hx, hb, hml, rfl, hown, hts, hlk, hK, hfr, hlo, hB⟩ := C
  intro H locs ls hW hS hl hc hs
  exact lv_i2c hx hb hd rfl (k H locs ls hW hS hl hc hs)
theorem g_lcmp {x y : Int64} (C : pm_Cx Γ own cc d n) (hd : decode cc pc = .ok (.lcmp, 1)) (k : pm_G Γ cells slots (pc + 1) L (.int (lg_cmp x y) :: st) sh I J) : pm_G Γ cells slots pc L (.long y :: .long x :: st) sh I J := by
  obtain ⟨p, l, e, R, s, m, args, below, meth, c, Q, u, nL⟩ := Γ
  obtain ⟨hx, hb, hml, rfl, hown, hts, hlk, hK, hfr, hlo, hB⟩ := C
  intro H locs ls hW hS hl hc hs
  exact W.lcmp hx hb hd (k H locs ls hW hS hl hc hs)
theorem g_dup {v : Value} (C : pm_Cx Γ own cc d n) (hd : decode cc pc = .ok (.dup, 1)) (hv : v.category = 1) (k : pm_G Γ cells slots (pc + 1) L (v :: v :: st) sh I J) : pm_G Γ cells slots pc L (v :: st) sh I J := by
  obtain ⟨p, l, e, R, s, m, args, below, meth, c, Q, u, nL⟩ := Γ
  obtain ⟨hx, hb, hml, rfl, hown, hts, hlk, hK, hfr, hlo, hB⟩ := C
  intro H locs ls hW hS hl hc hs
  exact lv_dup hx hb hd (by rw [pm_tr_cat]; exact hv) (k H locs ls hW hS hl hc hs)
theorem g_dup2 {v w : Value} (C : pm_Cx Γ own cc d n) (hd : decode cc pc = .ok (.dup2, 1)) (hv : v.category = 1) (hw : w.category = 1) (k : pm_G Γ cells slots (pc + 1) L (v :: w :: v :: w :: st) sh I J) : pm_G Γ cells slots pc L (v :: w :: st) sh I J := by
  obtain ⟨p, l, e, R, s, m, args, below, meth, c, Q, u, nL⟩ := Γ
  obtain ⟨hx, hb, hml, rfl, hown, hts, hlk, hK, hfr, hlo, hB⟩ := C
  intro H locs ls hW hS hl hc hs
  exact lv_dup2_11 hx hb hd (by rw [pm_tr_cat]; exact hv) (by rw [pm_tr_cat]; exact hw) (k H locs ls hW hS hl hc hs)
theorem g_pop {v : Value} (C : pm_Cx Γ own cc d n) (hd : decode cc pc = .ok (.pop, 1)) (hv : v.category = 1) (k : pm_G Γ cells slots (pc + 1) L st sh I J) : pm_G Γ cells slots pc L (v :: st) sh I J := by
  obtain ⟨p, l, e, R, s, m, args, below, meth, c, Q, u, nL⟩ := Γ
  obtain ⟨hx, hb, hml, rfl, hown, hts, hlk, hK, hfr, hlo, hB⟩ := C
  intro H locs ls hW hS hl hc hs
  exact lv_pop hx hb hd (by rw [pm_tr_cat]; exact hv) (k H locs ls hW hS hl hc hs)
theorem g_goto {off : Int} {tgt : Nat} (C : pm_Cx Γ own cc d n) (hd : decode cc pc = .ok (.goto off, 3)) (ht : (pc : Int) + off = (tgt : Int)) (k : pm_G Γ cells slots tgt L st sh I J) : pm_G Γ cells slots pc L st sh I J := by
  obtain ⟨p, l, e, R, s, m, args, below, meth, c, Q, u, nL⟩ := Γ
  obtain ⟨hx, hb, hml, rfl, hown, hts, hlk, hK, hfr, hlo, hB⟩ := C
  intro H locs ls hW hS hl hc hs
  exact lv_goto hx hb hd ht (k H locs ls hW hS hl hc hs)
theorem g_if_eq {x : Int32} {off : Int} {tgt : Nat} (C : pm_Cx Γ own cc d n) (hd : decode cc pc = .ok (.ifCond .eq off, 3)) (ht : (pc : Int) + off = (tgt : Int)) (kt : x = 0 → pm_G Γ cells slots tgt L st sh I J) (kf : ¬ x = 0 → pm_G Γ cells slots (pc + 3) L st sh I J) : pm_G Γ cells slots pc L (.int x :: st) sh I J := by
  obtain ⟨p, l, e, R, s, m, args, below, meth, c, Q, u, nL⟩ := Γ
  obtain ⟨hx, hb, hml, rfl, hown, hts, hlk, hK, hfr, hlo, hB⟩ := C
  intro H locs ls hW hS hl hc hs
  exact lv_if_eq hx hb hd ht (fun h => kt h H locs ls hW hS hl hc hs) (fun h => kf h H locs ls hW hS hl hc hs)
theorem g_if_ne {x : Int32} {off : Int} {tgt : Nat} (C : pm_Cx Γ own cc d n) (hd : decode cc pc = .ok (.ifCond .ne off, 3)) (ht : (pc : Int) + off = (tgt : Int)) (kt : ¬ x = 0 → pm_G Γ cells slots tgt L st sh I J) (kf : x = 0 → pm_G Γ cells slots (pc + 3) L st sh I J) : pm_G Γ cells slots pc L (.int x :: st) sh I J := by
  obtain ⟨p, l, e, R, s, m, args, below, meth, c, Q, u, nL⟩ := Γ
  obtain ⟨hx, hb, hml, rfl, hown, hts, hlk, hK, hfr, hlo, hB⟩ := C
  intro H locs ls hW hS hl hc hs
  exact lv_if_ne hx hb hd ht (fun h => kt h H locs ls hW hS hl hc hs) (fun h => kf h H locs ls hW hS hl hc hs)
theorem g_if_lt {x : Int32} {off : Int} {tgt : Nat} (C : pm_Cx Γ own cc d n) (hd : decode cc pc = .ok (.ifCond .lt off, 3)) (ht : (pc : Int) + off = (tgt : Int)) (kt : x < 0 → pm_G Γ cells slots tgt L st sh I J) (kf : ¬ x < 0 → pm_G Γ cells slots (pc + 3) L st sh I J) : pm_G Γ cells slots pc L (.int x :: st) sh I J := by
  obtain ⟨p, l, e, R, s, m, args, below, meth, c, Q, u, nL⟩ := Γ
  obtain ⟨hx, hb, hml, rfl, hown, hts, hlk, hK, hfr, hlo, hB⟩ := C
  intro H locs ls hW hS hl hc hs
  exact lv_if_lt hx hb hd ht (fun h => kt h H locs ls hW hS hl hc hs) (fun h => kf h H locs ls hW hS hl hc hs)
theorem g_if_ge {x : Int32} {off : Int} {tgt : Nat} (C : pm_Cx Γ own cc d n) (hd : decode cc pc = .ok (.ifCond .ge off, 3)) (ht : (pc : Int) + off = (tgt : Int)) (kt : 0 ≤ x → pm_G Γ cells slots tgt L st sh I J) (kf : ¬ 0 ≤ x → pm_G Γ cells slots (pc + 3) L st sh I J) : pm_G Γ cells slots pc L (.int x :: st) sh I J := by
  obtain ⟨p, l, e, R, s, m, args, below, meth, c, Q, u, nL⟩ := Γ
  obtain ⟨hx, hb, hml, rfl, hown, hts, hlk, hK, hfr, hlo, hB⟩ := C
  intro H locs ls hW hS hl hc hs
  exact lv_if_ge hx hb hd ht (fun h => kt h H locs ls hW hS hl hc hs) (fun h => kf h H locs ls hW hS hl hc hs)
theorem g_if_gt {x : Int32} {off : Int} {tgt : Nat} (C : pm_Cx Γ own cc d n) (hd : decode cc pc = .ok (.ifCond .gt off, 3)) (ht : (pc : Int) + off = (tgt : Int)) (kt : 0 < x → pm_G Γ cells slots tgt L st sh I J) (kf : ¬ 0 < x → pm_G Γ cells slots (pc + 3) L st sh I J) : pm_G Γ cells slots pc L (.int x :: st) sh I J := by
  obtain ⟨p, l, e, R, s, m, args, below, meth, c, Q, u, nL⟩ := Γ
  obtain ⟨hx, hb, hml, rfl, hown, hts, hlk, hK, hfr, hlo, hB⟩ := C
  intro H locs ls hW hS hl hc hs
  exact lv_if_gt hx hb hd ht (fun h => kt h H locs ls hW hS hl hc hs) (fun h => kf h H locs ls hW hS hl hc hs)
theorem g_if_le {x : Int32} {off : Int} {tgt : Nat} (C : pm_Cx Γ own cc d n) (hd : decode cc pc = .ok (.ifCond .le off, 3)) (ht : (pc : Int) + off = (tgt : Int)) (kt : x ≤ 0 → pm_G Γ cells slots tgt L st sh I J) (kf : ¬ x ≤ 0 → pm_G Γ cells slots (pc + 3) L st sh I J) : pm_G Γ cells slots pc L (.int x :: st) sh I J := by
  obtain ⟨p, l, e, R, s, m, args, below, meth, c, Q, u, nL⟩ := Γ
  obtain ⟨hx, hb, hml, rfl, hown, hts, hlk, hK, hfr, hlo, hB⟩ := C
  intro H locs ls hW hS hl hc hs
  exact lv_if_le hx hb hd ht (fun h => kt h H locs ls hW hS hl hc hs) (fun h => kf h H locs ls hW hS hl hc hs)
theorem g_icmp_eq {x y : Int32} {off : Int} {tgt : Nat} (C : pm_Cx Γ own cc d n) (hd : decode cc pc = .ok (.if_icmp .eq off, 3)) (ht : (pc : Int) + off = (tgt : Int)) (kt : x = y → pm_G Γ cells slots tgt L st sh I J) (kf : ¬ x = y → pm_G Γ cells slots (pc + 3) L st sh I J) : pm_G Γ cells slots pc L (.int y :: .int x :: st) sh I J := by
  obtain ⟨p, l, e, R, s, m, args, below, meth, c, Q, u, nL⟩ := Γ
  obtain ⟨hx, hb, hml, rfl, hown, hts, hlk, hK, hfr, hlo, hB⟩ := C
  intro H locs ls hW hS hl hc hs
  exact lv_icmp_eq hx hb hd ht (fun h => kt h H locs ls hW hS hl hc hs) (fun h => kf h H locs ls hW hS hl hc hs)
theorem g_icmp_ne {x y : Int32} {off : Int} {tgt : Nat} (C : pm_Cx Γ own cc d n) (hd : decode cc pc = .ok (.if_icmp .ne off, 3)) (ht : (pc : Int) + off = (tgt : Int)) (kt : ¬ x = y → pm_G Γ cells slots tgt L st sh I J) (kf : x = y → pm_G Γ cells slots (pc + 3) L st sh I J) : pm_G Γ cells slots pc L (.int y :: .int x :: st) sh I J := by
  obtain ⟨p, l, e, R, s, m, args, below, meth, c, Q, u, nL⟩ := Γ
  obtain ⟨hx, hb, hml, rfl, hown, hts, hlk, hK, hfr, hlo, hB⟩ := C
  intro H locs ls hW hS hl hc hs
  exact lv_icmp_ne hx hb hd ht (fun h => kt h H locs ls hW hS hl hc hs) (fun h => kf h H locs ls hW hS hl hc hs)
theorem g_icmp_lt {x y : Int32} {off : Int} {tgt : Nat} (C : pm_Cx Γ own cc d n) (hd : decode cc pc = .ok (.if_icmp .lt off, 3)) (ht : (pc : Int) + off = (tgt : Int)) (kt : x < y → pm_G Γ cells slots tgt L st sh I J) (kf : ¬ x < y → pm_G Γ cells slots (pc + 3) L st sh I J) : pm_G Γ cells slots pc L (.int y :: .int x :: st) sh I J := by
  obtain ⟨p, l, e, R, s, m, args, below, meth, c, Q, u, nL⟩ := Γ
  obtain ⟨hx, hb, hml, rfl, hown, hts, hlk, hK, hfr, hlo, hB⟩ := C
  intro H locs ls hW hS hl hc hs
  exact lv_icmp_lt hx hb hd ht (fun h => kt h H locs ls hW hS hl hc hs) (fun h => kf h H locs ls hW hS hl hc hs)
theorem g_icmp_ge {x y : Int32} {off : Int} {tgt : Nat} (C : pm_Cx Γ own cc d n) (hd : decode cc pc = .ok (.if_icmp .ge off, 3)) (ht : (pc : Int) + off = (tgt : Int)) (kt : y ≤ x → pm_G Γ cells slots tgt L st sh I J) (kf : ¬ y ≤ x → pm_G Γ cells slots (pc + 3) L st sh I J) : pm_G Γ cells slots pc L (.int y :: .int x :: st) sh I J := by
  obtain ⟨p, l, e, R, s, m, args, below, meth, c, Q, u, nL⟩ := Γ
  obtain ⟨hx, hb, hml, rfl, hown, hts, hlk, hK, hfr, hlo, hB⟩ := C
  intro H locs ls hW hS hl hc hs
  exact lv_icmp_ge hx hb hd ht (fun h => kt h H locs ls hW hS hl hc hs) (fun h => kf h H locs ls hW hS hl hc hs)
theorem g_icmp_gt {x y : Int32} {off : Int} {tgt : Nat} (C : pm_Cx Γ own cc d n) (hd : decode cc pc = .ok (.if_icmp .gt off, 3)) (ht : (pc : Int) + off = (tgt : Int)) (kt : y < x → pm_G Γ cells slots tgt L st sh I J) (kf : ¬ y < x → pm_G Γ cells slots (pc + 3) L st sh I J) : pm_G Γ cells slots pc L (.int y :: .int x :: st) sh I J := by
  obtain ⟨p, l, e, R, s, m, args, below, meth, c, Q, u, nL⟩ := Γ
  obtain ⟨hx, hb, hml, rfl, hown, hts, hlk, hK, hfr, hlo, hB⟩ := C
  intro H locs ls hW hS hl hc hs
  exact lv_icmp_gt hx hb hd ht (fun h => kt h H locs ls hW hS hl hc hs) (fun h => kf h H locs ls hW hS hl hc hs)
theorem g_icmp_le {x y : Int32} {off : Int} {tgt : Nat} (C : pm_Cx Γ own cc d n) (hd : decode cc pc = .ok (.if_icmp .le off, 3)) (ht : (pc : Int) + off = (tgt : Int)) (kt : x ≤ y → pm_G Γ cells slots tgt L st sh I J) (kf : ¬ x ≤ y → pm_G Γ cells slots (pc + 3) L st sh I J) : pm_G Γ cells slots pc L (.int y :: .int x :: st) sh I J := by
  obtain ⟨p, l, e, R, s, m, args, below, meth, c, Q, u, nL⟩ := Γ
  obtain ⟨hx, hb, hml, rfl, hown, hts, hlk, hK, hfr, hlo, hB⟩ := C
  intro H locs ls hW hS hl hc hs
  exact lv_icmp_le hx hb hd ht (fun h => kt h H locs ls hW hS hl hc hs) (fun h => kf h H locs ls hW hS hl hc hs)
/-- a truth as an int -/
def pm_b (P : Prop) [Decidable P] : Int32 := if P then 1 else 0
theorem pm_b_0 {P : Prop} [Decidable P] : pm_b P = 0 ↔ ¬ P := by unfold pm_b; split <;> simp_all
theorem g_if_eqB {P : Prop} [Decidable P] {off : Int} {tgt : Nat} (C : pm_Cx Γ own cc d n) (hd : decode cc pc = .ok (.ifCond .eq off, 3)) (ht : (pc : Int) + off = (tgt : Int)) (kt : ¬ P → pm_G Γ cells slots tgt L st sh I J) (kf : P → pm_G Γ cells slots (pc + 3) L st sh I J) : pm_G Γ cells slots pc L (.int (pm_b P) :: st) sh I J :=
  g_if_eq C hd ht (fun h => kt (pm_b_0.mp h)) (fun h => kf (Decidable.of_not_not (fun q => h (pm_b_0.mpr q))))
theorem g_if_neB {P : Prop} [Decidable P] {off : Int} {tgt : Nat} (C : pm_Cx Γ own cc d n) (hd : decode cc pc = .ok (.ifCond .ne off, 3)) (ht : (pc : Int) + off = (tgt : Int)) (kt : P → pm_G Γ cells slots tgt L st sh I J) (kf : ¬ P → pm_G Γ cells slots (pc + 3) L st sh I J) : pm_G Γ cells slots pc L (.int (pm_b P) :: st) sh I J :=
  g_if_ne C hd ht (fun h => kt (Decidable.of_not_not (fun q => h (pm_b_0.mpr q)))) (fun h => kf (pm_b_0.mp h))
theorem g_tsIn {dflt lo hi : Int} {offs : Array Int} {len : Nat} {x : Int32} {off : Int} {tgt : Nat} (z : Int) (C : pm_Cx Γ own cc d n) (hd : decode cc pc = .ok (.tableswitch dflt lo hi offs, len)) (hx0 : x.toInt = z) (h1 : ¬ z < lo) (h2 : ¬ hi < z) (ho : offs[(z - lo).toNat]? = some off) (ht : (pc : Int) + off = (tgt : Int)) (k : pm_G Γ cells slots tgt L st sh I J) : pm_G Γ cells slots pc L (.int x :: st) sh I J := by
  obtain ⟨p, l, e, R, s, m, args, below, meth, c, Q, u, nL⟩ := Γ
  obtain ⟨hx, hb, hml, rfl, hown, hts, hlk, hK, hfr, hlo, hB⟩ := C
  intro H locs ls hW hS hl hc hs
  subst hx0
  exact lv_tableIn hx hb hd h1 h2 ho ht (k H locs ls hW hS hl hc hs)
theorem g_tsOut {dflt lo hi : Int} {offs : Array Int} {len : Nat} {x : Int32} {tgt : Nat} (C : pm_Cx Γ own cc d n) (hd : decode cc pc = .ok (.tableswitch dflt lo hi offs, len)) (h : x.toInt < lo ∨ hi < x.toInt) (ht : (pc : Int) + dflt = (tgt : Int)) (k : pm_G Γ cells slots tgt L st sh I J) : pm_G Γ cells slots pc L (.int x :: st) sh I J := by
  obtain ⟨p, l, e, R, s, m, args, below, meth, c, Q, u, nL⟩ := Γ
  obtain ⟨hx, hb, hml, rfl, hown, hts, hlk, hK, hfr, hlo, hB⟩ := C
  intro H locs ls hW hS hl hc hs
  exact lv_tableOut hx hb hd h ht (k H locs ls hW hS hl hc hs)
theorem g_ls {dflt : Int} {ps : Array (Int × Int)} {len : Nat} {x : Int32} {off : Int} {tgt : Nat} (C : pm_Cx Γ own cc d n) (hd : decode cc pc = .ok (.lookupswitch dflt ps, len)) (hp : (ps.toList.zip (ps.toList.drop 1)).all (fun (a, next) => a.1 < next.1) = true) (ho : Op.lookupswitch.offset ps.toList dflt x.toInt = off) (ht : (pc : Int) + off = (tgt : Int)) (k : pm_G Γ cells slots tgt L st sh I J) : pm_G Γ cells slots pc L (.int x :: st) sh I J := by
  obtain ⟨p, l, e, R, s, m, args, below, meth, c, Q, u, nL⟩ := Γ
  obtain ⟨hx, hb, hml, rfl, hown, hts, hlk, hK, hfr, hlo, hB⟩ := C
  intro H locs ls hW hS hl hc hs
  exact lv_lookup hx hb hd hp ho ht (k H locs ls hW hS hl hc hs)
theorem g_getI {idx a ci q : Nat} {fs : List pm_F} (C : pm_Cx Γ own cc d n) (hd : decode cc pc = .ok (.getfield idx, 3)) (K : pm_fl own idx ci q) (ha : sh[a]? = some (.inr (.inr (ci, fs)))) (hq : fs[q]? = some (.inl 0)) (k : pm_G Γ cells slots (pc + 3) L (.int (I a q) :: st) sh I J) : pm_G Γ cells slots pc L (.ref a :: st) sh I J := by
  obtain ⟨p, l, e, R, s, m, args, below, meth, c, Q, u, nL⟩ := Γ
  obtain ⟨hx, hb, hml, rfl, hown, hts, hlk, hK, hfr, hlo, hB⟩ := C
  intro H locs ls hW hS hl hc hs
  obtain ⟨C9, T9, N9, k1, k2, k3, k4⟩ := K
  exact va_get (D := u.2.2.1) hx hb hts k4 hown hK.1 hW.1 a (pm_ws_get ha) k1 q k2 (hts _ k3) (fun _ h9 => h9) (v := pm_tr u (.int (I a q))) (pm_fget hq) hd (k H locs ls hW hS hl hc hs)
theorem g_getJ {idx a ci q : Nat} {fs : List pm_F} (C : pm_Cx Γ own cc d n) (hd : decode cc pc = .ok (.getfield idx, 3)) (K : pm_fl own idx ci q) (ha : sh[a]? = some (.inr (.inr (ci, fs)))) (hq : fs[q]? = some (.inl 1)) (k : pm_G Γ cells slots (pc + 3) L (.long (J a q) :: st) sh I J) : pm_G Γ cells slots pc L (.ref a :: st) sh I J := by
  obtain ⟨p, l, e, R, s, m, args, below, meth, c, Q, u, nL⟩ := Γ
  obtain ⟨hx, hb, hml, rfl, hown, hts, hlk, hK, hfr, hlo, hB⟩ := C
  intro H locs ls hW hS hl hc hs
  obtain ⟨C9, T9, N9, k1, k2, k3, k4⟩ := K
  exact va_get (D := u.2.2.1) hx hb hts k4 hown hK.1 hW.1 a (pm_ws_get ha) k1 q k2 (hts _ k3) (fun _ h9 => h9) (v := pm_tr u (.long (J a q))) (pm_fget hq) hd (k H locs ls hW hS hl hc hs)
theorem g_getR {idx a ci q : Nat} {fs : List pm_F} {r : Nat} (C : pm_Cx Γ own cc d n) (hd : decode cc pc = .ok (.getfield idx, 3)) (K : pm_fl own idx ci q) (ha : sh[a]? = some (.inr (.inr (ci, fs)))) (hq : fs[q]? = some (.inr (some r))) (k : pm_G Γ cells slots (pc + 3) L (.ref r :: st) sh I J) : pm_G Γ cells slots pc L (.ref a :: st) sh I J := by
  obtain ⟨p, l, e, R, s, m, args, below, meth, c, Q, u, nL⟩ := Γ
  obtain ⟨hx, hb, hml, rfl, hown, hts, hlk, hK, hfr, hlo, hB⟩ := C
  intro H locs ls hW hS hl hc hs
  obtain ⟨C9, T9, N9, k1, k2, k3, k4⟩ := K
  exact va_get (D := u.2.2.1) hx hb hts k4 hown hK.1 hW.1 a (pm_ws_get ha) k1 q k2 (hts _ k3) (fun _ h9 => h9) (v := pm_tr u (.ref r)) (pm_fget hq) hd (k H locs ls hW hS hl hc hs)
theorem g_putI {idx a ci q : Nat} {fs : List pm_F} {x : Int32} {ty : FieldType} (C : pm_Cx Γ own cc d n) (hd : decode cc pc = .ok (.putfield idx, 3)) (K : pm_fp own idx ci q false ty) (hn : narrow ty (.int x) = .int x) (hf : fits ty (.int x) = true) (ha : sh[a]? = some (.inr (.inr (ci, fs)))) (hq : fs[q]? = some (.inl 0)) (k : pm_G Γ cells slots (pc + 3) L st sh (pm_u I a q x) J) : pm_G Γ cells slots pc L (.int x :: .ref a :: st) sh I J := by
  obtain ⟨p, l, e, R, s, m, args, below, meth, c, Q, u, nL⟩ := Γ
  obtain ⟨hx, hb, hml, rfl, hown, hts, hlk, hK, hfr, hlo, hB⟩ := C
  intro H locs ls hW hS hl hc hs
  have hv : pm_fv u (pm_u I a q x) (J) a q (.inl 0) = .int x := by
    show Value.int ((pm_u I a q x) a q) = _
    rw [pm_u_at, pk_us]
  refine pm_put hx hb hown hts hK.1 hW hS hd K (fun h => by cases h) hn hf ha (List.getElem?_eq_some_iff.mp hq).1 rfl (I' := pm_u I a q x) (J' := J) ?_ (fun H1 locs1 hW1 hS1 => k H1 locs1 ls hW1 hS1 hl hc hs)
  have h := pm_oset (u := u) (I := I) (J := J) (I' := pm_u I a q x) (J' := J) (f' := .inl 0) ha hq (fun b h => pm_u_off h) (fun _ _ => rfl) (fun j h => by rw [pm_u_at]; exact pk_un h) (fun _ _ => rfl)
  rw [hv, pm_fsset hq, pm_shset ha] at h
  exact h
theorem g_putJ {idx a ci q : Nat} {fs : List pm_F} {x : Int64} {ty : FieldType} (C : pm_Cx Γ own cc d n) (hd : decode cc pc = .ok (.putfield idx, 3)) (K : pm_fp own idx ci q false ty) (hn : narrow ty (.long x) = .long x) (hf : fits ty (.long x) = true) (ha : sh[a]? = some (.inr (.inr (ci, fs)))) (hq : fs[q]? = some (.inl 1)) (k : pm_G Γ cells slots (pc + 3) L st sh I (pm_uJ J a q x)) : pm_G Γ cells slots pc L (.long x :: .ref a :: st) sh I J := by
  obtain ⟨p, l, e, R, s, m, args, below, meth, c, Q, u, nL⟩ := Γ
  obtain ⟨hx, hb, hml, rfl, hown, hts, hlk, hK, hfr, hlo, hB⟩ := C
  intro H locs ls hW hS hl hc hs
  have hv : pm_fv u (I) (pm_uJ J a q x) a q (.inl 1) = .long x := by
    show Value.long ((pm_uJ J a q x) a q) = _
    rw [pm_uJ_at, pk_uLs]
  refine pm_put hx hb hown hts hK.1 hW hS hd K (fun h => by cases h) hn hf ha (List.getElem?_eq_some_iff.mp hq).1 rfl (I' := I) (J' := pm_uJ J a q x) ?_ (fun H1 locs1 hW1 hS1 => k H1 locs1 ls hW1 hS1 hl hc hs)
  have h := pm_oset (u := u) (I := I) (J := J) (I' := I) (J' := pm_uJ J a q x) (f' := .inl 1) ha hq (fun _ _ => rfl) (fun b h => pm_uJ_off h) (fun _ _ => rfl) (fun j h => by rw [pm_uJ_at]; exact pk_uLn h)
  rw [hv, pm_fsset hq, pm_shset ha] at h
  exact h
theorem g_putR {idx a ci q r : Nat} {fs : List pm_F} {f0 : pm_F} {ty : FieldType} {nm : String} {ret : Option FieldType} {mc ms : Nat} {Post : Option Value → List pm_S → pm_I → pm_J → Prop} (C : pm_Cx Γ own cc d n) (C2 : pm_Ct Γ "<init>" ret mc ms Post) (hd : decode cc pc = .ok (.putfield idx, 3)) (K : pm_fp own idx ci q true ty) (hn : ∀ x, narrow ty (.ref x) = .ref x) (hf : ∀ x, fits ty (.ref x) = true) (ha : sh[a]? = some (.inr (.inr (ci, fs)))) (hq : fs[q]? = some f0) (k : pm_G Γ cells slots (pc + 3) L st (sh.set a (.inr (.inr (ci, fs.set q (.inr (some r)))))) I J) : pm_G Γ cells slots pc L (.ref r :: .ref a :: st) sh I J := by
  obtain ⟨p, l, e, R, s, m, args, below, meth, c, Q, u, nL⟩ := Γ
  obtain ⟨hx, hb, hml, rfl, hown, hts, hlk, hK, hfr, hlo, hB⟩ := C
  intro H locs ls hW hS hl hc hs
  refine pm_put hx hb hown hts hK.1 hW hS hd K (fun _ => C2.1) (hn _) (hf _) ha (List.getElem?_eq_some_iff.mp hq).1 (by rw [List.length_set]) (I' := I) (J' := J) ?_ (fun H1 locs1 hW1 hS1 => k H1 locs1 ls hW1 hS1 hl hc hs)
  exact pm_oset (u := u) (I := I) (J := J) (f' := .inr (some r)) ha hq (fun _ _ => rfl) (fun _ _ => rfl) (fun _ _ => rfl) (fun _ _ => rfl)
theorem g_iald {a N j : Nat} {i : Int32} (C : pm_Cx Γ own cc d n) (hd : decode cc pc = .ok (.iaload, 1)) (ha : sh[a]? = some (.inl (0, N))) (hN : N ≤ 100000) (hi : i = nI j) (hj : j < N) (k : pm_G Γ cells slots (pc + 1) L (.int (I a j) :: st) sh I J) : pm_G Γ cells slots pc L (.int i :: .ref a :: st) sh I J := by
  obtain ⟨p, l, e, R, s, m, args, below, meth, c, Q, u, nL⟩ := Γ
  obtain ⟨hx, hb, hml, rfl, hown, hts, hlk, hK, hfr, hlo, hB⟩ := C
  intro H locs ls hW hS hl hc hs
  obtain ⟨c1, c2⟩ := pm_clamp hi hj hN
  refine va_iald hx hb hK.1 hW.1 a 0 (pm_ws_get ha) rfl c2 hd ?_
  rw [c1]
  exact k H locs ls hW hS hl hc hs
theorem g_iast {a N j : Nat} {i x : Int32} (C : pm_Cx Γ own cc d n) (hd : decode cc pc = .ok (.iastore, 1)) (ha : sh[a]? = some (.inl (0, N))) (hN : N ≤ 100000) (hi : i = nI j) (hj : j < N) (k : pm_G Γ cells slots (pc + 1) L st sh (pm_u I a j (x)) J) : pm_G Γ cells slots pc L (.int x :: .int i :: .ref a :: st) sh I J := by
  obtain ⟨p, l, e, R, s, m, args, below, meth, c, Q, u, nL⟩ := Γ
  obtain ⟨hx, hb, hml, rfl, hown, hts, hlk, hK, hfr, hlo, hB⟩ := C
  intro H locs ls hW hS hl hc hs
  obtain ⟨c1, c2⟩ := pm_clamp hi hj hN
  have he0 : H[pm_ad u a]? = some (vp_cell (u.2.2.2 0) (N, .inl (I a))) := hW.1 a _ (pm_ws_get ha)
  refine W.iast hx hb he0 ((hK.1.2 0 _ rfl).1 N (fun j => .int (I a j))) (fun q => by cases q) (by show ¬ (i < 0 ∨ (arrV _ _ _).slots.size ≤ _); rw [arrV_size]; exact c2) rfl rfl hd fun H1 e1 z oq => ?_
  obtain ⟨w1, w2⟩ := pm_ast (I' := pm_u I a j (x)) (J' := J) (H1 := H1) (x := i.toNatClampNeg) hW hS ha (fun b h => pm_u_off h) (fun _ _ => rfl) (by
    show H1[pm_ad u a]? = some (vp_cell (u.2.2.2 0) (N, .inl (pm_u I a j (x) a)))
    rw [e1, vp_cell_i, vp_cell_i, arrV_store, pm_u_at, c1]
    congr 2
    funext q
    by_cases hq : q = j
    · subst hq
      simp [updV, upd]
    · simp [updV, upd, hq]) z oq
  exact k H1 _ ls w1 w2 hl hc hs
theorem g_bald {a N j : Nat} {i : Int32} (C : pm_Cx Γ own cc d n) (hd : decode cc pc = .ok (.baload, 1)) (ha : sh[a]? = some (.inl (1, N))) (hN : N ≤ 100000) (hi : i = nI j) (hj : j < N) (k : pm_G Γ cells slots (pc + 1) L (.int (I a j) :: st) sh I J) : pm_G Γ cells slots pc L (.int i :: .ref a :: st) sh I J := by
  obtain ⟨p, l, e, R, s, m, args, below, meth, c, Q, u, nL⟩ := Γ
  obtain ⟨hx, hb, hml, rfl, hown, hts, hlk, hK, hfr, hlo, hB⟩ := C
  intro H locs ls hW hS hl hc hs
  obtain ⟨c1, c2⟩ := pm_clamp hi hj hN
  refine va_bald hx hb hK.1 hW.1 a 1 (pm_ws_get ha) rfl c2 hd ?_
  rw [c1]
  exact k H locs ls hW hS hl hc hs
theorem g_bast {a N j : Nat} {i x : Int32} (C : pm_Cx Γ own cc d n) (hd : decode cc pc = .ok (.bastore, 1)) (ha : sh[a]? = some (.inl (1, N))) (hN : N ≤ 100000) (hi : i = nI j) (hj : j < N) (k : pm_G Γ cells slots (pc + 1) L st sh (pm_u I a j (x.toInt8.toInt32)) J) : pm_G Γ cells slots pc L (.int x :: .int i :: .ref a :: st) sh I J := by
  obtain ⟨p, l, e, R, s, m, args, below, meth, c, Q, u, nL⟩ := Γ
  obtain ⟨hx, hb, hml, rfl, hown, hts, hlk, hK, hfr, hlo, hB⟩ := C
  intro H locs ls hW hS hl hc hs
  obtain ⟨c1, c2⟩ := pm_clamp hi hj hN
  have he0 : H[pm_ad u a]? = some (vp_cell (u.2.2.2 1) (N, .inl (I a))) := hW.1 a _ (pm_ws_get ha)
  refine W.bast hx hb he0 ((hK.1.2 1 _ rfl).1 N (fun j => .int (I a j))) (fun q => by cases q) (by show ¬ (i < 0 ∨ (arrV _ _ _).slots.size ≤ _); rw [arrV_size]; exact c2) rfl rfl hd fun H1 e1 z oq => ?_
  obtain ⟨w1, w2⟩ := pm_ast (I' := pm_u I a j (x.toInt8.toInt32)) (J' := J) (H1 := H1) (x := i.toNatClampNeg) hW hS ha (fun b h => pm_u_off h) (fun _ _ => rfl) (by
    show H1[pm_ad u a]? = some (vp_cell (u.2.2.2 1) (N, .inl (pm_u I a j (x.toInt8.toInt32) a)))
    rw [e1, vp_cell_i, vp_cell_i, arrV_store, pm_u_at, c1]
    congr 2
    funext q
    by_cases hq : q = j
    · subst hq
      simp [updV, upd, narrow]
    · simp [updV, upd, hq]) z oq
  exact k H1 _ ls w1 w2 hl hc hs
theorem g_lald {a N j : Nat} {i : Int32} (C : pm_Cx Γ own cc d n) (hd : decode cc pc = .ok (.laload, 1)) (ha : sh[a]? = some (.inl (2, N))) (hN : N ≤ 100000) (hi : i = nI j) (hj : j < N) (k : pm_G Γ cells slots (pc + 1) L (.long (J a j) :: st) sh I J) : pm_G Γ cells slots pc L (.int i :: .ref a :: st) sh I J := by
  obtain ⟨p, l, e, R, s, m, args, below, meth, c, Q, u, nL⟩ := Γ
  obtain ⟨hx, hb, hml, rfl, hown, hts, hlk, hK, hfr, hlo, hB⟩ := C
  intro H locs ls hW hS hl hc hs
  obtain ⟨c1, c2⟩ := pm_clamp hi hj hN
  refine va_lald hx hb hK.1 hW.1 a 2 (pm_ws_get ha) rfl c2 hd ?_
  rw [c1]
  exact k H locs ls hW hS hl hc hs
theorem g_last {a N j : Nat} {i : Int32} {x : Int64} (C : pm_Cx Γ own cc d n) (hd : decode cc pc = .ok (.lastore, 1)) (ha : sh[a]? = some (.inl (2, N))) (hN : N ≤ 100000) (hi : i = nI j) (hj : j < N) (k : pm_G Γ cells slots (pc + 1) L st sh I (pm_uJ J a j x)) : pm_G Γ cells slots pc L (.long x :: .int i :: .ref a :: st) sh I J := by
  obtain ⟨p, l, e, R, s, m, args, below, meth, c, Q, u, nL⟩ := Γ
  obtain ⟨hx, hb, hml, rfl, hown, hts, hlk, hK, hfr, hlo, hB⟩ := C
  intro H locs ls hW hS hl hc hs
  obtain ⟨c1, c2⟩ := pm_clamp hi hj hN
  have he0 : H[pm_ad u a]? = some (vp_cell (u.2.2.2 2) (N, .inr (.inl (J a)))) := hW.1 a _ (pm_ws_get ha)
  refine W.last hx hb he0 ((hK.1.2 2 _ rfl).1 N (fun j => .long (J a j))) (fun q => by cases q) (by show ¬ (i < 0 ∨ (arrV _ _ _).slots.size ≤ _); rw [arrV_size]; exact c2) rfl rfl hd fun H1 e1 z oq => ?_
  obtain ⟨w1, w2⟩ := pm_ast (I' := I) (J' := pm_uJ J a j x) (H1 := H1) (x := i.toNatClampNeg) hW hS ha (fun _ _ => rfl) (fun b h => pm_uJ_off h) (by
    show H1[pm_ad u a]? = some (vp_cell (u.2.2.2 2) (N, .inr (.inl (pm_uJ J a j x a))))
    rw [e1, vp_cell_l, vp_cell_l, arrV_store, pm_uJ_at, c1]
    congr 2
    funext q
    by_cases hq : q = j
    · subst hq
      simp [updV, vp_updL]
    · simp [updV, vp_updL, hq]) z oq
  exact k H1 _ ls w1 w2 hl hc hs
theorem g_aald {a t j r : Nat} {i : Int32} {rs : List (Option Nat)} {ty : FieldType} (C : pm_Cx Γ own cc d n) (hd : decode cc pc = .ok (.aaload, 1)) (ha : sh[a]? = some (.inr (.inl (t, rs)))) (ht : ∀ u : pm_U, (pm_tys u)[t]? = some (u.2.2.2 t, ty)) (hr : ty.isReference = true) (hN : rs.length ≤ 100000) (hi : i = nI j) (hv : rs[j]? = some (some r)) (k : pm_G Γ cells slots (pc + 1) L (.ref r :: st) sh I J) : pm_G Γ cells slots pc L (.int i :: .ref a :: st) sh I J := by
  obtain ⟨p, l, e, R, s, m, args, below, meth, c, Q, u, nL⟩ := Γ
  obtain ⟨hx, hb, hml, rfl, hown, hts, hlk, hK, hfr, hlo, hB⟩ := C
  intro H locs ls hW hS hl hc hs
  have hj := (List.getElem?_eq_some_iff.mp hv).1
  obtain ⟨c1, c2⟩ := pm_clamp hi hj hN
  have he0 : H[pm_ad u a]? = some (vp_cell (u.2.2.2 t) (rs.length, .inr (.inr (.inr (.inr (fun j => (rs[j]?).bind (fun o => o.map (pm_ad u)))))))) := hW.1 a _ (pm_ws_get ha)
  rw [vp_cell_q] at he0
  refine W.aald (v := .ref (pm_ad u r)) (ty := ty) hx hb he0 ((hK.1.2 t _ (ht u)).1 rs.length _) hr (fun q => by cases q) (by rw [arrV_size]; exact c2) (by rw [arrV_read _ _ (by rw [c1]; exact hj), c1, hv]; rfl) rfl rfl hd (k H locs ls hW hS hl hc hs)
theorem g_gets {idx j : Nat} (C : pm_Cx Γ own cc d n) (hd : decode cc pc = .ok (.getstatic idx, 3)) (hj : j < 4) (hw : Cond.fieldLink own idx RX7 (pm_tn j) "[I" ∈ pm_tbl) (k : pm_G Γ cells slots (pc + 3) L (.ref (1000 + j) :: st) sh I J) : pm_G Γ cells slots pc L st sh I J := by
  obtain ⟨p, l, e, R, s, m, args, below, meth, c, Q, u, nL⟩ := Γ
  obtain ⟨hx, hb, hml, rfl, hown, hts, hlk, hK, hfr, hlo, hB⟩ := C
  intro H locs ls hW hS hl hc hs
  have hAd := pm_ad_hi u j
  refine va_gets (v := .ref (u.2.1 j)) hx hb (hK.2.1 j hj).1 hS hown (hts _ hw) (fun _ h9 => h9) hd ?_
  rw [← hAd]
  exact k H locs ls hW hS hl hc hs
theorem g_getsN {idx j : Nat} (C : pm_Cx Γ own cc d n) (hd : decode cc pc = .ok (.getstatic idx, 3)) (hj : j < 4) (hw : (own, idx, pm_tn j) ∈ pm_nF) (k : pm_G Γ cells slots (pc + 3) L (.ref (1000 + j) :: st) sh I J) : pm_G Γ cells slots pc L st sh I J := by
  obtain ⟨p, l, e, R, s, m, args, below, meth, c, Q, u, nL⟩ := Γ
  obtain ⟨hx, hb, hml, rfl, hown, hts, hlk, hK, hfr, hlo, hB⟩ := C
  intro H locs ls hW hS hl hc hs
  have hAd := pm_ad_hi u j
  refine va_getsN (v := .ref (u.2.1 j)) hx hb (hK.2.1 j hj).1 hS hown (va_Nw.use rfl (hK.2.2.2.2.2.2.1 _ hw)) (fun _ h9 => h9) hd ?_
  rw [← hAd]
  exact k H locs ls hW hS hl hc hs
theorem g_tald {j z : Nat} {i : Int32} (C : pm_Cx Γ own cc d n) (hd : decode cc pc = .ok (.iaload, 1)) (hj : j < 4) (hi : i = nI z) (hz : z < (pm_tv j).length) (k : pm_G Γ cells slots (pc + 1) L (.int ((pm_tv j).getD z 0) :: st) sh I J) : pm_G Γ cells slots pc L (.int i :: .ref (1000 + j) :: st) sh I J := by
  obtain ⟨p, l, e, R, s, m, args, below, meth, c, Q, u, nL⟩ := Γ
  obtain ⟨hx, hb, hml, rfl, hown, hts, hlk, hK, hfr, hlo, hB⟩ := C
  intro H locs ls hW hS hl hc hs
  have hAd := pm_ad_hi u j
  obtain ⟨c1, c2⟩ := pm_clamp hi hz (by have h : ∀ j, j < 4 → (pm_tv j).length ≤ 100000 := by decide
                                        exact h j hj)
  show W p l e R s m args below meth c H locs cells slots Q (F0 m pc ls (.int i :: .ref (pm_ad u (1000 + j)) :: st.map (pm_tr u)))
  rw [hAd]
  exact va_ti hx hb (hK.2.1 j hj).2 hS c2 (by rw [c1]; rfl) hd (k H locs ls hW hS hl hc hs)
end PMR
