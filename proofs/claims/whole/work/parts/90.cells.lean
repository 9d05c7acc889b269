/-! The makers: new cells -/
/-- a shape told place by place -/
def pf (n : Nat) (f : Nat → pm_S) : List pm_S := (List.range n).map f
def uf (f : Nat → pm_S) (a : Nat) (x : pm_S) : Nat → pm_S := fun b => if b = a then x else f b
theorem uf_at {f : Nat → pm_S} {a : Nat} {x : pm_S} : uf f a x a = x := if_pos rfl
theorem uf_off {f : Nat → pm_S} {a b : Nat} {x : pm_S} (h : b ≠ a) : uf f a x b = f b := if_neg h
theorem pf_len {n : Nat} {f : Nat → pm_S} : (pf n f).length = n := by simp [pf]
theorem pf_get {n a : Nat} {f : Nat → pm_S} {x : pm_S} (h : a < n) (e : f a = x) : (pf n f)[a]? = some x := by
  simp [pf, h, e]
theorem pf_push {n : Nat} {f : Nat → pm_S} {x : pm_S} : pf n f ++ [x] = pf (n + 1) (uf f n x) := by
  unfold pf
  rw [List.range_succ, List.map_append]
  congr 1
  · apply List.map_congr_left
    intro a ha
    rw [uf_off (by have := List.mem_range.mp ha; omega)]
  · rw [List.map_cons, List.map_nil, uf_at]
theorem pf_set {n a : Nat} {f : Nat → pm_S} {x : pm_S} : (pf n f).set a x = pf n (uf f a x) := by
  apply List.ext_getElem?
  intro i
  by_cases hi : i < n
  · rw [pf_get hi rfl]
    by_cases e : i = a
    · subst e
      rw [List.getElem?_set_self (by rw [pf_len]; exact hi), uf_at]
    · rw [List.getElem?_set_ne (Ne.symm e), pf_get hi rfl, uf_off e]
  · rw [List.getElem?_eq_none (by rw [List.length_set, pf_len]; omega), List.getElem?_eq_none (by rw [pf_len]; omega)]
/-- the world holds nothing from n on -/
def pm_Z (n : Nat) (I : pm_I) : Prop := ∀ a, n ≤ a → I a = fun _ => 0
theorem pm_Z_up {n m : Nat} {I : pm_I} (h : pm_Z n I) (hm : n ≤ m) : pm_Z m I := fun a ha => h a (by omega)
theorem pm_Z_u {n a k : Nat} {I : pm_I} {x : Int32} (h : pm_Z n I) (ha : a < n) : pm_Z n (pm_u I a k x) := fun b hb => by rw [pm_u_off (by omega)]; exact h b hb
def pm_J0 : pm_J := fun _ _ => 0
theorem pm_ce_c {u : pm_U} {I I' : pm_I} {J J' : pm_J} {k : Nat} {d : pm_S} (hI : I' k = I k) (hJ : J' k = J k) : pm_ce u I' J' k d = pm_ce u I J k d := by
  have e1 : ∀ (j : Nat) (f : pm_F), pm_fv u I' J' k j f = pm_fv u I J k j f := by
    intro j f
    unfold pm_fv
    rw [hI, hJ]
  rcases d with q | q | q
  · simp only [pm_ce]; rw [hI, hJ]
  · rfl
  · simp only [pm_ce]
    congr 2
    apply List.map_congr_left
    intro x _
    exact e1 _ _
/-- one cell more -/
theorem pm_grow {u : pm_U} {sh : List pm_S} {I : pm_I} {J : pm_J} {H H1 : Heap} {x : pm_S} (hW : pm_Wd u sh I J H) (h9 : sh.length < 1000) (z : H1.size = H.size + 1) (o : ∀ q : Nat, q < H.size → H1[q]? = H[q]?) (e : va_at u.2.2.1 vwCl (H.size, pm_ce u I J sh.length x) H1) : pm_Wd u (sh ++ [x]) I J H1 := by
  refine ⟨fun k q hk => ?_, by rw [z, hW.2.1, List.length_append]; simp; omega, by rw [List.length_append]; simp; omega⟩
  obtain ⟨d, hd, rfl⟩ := pm_ws_inv hk
  have hl : k < sh.length + 1 := by have := (List.getElem?_eq_some_iff.mp hd).1; simpa using this
  by_cases e1 : k < sh.length
  · rw [List.getElem?_append_left e1] at hd
    have h2 := (hW.1.kept (H1 := H1) (fun k2 x2 hx2 => o x2.1 ((hW.1 k2 x2 hx2).lt))) k _ (pm_ws_get hd)
    exact h2
  · have e2 : k = sh.length := by omega
    subst e2
    rw [List.getElem?_append_right (Nat.le_refl _), Nat.sub_self] at hd
    cases hd
    have e3 : pm_ad u sh.length = H.size := by rw [pm_ad_lo (by omega), hW.2.1]
    rw [e3]
    exact e
theorem pm_growS {u : pm_U} {s : State} {H H1 : Heap} {locs : List Loc} {n : Nat} (hS : va_S (pm_A u) s.heap H locs) (z : H1.size = H.size + n) (o : ∀ q : Nat, q < H.size → H1[q]? = H[q]?) : va_S (pm_A u) s.heap H1 locs := ⟨Nat.le_trans hS.1 (by omega), fun x h1 h2 => (o x (Nat.lt_of_lt_of_le h1 hS.1)).trans (hS.2.1 x h1 h2), hS.2.2⟩
/-- the empty value of a field -/
def pm_dv (f : pm_F) : Value := match f with
  | .inl 0 => .int 0
  | .inl _ => .long 0
  | .inr _ => .null
/-- a class that new makes -/
def pm_ln (own : String) (idx ci : Nat) (fs : List pm_F) : Prop := ∃ (C : String) (T : u_T) (N : Nat) (ty9 : Nat → FieldType), vwCl[ci]? = some (C, T, N) ∧ Cond.classLink own idx C ∈ pm_tbl ∧ Cond.instantiable C N ∈ pm_tbl ∧ Cond.initialized C ∈ pm_tbl ∧ (∀ w ∈ u_ws C T N, w ∈ pm_tbl) ∧ (∀ k, k < N → parseFieldDescriptor (T k).2.2.1 = some (ty9 k)) ∧ fs.length = N ∧ ∀ j, j < N → defaultValue (ty9 j) = pm_dv (fs.getD j (.inl 0))
theorem pm_rcC {Γ : pm_T} {nm : String} {ret : Option FieldType} {mc ms c9 s9 : Nat} {Post : Option Value → List pm_S → pm_I → pm_J → Prop} (C2 : pm_Ct Γ nm ret mc ms Post) (h1 : c9 ≤ mc) (h2 : s9 ≤ ms) : pm_rc Γ c9 s9 := by
  obtain ⟨p, l, e, R, s, m, args, below, meth, c, Q, u, nL⟩ := Γ
  obtain ⟨-, -, -, e1, e2⟩ := C2
  exact ⟨by rw [e1]; exact h1, by rw [e2]; exact h2⟩
section PMN
variable {Γ : pm_T} {own : String} {cc : ByteArray} {d n cells slots pc : Nat} {L : List (Nat × Value)} {st : List Value} {I : pm_I} {J : pm_J} {k0 : Nat} {f : Nat → pm_S}
theorem g_new {idx ci : Nat} {fs : List pm_F} (C : pm_Cx Γ own cc d n) (hd : decode cc pc = .ok (.new idx, 3)) (K : pm_ln own idx ci fs) (hfs : ∀ x ∈ fs, (∃ q, x = .inl q) ∨ x = .inr none) (hz : pm_Z k0 I) (hJ : (∀ x ∈ fs, x = .inl 0 ∨ x = .inr none) ∨ J k0 = fun _ => 0) (hr : pm_rc Γ (cells + 1) (slots + fs.length)) (h9 : k0 < 1000)
    (k : pm_G Γ (cells + 1) (slots + fs.length) (pc + 3) L (.ref k0 :: st) (pf (k0 + 1) (uf f k0 (.inr (.inr (ci, fs))))) I J) : pm_G Γ cells slots pc L st (pf k0 f) I J := by
  obtain ⟨p, l, e, R, s, m, args, below, meth, c, Q, u, nL⟩ := Γ
  obtain ⟨hx, hb, hml, rfl, hown, hts, hlk, hK, hfr, hlo, hB⟩ := C
  obtain ⟨C9, T9, N9, ty9, k1, k2, k3, k4, k5, k6, rfl, k8⟩ := K
  intro H locs ls hW hS hl hc hs
  have hKn := hK.1.1 ci _ k1
  refine W.newcK hx hb hown (hts _ k2) (hts _ k3) (hts _ k4) rfl hd hr.1 hr.2 hKn.2.1 rfl fun H1 kC hkC e1 z1 o1 => ?_
  have ez : k0 = (pf k0 f).length := pf_len.symm
  have hv : ∀ j, j < fs.length → defaultValue (ty9 j) = vp_V (fs.zipIdx.map (fun x => pm_fv u I J k0 x.2 x.1)) j := fun j hj => by
    rw [k8 j hj]
    obtain ⟨x, hx9⟩ : ∃ x, fs[j]? = some x := ⟨_, List.getElem?_eq_getElem hj⟩
    have e2 := pm_fget (u := u) (I := I) (J := J) (a := k0) hx9
    have hm : x ∈ fs := List.mem_of_getElem? hx9
    unfold vp_V
    rw [List.getD_eq_getElem?_getD, List.getD_eq_getElem?_getD, e2, hx9, Option.getD_some, Option.getD_some]
    rcases x with q | q
    · rcases q with _ | q
      · show Value.int 0 = .int (I k0 j)
        rw [hz k0 (Nat.le_refl _)]
      · show Value.long 0 = .long (J k0 j)
        rcases hJ with h | h
        · rcases h _ hm with h | h <;> cases h
        · rw [h]
    · rcases hfs _ hm with ⟨q9, h⟩ | h
      · cases h
      · cases h; rfl
  have hat : va_at u.2.2.1 vwCl (H.size, pm_ce u I J (pf k0 f).length (.inr (.inr (ci, fs)))) H1 := by
    rw [pf_len]
    exact ⟨_, k1, (u_born ty9 hts k5 hKn hkC e1 k6).to hv⟩
  have hW1 := pm_grow (x := .inr (.inr (ci, fs))) hW (by rw [pf_len]; exact h9) z1 o1 hat
  rw [pf_push] at hW1
  have e3 : H.size = pm_ad u k0 := by rw [pm_ad_lo h9, hW.2.1, pf_len]
  rw [e3]
  exact k H1 locs ls hW1 (pm_growS hS z1 o1) hl hr.1 hr.2
theorem g_newi {N : Nat} {v : Int32} (C : pm_Cx Γ own cc d n) (hd : decode cc pc = .ok (.newarray .int, 2)) (hi : v = nI N) (hN : N ≤ 100000) (hz : pm_Z k0 I) (hr : pm_rc Γ (cells + 1) (slots + N)) (h9 : k0 < 1000)
    (k : pm_G Γ (cells + 1) (slots + N) (pc + 2) L (.ref k0 :: st) (pf (k0 + 1) (uf f k0 (.inl (0, N)))) I J) : pm_G Γ cells slots pc L (.int v :: st) (pf k0 f) I J := by
  obtain ⟨p, l, e, R, s, m, args, below, meth, c, Q, u, nL⟩ := Γ
  obtain ⟨hx, hb, hml, rfl, hown, hts, hlk, hK, hfr, hlo, hB⟩ := C
  subst hi
  intro H locs ls hW hS hl hc hs
  refine va_newaK (atype := .int) hx hb (hts _ la_int) rfl hd rfl (nI_pos (by omega)) (nI_clamp (by omega)) (show N * 4 ≤ 536870912 by omega) hr.1 hr.2 rfl fun H1 cA e1 z1 o1 hAr hNm => ?_
  have ec : cA = u.2.2.2 0 := Option.some.inj (hNm.symm.trans (hK.1.2 0 _ rfl).2)
  subst ec
  have hat : va_at u.2.2.1 vwCl (H.size, pm_ce u I J (pf k0 f).length (.inl (0, N))) H1 := by
    rw [pf_len]
    show H1[H.size]? = some (vp_cell (u.2.2.2 0) (N, .inl (I k0)))
    rw [vp_cell_i, hz k0 (Nat.le_refl _)]
    exact e1
  have hW1 := pm_grow (x := .inl (0, N)) hW (by rw [pf_len]; exact h9) z1 o1 hat
  rw [pf_push] at hW1
  have e3 : H.size = pm_ad u k0 := by rw [pm_ad_lo h9, hW.2.1, pf_len]
  rw [e3]
  exact k H1 locs ls hW1 (pm_growS hS z1 o1) hl hr.1 hr.2
theorem g_newb {N : Nat} {v : Int32} (C : pm_Cx Γ own cc d n) (hd : decode cc pc = .ok (.newarray .byte, 2)) (hi : v = nI N) (hN : N ≤ 100000) (hz : pm_Z k0 I) (hr : pm_rc Γ (cells + 1) (slots + N)) (h9 : k0 < 1000)
    (k : pm_G Γ (cells + 1) (slots + N) (pc + 2) L (.ref k0 :: st) (pf (k0 + 1) (uf f k0 (.inl (1, N)))) I J) : pm_G Γ cells slots pc L (.int v :: st) (pf k0 f) I J := by
  obtain ⟨p, l, e, R, s, m, args, below, meth, c, Q, u, nL⟩ := Γ
  obtain ⟨hx, hb, hml, rfl, hown, hts, hlk, hK, hfr, hlo, hB⟩ := C
  subst hi
  intro H locs ls hW hS hl hc hs
  refine va_newaK (atype := .byte) hx hb (hts _ la_byte) rfl hd rfl (nI_pos (by omega)) (nI_clamp (by omega)) (show N * 1 ≤ 536870912 by omega) hr.1 hr.2 rfl fun H1 cA e1 z1 o1 hAr hNm => ?_
  have ec : cA = u.2.2.2 1 := Option.some.inj (hNm.symm.trans (hK.1.2 1 _ rfl).2)
  subst ec
  have hat : va_at u.2.2.1 vwCl (H.size, pm_ce u I J (pf k0 f).length (.inl (1, N))) H1 := by
    rw [pf_len]
    show H1[H.size]? = some (vp_cell (u.2.2.2 1) (N, .inl (I k0)))
    rw [vp_cell_i, hz k0 (Nat.le_refl _)]
    exact e1
  have hW1 := pm_grow (x := .inl (1, N)) hW (by rw [pf_len]; exact h9) z1 o1 hat
  rw [pf_push] at hW1
  have e3 : H.size = pm_ad u k0 := by rw [pm_ad_lo h9, hW.2.1, pf_len]
  rw [e3]
  exact k H1 locs ls hW1 (pm_growS hS z1 o1) hl hr.1 hr.2
theorem g_newl {N : Nat} {v : Int32} (C : pm_Cx Γ own cc d n) (hd : decode cc pc = .ok (.newarray .long, 2)) (hi : v = nI N) (hN : N ≤ 100000) (hz : J k0 = fun _ => 0) (hr : pm_rc Γ (cells + 1) (slots + N)) (h9 : k0 < 1000)
    (k : pm_G Γ (cells + 1) (slots + N) (pc + 2) L (.ref k0 :: st) (pf (k0 + 1) (uf f k0 (.inl (2, N)))) I J) : pm_G Γ cells slots pc L (.int v :: st) (pf k0 f) I J := by
  obtain ⟨p, l, e, R, s, m, args, below, meth, c, Q, u, nL⟩ := Γ
  obtain ⟨hx, hb, hml, rfl, hown, hts, hlk, hK, hfr, hlo, hB⟩ := C
  subst hi
  intro H locs ls hW hS hl hc hs
  refine va_newaK (atype := .long) hx hb (hts _ la_long) rfl hd rfl (nI_pos (by omega)) (nI_clamp (by omega)) (show N * 8 ≤ 536870912 by omega) hr.1 hr.2 rfl fun H1 cA e1 z1 o1 hAr hNm => ?_
  have ec : cA = u.2.2.2 2 := Option.some.inj (hNm.symm.trans (hK.1.2 2 _ rfl).2)
  subst ec
  have hat : va_at u.2.2.1 vwCl (H.size, pm_ce u I J (pf k0 f).length (.inl (2, N))) H1 := by
    rw [pf_len]
    show H1[H.size]? = some (vp_cell (u.2.2.2 2) (N, .inr (.inl (J k0))))
    rw [vp_cell_l, hz]
    exact e1
  have hW1 := pm_grow (x := .inl (2, N)) hW (by rw [pf_len]; exact h9) z1 o1 hat
  rw [pf_push] at hW1
  have e3 : H.size = pm_ad u k0 := by rw [pm_ad_lo h9, hW.2.1, pf_len]
  rw [e3]
  exact k H1 locs ls hW1 (pm_growS hS z1 o1) hl hr.1 hr.2
theorem g_anew {N t idx : Nat} {v : Int32} {D : String} (C : pm_Cx Γ own cc d n) (hd : decode cc pc = .ok (.anewarray idx, 3)) (hlink : Cond.classLink own idx D ∈ pm_tbl) (ht : ∀ u : pm_U, (pm_tys u)[t]? = some (u.2.2.2 t, .object D)) (hao : ∀ u s H, pm_K u s H → va_AO D s) (hi : v = nI N) (hN : N ≤ 100000) (hr : pm_rc Γ (cells + 1) (slots + N)) (h9 : k0 < 1000)
    (k : pm_G Γ (cells + 1) (slots + N) (pc + 3) L (.ref k0 :: st) (pf (k0 + 1) (uf f k0 (.inr (.inl (t, List.replicate N none))))) I J) : pm_G Γ cells slots pc L (.int v :: st) (pf k0 f) I J := by
  obtain ⟨p, l, e, R, s, m, args, below, meth, c, Q, u, nL⟩ := Γ
  obtain ⟨hx, hb, hml, rfl, hown, hts, hlk, hK, hfr, hlo, hB⟩ := C
  subst hi
  intro H locs ls hW hS hl hc hs
  have en : (nI N).toNatClampNeg = N := nI_clamp (by omega)
  refine W.anew hx hb hown (hts _ hlink) (va_AO.use (hao u s _ hK)) rfl hd rfl (nI_pos (by omega)) (by rw [en]; omega) hr.1 (by rw [en]; exact hr.2) fun cA kA comp f1 f2 f3 f4 => ?_
  rw [en]
  obtain ⟨kB, c2, -, -, -, g4⟩ := (hK.1.2 t _ (ht u)).2
  have ec : cA = u.2.2.2 t := Option.some.inj (f1.symm.trans g4)
  subst ec
  generalize hH1 : H.push ({ cls := u.2.2.2 t, slots := Array.replicate N .null, vm := .none } : Cell) = H1
  have z1 : H1.size = H.size + 1 := by rw [← hH1, Array.size_push]
  have e1 : H1[H.size]? = some (arrV (u.2.2.2 t) N (fun _ => .null)) := by rw [← hH1, Array.getElem?_push_size, ← arrV_new]
  have o1 : ∀ q : Nat, q < H.size → H1[q]? = H[q]? := fun q hq => by rw [← hH1, Array.getElem?_push, if_neg (Nat.ne_of_lt hq)]
  have hat : va_at u.2.2.1 vwCl (H.size, pm_ce u I J (pf k0 f).length (.inr (.inl (t, List.replicate N none)))) H1 := by
    show H1[H.size]? = some (vp_cell (u.2.2.2 t) ((List.replicate N none).length, .inr (.inr (.inr (.inr (fun j => (((List.replicate N none : List (Option Nat)))[j]?).bind (fun o => o.map (pm_ad u))))))))
    rw [vp_cell_q, List.length_replicate, e1]
    congr 2
    funext j
    rw [List.getElem?_replicate]
    split <;> rfl
  have hW1 := pm_grow (x := .inr (.inl (t, List.replicate N none))) hW (by rw [pf_len]; exact h9) z1 o1 hat
  rw [pf_push] at hW1
  have e3 : H.size = pm_ad u k0 := by rw [pm_ad_lo h9, hW.2.1, pf_len]
  rw [e3]
  exact k H1 locs ls hW1 (pm_growS hS z1 o1) hl hr.1 hr.2
/-- an object into a row of its class -/
theorem g_aast {a b t ci j : Nat} {v : Int32} {rs : List (Option Nat)} {r : vw_C} {fs : List pm_F} {sh : List pm_S} (C : pm_Cx Γ own cc d n) (hd : decode cc pc = .ok (.aastore, 1)) (ha : sh[a]? = some (.inr (.inl (t, rs)))) (hb0 : sh[b]? = some (.inr (.inr (ci, fs)))) (hc0 : vwCl[ci]? = some r) (ht : ∀ u : pm_U, (pm_tys u)[t]? = some (u.2.2.2 t, .object r.1)) (hN : rs.length ≤ 100000) (hi : v = nI j) (hj : j < rs.length)
    (k : pm_G Γ cells slots (pc + 1) L st (sh.set a (.inr (.inl (t, rs.set j (some b))))) I J) : pm_G Γ cells slots pc L (.ref b :: .int v :: .ref a :: st) sh I J := by
  obtain ⟨p, l, e, R, s, m, args, below, meth, c, Q, u, nL⟩ := Γ
  obtain ⟨hx, hb, hml, rfl, hown, hts, hlk, hK, hfr, hlo, hB⟩ := C
  intro H locs ls hW hS hl hc hs
  obtain ⟨c1, c2⟩ := pm_clamp hi hj hN
  have hD := pm_ws_D (u := u) (I := I) (J := J) hW.2.2
  have hla := (List.getElem?_eq_some_iff.mp ha).1
  obtain ⟨r', hr', cellV, g1, g2, g3, -⟩ := hW.1 b _ (pm_ws_get hb0)
  have hcls := (hK.1.1 ci r hc0).2
  obtain ⟨kA, comp, k1, k2, k3, -⟩ := (hK.1.2 t _ (ht u)).2
  have hcomp : comp = u.2.2.1.1 ci := Option.some.inj (k3.symm.trans hcls.1)
  subst hcomp
  obtain ⟨kC, hkC, -⟩ := hcls.2
  have h0 := pm_ws_get (u := u) (I := I) (J := J) ha
  refine W.aast hx hb (hW.1 a _ h0) (fun q h => by cases h) (fun h => by cases h) k1 k2 rfl hkC ⟨fun q => c2 (Or.inl q), by show _ < (arrV _ _ _).slots.size; rw [arrV_size, c1]; exact hj⟩ g1 (fun q h => by rw [g3] at h; cases h) (by rw [g2]; exact hkC) (by rw [g2]; exact va_assign hcls) rfl rfl hd fun H1 e z oq => ?_
  have he : va_at u.2.2.1 vwCl (pm_ad u a, pm_ce u I J a (.inr (.inl (t, rs.set j (some b))))) H1 := by
    show H1[pm_ad u a]? = some (vp_cell (u.2.2.2 t) ((rs.set j (some b)).length, .inr (.inr (.inr (.inr (fun q => ((rs.set j (some b))[q]?).bind (fun o => o.map (pm_ad u))))))))
    rw [e]
    show some (Cell.setSlot (vp_cell (u.2.2.2 t) (rs.length, .inr (.inr (.inr (.inr (fun q => (rs[q]?).bind (fun o => o.map (pm_ad u)))))))) _ _) = _
    rw [vp_cell_q, vp_cell_q, arrV_store, List.length_set, c1]
    congr 2
    funext q
    by_cases hq : q = j
    · subst hq
      rw [List.getElem?_set_self hj]
      simp [updV, va_rf]
    · rw [List.getElem?_set_ne (Ne.symm hq)]
      simp [updV, hq]
  have hP1 := hW.1.set hD h0 he oq
  rw [pm_ws_set hla (fun _ _ => rfl) (fun _ _ => rfl)] at hP1
  exact k H1 _ ls ⟨hP1, by rw [z, List.length_set]; exact hW.2.1, by rw [List.length_set]; exact hW.2.2⟩ (hS.put z oq (hD.2 a _ h0)) hl hc hs
end PMN
