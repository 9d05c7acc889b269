/-! More rules: switches, truths, Math, arraycopy, texts; the shape -/
theorem pm_nz {P : Prop} [Decidable P] : narrow .boolean (.int (pm_b P)) = .int (pm_b P) := by unfold pm_b; split <;> rfl
theorem pm_inc (x : Int32) : x + Int32.ofInt (-1) = x - 1 := by rw [Int32.sub_eq_add_neg]; rfl
def pm_cp (I : pm_I) (f : Nat → Int32) (a N : Nat) : pm_I := fun b => if b = a then (fun j => if j < N then f j else I a j) else I b
section PMK
variable {p : Program} {l : Launch} {e : Env} {R : Room} {s : State} {m : MethodId} {args : Array Value} {below : List Frame} {meth : Method} {c : Code} {H : Heap} {locs : List Loc} {cells slots : Nat} {Q : State → Prop} {own : String} {cc : ByteArray} {pc : Nat} {ls : Array Slot} {rest : List Value} {u : pm_U} {sh : List pm_S} {I : pm_I} {J : pm_J}
theorem pm_copy {b0 a N idx : Nat} {f : Nat → Int32} {scr : Cell} (hx : p.tables.exec = Jvm.exec) (hb : c.code = cc) (hml : c.maxLocals = ls.size) (hown : s.vm.findClass own = some m.cls) (hts : ∀ w ∈ pm_tbl, w.before args s = true) (hlink : Cond.methodLink own idx arraycopyName ∈ pm_tbl) (hnat : Cond.native arraycopyName ∈ pm_tbl) (hstat : Cond.static arraycopyName ∈ pm_tbl) (hini : Cond.initialized "java/lang/System" ∈ pm_tbl)
    (hc0 : H[b0]? = some scr) (hs2 : s.isArrayOf scr .int) (hs3 : scr.vm ≠ .unknown) (hs4 : N ≤ scr.slots.size) (hs5 : ∀ j, j < N → scr.slots[j]? = some (.int (f j))) (hK : va_K u.2.2.1 vwCl (pm_tys u) s) (hW : pm_Wd u sh I J H) (hS : va_S (pm_A u) s.heap H locs) (ha : sh[a]? = some (.inl (0, N))) (hN : N ≤ 100000)
    (hframes : 1 ≤ R.frames) (hlocals : (rest.map fun v => v.category).sum + (nativeFrameWords "java/lang/System" "arraycopy" 5 + 11) ≤ R.locals) (hdg : decode cc pc = .ok (.invokestatic idx, 3))
    (k : ∀ (H1 : Heap) (locs1 : List Loc), pm_Wd u sh (pm_cp I f a N) J H1 → va_S (pm_A u) s.heap H1 locs1 → W p l e R s m args below meth c H1 locs1 cells slots Q (F0 m (pc + 3) ls rest)) : W p l e R s m args below meth c H locs cells slots Q (F0 m pc ls (.int (nI N) :: .int 0 :: .ref (pm_ad u a) :: .int 0 :: .ref b0 :: rest)) := by
  have hD := pm_ws_D (u := u) (I := I) (J := J) hW.2.2
  have he := pm_ws_get (u := u) (I := I) (J := J) ha
  have hc1 : H[pm_ad u a]? = some (vp_cell (u.2.2.2 0) (N, .inl (I a))) := hW.1 a _ he
  have hn0 : (nI N).toNatClampNeg = N := nI_clamp (by omega)
  have hni : (nI N).toInt = (N : Int) := nI_toInt (by omega)
  have h00 : (0 : Int32).toNatClampNeg = 0 := by decide
  have h0i : (0 : Int32).toInt = 0 := by decide
  intro T hT X
  obtain ⟨hs6, k0, hk0, cm0, hkk0⟩ := hs2
  obtain ⟨-, k1, hk1, cm1, hkk1⟩ := (hK.2 0 _ rfl).1 N (fun j => .int (I a j))
  obtain ⟨vm', X', step⟩ := X.arraycopy hx hown (hts _ hlink) (hts _ hnat) (hts _ hstat) (hts _ hini) (src := b0) (dst := pm_ad u a) (cs := scr) (cd := vp_cell (u.2.2.2 0) (N, .inl (I a))) (srcPos := 0) (destPos := 0) (n := nI N) (by rw [hT]; exact hc0) (by rw [hT]; exact hc1)
    hs6 (fun _ h => by cases h) hs3 (fun h => by cases h) hk0 hk1 hkk0 hkk1 (by simp [refKind]) (by decide) (by decide) (nI_pos (by omega))
    (by rw [h0i, hni]; omega)
    (by rw [h0i, hni]; show ¬ _ > ((arrV (u.2.2.2 0) N (fun j => .int (I a j))).slots.size : Int); rw [arrV_size]; omega)
    (fun vm₁ _ i hi => by
      rw [hn0] at hi
      have e : scr.slots.getD ((0 : Int32).toNatClampNeg + i) .null = .int (f i) := by
        rw [h00, Nat.zero_add, Array.getD_eq_getD_getElem?, hs5 _ hi]
        rfl
      refine ⟨?_, ?_⟩
      · rw [e]
        rfl
      · rw [e]
        exact trivial)
    (g := F0 m pc ls (.int (nI N) :: .int 0 :: .ref (pm_ad u a) :: .int 0 :: .ref b0 :: rest)) rfl (by rw [hml]) (rest := rest) rfl (by rw [hb]; exact hdg) hframes (by show 2 * 0 + _ + _ ≤ _; omega)
  have e1 : copied scr (vp_cell (u.2.2.2 0) (N, .inl (I a))) 0 0 (nI N) = vp_cell (u.2.2.2 0) (N, .inl (pm_cp I f a N a)) := by
    have h := va_copiedX (fun z => Value.int z) scr (u.2.2.2 0) (n0 := N) (n1 := N) (sp := 0) (dp := 0) (n := N) f (I a) hs5 (by omega)
    have h2 : copied scr (vp_cell (u.2.2.2 0) (N, .inl (I a))) 0 0 (nI N) = (arrV (u.2.2.2 0) N (fun j => Value.int (I a j))).storeRun 0 (scr.stretch 0 N) := by
      simp only [copied, h00, hn0]
      rfl
    rw [h2, h, vp_cell_i]
    congr 2
    funext j
    simp [va_cpy, pm_cp]
  rw [e1] at X' step
  have hl : pm_ad u a < H.size := (Array.getElem?_eq_some_iff.mp hc1).1
  have hheap : ((T.setVm vm').setCell (pm_ad u a) (vp_cell (u.2.2.2 0) (N, .inl (pm_cp I f a N a)))).heap = H.setIfInBounds (pm_ad u a) (vp_cell (u.2.2.2 0) (N, .inl (pm_cp I f a N a))) := by rw [← hT]; rfl
  have oq : ∀ q : Nat, q ≠ pm_ad u a → (H.setIfInBounds (pm_ad u a) (vp_cell (u.2.2.2 0) (N, .inl (pm_cp I f a N a))))[q]? = H[q]? := fun q hq => by simp [Array.getElem?_setIfInBounds, Ne.symm hq]
  obtain ⟨w1, -⟩ := pm_ast (s := s) (I' := pm_cp I f a N) (J' := J) (H1 := H.setIfInBounds (pm_ad u a) (vp_cell (u.2.2.2 0) (N, .inl (pm_cp I f a N a)))) (x := 0) hW hS ha (fun b h => if_neg h) (fun _ _ => rfl) (show (H.setIfInBounds (pm_ad u a) _)[pm_ad u a]? = some _ by simp [Array.getElem?_setIfInBounds, hl, pm_ce]) (by simp) oq
  obtain ⟨t, a1, b1⟩ := k _ _ w1 ⟨by simp; exact hS.1, fun q g1 g2 => by
      rw [oq q (fun e => g2 (by rw [e]; exact hD.2 a _ he))]
      exact hS.2.1 q g1 g2, fun q hq => by
      rcases List.mem_append.mp hq with h | h
      · exact hS.2.2 q h
      · obtain ⟨z, -, hz⟩ := List.mem_map.mp h
        rw [← hz]
        exact hD.2 a _ he⟩ _ hheap X'
  exact ⟨t, step t a1, b1⟩
end PMK
section PMR3
variable {Γ : pm_T} {own : String} {cc : ByteArray} {d n cells slots pc : Nat} {L : List (Nat × Value)} {st : List Value} {sh : List pm_S} {I : pm_I} {J : pm_J}
theorem pm_sw {x : Int32} (v : Int32) (h1 : x = v → pm_G Γ cells slots pc L (.int x :: st) sh I J) (h2 : ¬ x = v → pm_G Γ cells slots pc L (.int x :: st) sh I J) : pm_G Γ cells slots pc L (.int x :: st) sh I J := by
  by_cases h : x = v
  · exact h1 h
  · exact h2 h
theorem pm_catm {u : pm_U} (hcat : (st.map fun v => v.category).sum ≤ 8) : ((st.map (pm_tr u)).map fun v => v.category).sum ≤ 8 := by
  rw [List.map_map]
  simpa only [Function.comp_def, pm_tr_cat] using hcat
theorem g_copy {idx a0 a N : Nat} {i : Int32} (C : pm_Cx Γ own cc (d + 1) n) (hd : decode cc pc = .ok (.invokestatic idx, 3)) (hlink : Cond.methodLink own idx arraycopyName ∈ pm_tbl) (hi : i = nI N) (hN : N ≤ 100000) (ha0 : sh[a0]? = some (.inl (0, N))) (ha : sh[a]? = some (.inl (0, N))) (hcat : (st.map fun v => v.category).sum ≤ 8) (k : pm_G Γ cells slots (pc + 3) L st sh (pm_cp I (I a0) a N) J) : pm_G Γ cells slots pc L (.int i :: .int 0 :: .ref a :: .int 0 :: .ref a0 :: st) sh I J := by
  obtain ⟨p, l, e, R, s, m, args, below, meth, c, Q, u, nL⟩ := Γ
  obtain ⟨hx, hb, hml, rfl, hown, hts, hlk, hK, hfr, hlo, hB⟩ := C
  intro H locs ls hW hS hl hc hs
  subst hi
  have h8 := pm_catm (u := u) hcat
  have hnf : nativeFrameWords "java/lang/System" "arraycopy" 5 + 11 ≤ 28 := by decide
  have hc0 : H[pm_ad u a0]? = some (vp_cell (u.2.2.2 0) (N, .inl (I a0))) := hW.1 a0 _ (pm_ws_get ha0)
  rw [vp_cell_i] at hc0
  exact pm_copy hx hb (hml.trans hl.1.symm) hown hts hlink lnA lsA liS hc0 ((hK.1.2 0 _ rfl).1 N _) (fun q => by cases q) (by rw [arrV_size]; exact Nat.le_refl _) (fun j hj => arrV_read _ _ hj) hK.1 hW hS ha hN (by omega) (by omega) hd (fun H1 locs1 hW1 hS1 => k H1 locs1 ls hW1 hS1 hl hc hs)
theorem g_copyT {idx j a N : Nat} {i : Int32} (C : pm_Cx Γ own cc (d + 1) n) (hd : decode cc pc = .ok (.invokestatic idx, 3)) (hlink : Cond.methodLink own idx arraycopyName ∈ pm_tbl) (hi : i = nI N) (hN : N ≤ 100000) (hj : j < 4) (hl0 : (pm_tv j).length = N) (ha : sh[a]? = some (.inl (0, N))) (hcat : (st.map fun v => v.category).sum ≤ 8) (k : pm_G Γ cells slots (pc + 3) L st sh (pm_cp I (fun z => (pm_tv j).getD z 0) a N) J) : pm_G Γ cells slots pc L (.int i :: .int 0 :: .ref a :: .int 0 :: .ref (1000 + j) :: st) sh I J := by
  obtain ⟨p, l, e, R, s, m, args, below, meth, c, Q, u, nL⟩ := Γ
  obtain ⟨hx, hb, hml, rfl, hown, hts, hlk, hK, hfr, hlo, hB⟩ := C
  intro H locs ls hW hS hl hc hs
  subst hi
  have h8 := pm_catm (u := u) hcat
  have hnf : nativeFrameWords "java/lang/System" "arraycopy" 5 + 11 ≤ 28 := by decide
  have hAd := pm_ad_hi u j
  obtain ⟨cell, t1, t2, t3, t4, t5, t6, t7⟩ := (hK.2.1 j hj).2.kept hS.2.1
  show W p l e R s m args below meth c H locs cells slots Q (F0 m pc ls (.int (nI N) :: .int 0 :: .ref (pm_ad u a) :: .int 0 :: .ref (pm_ad u (1000 + j)) :: st.map (pm_tr u)))
  rw [hAd]
  exact pm_copy (f := fun z => (pm_tv j).getD z 0) hx hb (hml.trans hl.1.symm) hown hts hlink lnA lsA liS t1 t2 t3 (by rw [← hl0]; exact t4) (fun z hz => t6 z (by rw [hl0]; exact hz)) hK.1 hW hS ha hN (by omega) (by omega) hd (fun H1 locs1 hW1 hS1 => k H1 locs1 ls hW1 hS1 hl hc hs)
theorem g_mmax {idx : Nat} {x y : Int32} (C : pm_Cx Γ own cc (d + 1) n) (hd : decode cc pc = .ok (.invokestatic idx, 3)) (h1 : Cond.methodLink own idx Lib.Math.max.name ∈ pm_tbl) (h2 : Cond.static Lib.Math.max.name ∈ pm_tbl) (h3 : Cond.initialized "java/lang/Math" ∈ pm_tbl) (h4 : Cond.code Lib.Math.max.name Lib.Math.max.code 2 (some .int) ∈ pm_tbl) (hcat : (st.map fun v => v.category).sum ≤ 8) (k : pm_G Γ cells slots (pc + 3) L (.int (if x < y then y else x) :: st) sh I J) : pm_G Γ cells slots pc L (.int y :: .int x :: st) sh I J := by
  obtain ⟨p, l, e, R, s, m, args, below, meth, c, Q, u, nL⟩ := Γ
  obtain ⟨hx, hb, hml, rfl, hown, hts, hlk, hK, hfr, hlo, hB⟩ := C
  intro H locs ls hW hS hl hc hs
  have h8 := pm_catm (u := u) hcat
  exact va_mmax hx hb (hml.trans hl.1.symm) hown (hts _ h1) (hts _ h2) (hts _ h3) (hts _ h4) (by omega) (by omega) hc hs hd (k H locs ls hW hS hl hc hs)
theorem g_mmin {idx : Nat} {x y : Int32} (C : pm_Cx Γ own cc (d + 1) n) (hd : decode cc pc = .ok (.invokestatic idx, 3)) (h1 : Cond.methodLink own idx Lib.Math.min.name ∈ pm_tbl) (h2 : Cond.static Lib.Math.min.name ∈ pm_tbl) (h3 : Cond.initialized "java/lang/Math" ∈ pm_tbl) (h4 : Cond.code Lib.Math.min.name Lib.Math.min.code 2 (some .int) ∈ pm_tbl) (hcat : (st.map fun v => v.category).sum ≤ 8) (k : pm_G Γ cells slots (pc + 3) L (.int (if y < x then y else x) :: st) sh I J) : pm_G Γ cells slots pc L (.int y :: .int x :: st) sh I J := by
  obtain ⟨p, l, e, R, s, m, args, below, meth, c, Q, u, nL⟩ := Γ
  obtain ⟨hx, hb, hml, rfl, hown, hts, hlk, hK, hfr, hlo, hB⟩ := C
  intro H locs ls hW hS hl hc hs
  have h8 := pm_catm (u := u) hcat
  exact va_mmin hx hb (hml.trans hl.1.symm) hown (hts _ h1) (hts _ h2) (hts _ h3) (hts _ h4) (by omega) (by omega) hc hs hd (k H locs ls hW hS hl hc hs)
theorem g_mabs {idx : Nat} {x : Int32} (C : pm_Cx Γ own cc (d + 1) n) (hd : decode cc pc = .ok (.invokestatic idx, 3)) (h1 : Cond.methodLink own idx Lib.Math.abs.name ∈ pm_tbl) (h2 : Cond.static Lib.Math.abs.name ∈ pm_tbl) (h3 : Cond.initialized "java/lang/Math" ∈ pm_tbl) (h4 : Cond.code Lib.Math.abs.name Lib.Math.abs.code 1 (some .int) ∈ pm_tbl) (hcat : (st.map fun v => v.category).sum ≤ 8) (k : pm_G Γ cells slots (pc + 3) L (.int (if 0 ≤ x then x else 0 - x) :: st) sh I J) : pm_G Γ cells slots pc L (.int x :: st) sh I J := by
  obtain ⟨p, l, e, R, s, m, args, below, meth, c, Q, u, nL⟩ := Γ
  obtain ⟨hx, hb, hml, rfl, hown, hts, hlk, hK, hfr, hlo, hB⟩ := C
  intro H locs ls hW hS hl hc hs
  have h8 := pm_catm (u := u) hcat
  exact va_mabs hx hb (hml.trans hl.1.symm) hown (hts _ h1) (hts _ h2) (hts _ h3) (hts _ h4) (by omega) (by omega) hc hs hd (k H locs ls hW hS hl hc hs)
theorem g_ldcS {idx i : Nat} (C : pm_Cx Γ RX4 cc d n) (hd : decode cc pc = .ok (.ldc idx, 2)) (hi : (pm_tx i).1 = idx) (h15 : i < 15) (k : pm_G Γ cells slots (pc + 2) L (.ref (1000 + (10 + i)) :: st) sh I J) : pm_G Γ cells slots pc L st sh I J := by
  obtain ⟨p, l, e, R, s, m, args, below, meth, c, Q, u, nL⟩ := Γ
  obtain ⟨hx, hb, hml, rfl, hown, hts, hlk, hK, hfr, hlo, hB⟩ := C
  intro H locs ls hW hS hl hc hs
  subst hi
  have hAd := pm_ad_hi u (10 + i)
  refine va_ldcS (q := u.2.1 (10 + i)) hx hb hown (hK.2.2.1 i h15) hd ?_
  rw [← hAd]
  exact k H locs ls hW hS hl hc hs
end PMR3
/-- the cells that the two makers leave -/
def SHP : List pm_S := [.inr (.inr (7, [.inr (some 1), .inr (some 16), .inl 0, .inr (some 31), .inr (some 46), .inr (some 48), .inr (some 65), .inl 0, .inr (some 86), .inr (some 87), .inr (some 88)])), .inr (.inr (5, [.inr (some 2), .inr (some 3), .inl 0, .inl 0, .inl 0, .inl 0])), .inl (0, 24), .inr (.inl (3, [some 4, some 6, some 8, some 10, some 12, some 14])), .inr (.inr (1, [.inr (some 5)])), .inl (0, 9), .inr (.inr (1, [.inr (some 7)])), .inl (0, 9), .inr (.inr (1, [.inr (some 9)])), .inl (0, 9), .inr (.inr (1, [.inr (some 11)])), .inl (0, 9), .inr (.inr (1, [.inr (some 13)])), .inl (0, 9), .inr (.inr (1, [.inr (some 15)])), .inl (0, 9), .inr (.inr (5, [.inr (some 17), .inr (some 18), .inl 0, .inl 0, .inl 0, .inl 0])), .inl (0, 24), .inr (.inl (3, [some 19, some 21, some 23, some 25, some 27, some 29])), .inr (.inr (1, [.inr (some 20)])), .inl (0, 9), .inr (.inr (1, [.inr (some 22)])), .inl (0, 9), .inr (.inr (1, [.inr (some 24)])), .inl (0, 9), .inr (.inr (1, [.inr (some 26)])), .inl (0, 9), .inr (.inr (1, [.inr (some 28)])), .inl (0, 9), .inr (.inr (1, [.inr (some 30)])), .inl (0, 9), .inr (.inr (5, [.inr (some 32), .inr (some 33), .inl 0, .inl 0, .inl 0, .inl 0])), .inl (0, 24), .inr (.inl (3, [some 34, some 36, some 38, some 40, some 42, some 44])), .inr (.inr (1, [.inr (some 35)])), .inl (0, 9), .inr (.inr (1, [.inr (some 37)])), .inl (0, 9), .inr (.inr (1, [.inr (some 39)])), .inl (0, 9), .inr (.inr (1, [.inr (some 41)])), .inl (0, 9), .inr (.inr (1, [.inr (some 43)])), .inl (0, 9), .inr (.inr (1, [.inr (some 45)])), .inl (0, 9), .inr (.inr (4, [.inr (some 47), .inl 0, .inl 0, .inl 0, .inl 0, .inl 0])), .inl (1, 240), .inr (.inr (6, [.inr (some 1), .inr (some 49), .inr (some 51), .inr (some 58), .inl 0, .inl 0])), .inr (.inr (1, [.inr (some 50)])), .inl (0, 9), .inr (.inl (6, [some 52, some 53, some 54, some 55, some 56, some 57])), .inl (0, 49), .inl (0, 49), .inl (0, 49), .inl (0, 49), .inl (0, 49), .inl (0, 49), .inr (.inl (6, [some 59, some 60, some 61, some 62, some 63, some 64])), .inl (0, 49), .inl (0, 49), .inl (0, 49), .inl (0, 49), .inl (0, 49), .inl (0, 49), .inr (.inl (6, [some 66, some 67, some 68, some 69, some 70, some 71, some 72, some 73, some 74, some 75, some 76, some 77, some 78, some 79, some 80, some 81, some 82, some 83, some 84, some 85])), .inl (0, 3), .inl (0, 3), .inl (0, 3), .inl (0, 3), .inl (0, 3), .inl (0, 3), .inl (0, 3), .inl (0, 3), .inl (0, 3), .inl (0, 3), .inl (0, 3), .inl (0, 3), .inl (0, 3), .inl (0, 3), .inl (0, 3), .inl (0, 3), .inl (0, 3), .inl (0, 3), .inl (0, 3), .inl (0, 3), .inr (.inl (4, [some 90, some 92, some 94, some 96])), .inr (.inl (5, [some 98, some 99, some 100, some 101])), .inr (.inr (0, [.inr (some 89), .inl 0, .inl 0, .inl 0, .inl 0, .inl 0])), .inl (0, 30), .inr (.inr (2, [.inr (some 91), .inl 0, .inl 0])), .inl (0, 40), .inr (.inr (2, [.inr (some 93), .inl 0, .inl 0])), .inl (0, 40), .inr (.inr (2, [.inr (some 95), .inl 0, .inl 0])), .inl (0, 40), .inr (.inr (2, [.inr (some 97), .inl 0, .inl 0])), .inl (0, 40), .inr (.inr (3, [.inl 0, .inl 0, .inl 0, .inl 0])), .inr (.inr (3, [.inl 0, .inl 0, .inl 0, .inl 0])), .inr (.inr (3, [.inl 0, .inl 0, .inl 0, .inl 0])), .inr (.inr (3, [.inl 0, .inl 0, .inl 0, .inl 0])), .inr (.inr (8, [.inr (some 103), .inl 0, .inl 0, .inr (some 104), .inr (some 105), .inr (some 106), .inl 0, .inl 0, .inl 0, .inr (some 107), .inl 0, .inl 0, .inl 0, .inl 0, .inl 1, .inl 0, .inl 0, .inl 0, .inl 0, .inr (some 108), .inr (some 109), .inr (some 110), .inr (some 111), .inr (some 112), .inr (some 113), .inl 0, .inl 0, .inr (some 114), .inr (some 115), .inr (some 116), .inr (some 117), .inr (some 118), .inr (some 119), .inl 0, .inl 0, .inl 0, .inr (some 120), .inl 0, .inl 0, .inl 0, .inr (some 121), .inl 0, .inr (some 122)])), .inl (0, 24), .inl (0, 6), .inl (0, 6), .inl (0, 86), .inl (0, 240), .inl (0, 6), .inl (0, 6), .inl (0, 43), .inl (0, 24), .inl (0, 60), .inl (0, 60), .inl (0, 4), .inl (0, 4), .inl (2, 160), .inl (0, 4), .inl (0, 4), .inl (0, 4), .inl (0, 30), .inl (0, 90), .inl (0, 3)]
