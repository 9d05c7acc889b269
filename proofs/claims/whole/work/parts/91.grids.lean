/-! The makers: a grid; what each <init> leaves -/
/-- N rows of M numbers, from k on -/
def mf (f : Nat → pm_S) (k N M : Nat) : Nat → pm_S := fun b => if b < k then f b else if b = k then .inr (.inl (6, (List.range N).map (fun j => some (k + 1 + j)))) else .inl (0, M)
theorem mf_lo {f : Nat → pm_S} {k N M b : Nat} (h : b < k) : mf f k N M b = f b := if_pos h
theorem outer_arr (c : ClassId) (N h0 : Nat) : ∀ i, Jvm.Free.Multi.outerC c N h0 i = arrV c N (fun j => if j < i then .ref (h0 + 1 + j) else .null)
  | 0 => by
    show ({ cls := c, slots := Array.replicate N .null, vm := .none } : Cell) = _
    rw [arrV_new]
    congr 1
  | i + 1 => by
    show (Jvm.Free.Multi.outerC c N h0 i).setSlot i (.ref (h0 + 1 + i)) = _
    rw [outer_arr c N h0 i, arrV_store]
    congr 1
    funext j
    by_cases e : j = i
    · subst e; simp [updV]
    · have e2 : (j < i + 1) ↔ (j < i) := by omega
      simp [updV, e, e2]
theorem arrV_c {c : ClassId} {N : Nat} {f g : Nat → Value} (h : ∀ j, j < N → f j = g j) : arrV c N f = arrV c N g := by
  unfold arrV
  congr 1
  apply Array.ext
  · simp
  · intro i h1 h2
    have hi : i < N := by simpa using h1
    simp [h i hi]
section PMMU
variable {Γ : pm_T} {own : String} {cc : ByteArray} {d n cells slots pc : Nat} {L : List (Nat × Value)} {st : List Value} {I : pm_I} {J : pm_J} {k0 : Nat} {f : Nat → pm_S}
theorem g_multi {N M idx : Nat} {v w : Int32} (C : pm_Cx Γ own cc d n) (hd : decode cc pc = .ok (.multianewarray idx 2, 4)) (hlink : Cond.classLink own idx "[[I" ∈ pm_tbl) (hv : v = nI N) (hw : w = nI M) (hN : N ≤ 1000) (hM : M ≤ 1000) (hz : pm_Z k0 I) (hr : pm_rc Γ (cells + 1 + N) (slots + N + N * M)) (h9 : k0 + 1 + N ≤ 1000)
    (k : pm_G Γ (cells + 1 + N) (slots + N + N * M) (pc + 4) L (.ref k0 :: st) (pf (k0 + 1 + N) (mf f k0 N M)) I J) : pm_G Γ cells slots pc L (.int w :: .int v :: st) (pf k0 f) I J := by
  obtain ⟨p, l, e, R, s, m, args, below, meth, c, Q, u, nL⟩ := Γ
  obtain ⟨hx, hb, hml, rfl, hown, hts, hlk, hK, hfr, hlo, hB⟩ := C
  subst hv; subst hw
  intro H locs ls hW hS hl hc hs T hT X
  have en : (nI N).toNatClampNeg = N := nI_clamp (by omega)
  have em : (nI M).toNatClampNeg = M := nI_clamp (by omega)
  have hao : (Cond.arrayOver (.array .int)).before args s = true := hK.2.2.2.2.2.2.2.2.2.2.2
  obtain ⟨vm₁, cA, comp, hW1, hfA, hfC, hO, hI, X1, step⟩ := X.multianewarray2F (ty := .int) (own := own) (index := idx) (n := nI N) (k := nI M) hx hown (hts _ hlink) hao (hts _ la_int) (g := F0 m pc ls (.int (nI M) :: .int (nI N) :: st.map (pm_tr u))) rfl (by rw [hb]; exact hd) rfl (nI_pos (by omega)) (nI_pos (by omega)) (by rw [en]; omega) (by rw [em]; show M * 4 ≤ _; omega) (by rw [em]; omega) (by decide) (by decide) (by rw [en]; have := hr.1; omega) (by rw [en, em]; have := hr.2; omega)
  rw [en, em] at X1 step
  have ea : cA = u.2.2.2 6 := Option.some.inj (hfA.symm.trans (hK.1.2 6 _ rfl).2)
  have eb : comp = u.2.2.2 0 := Option.some.inj (hfC.symm.trans (hK.1.2 0 _ rfl).2)
  subst ea; subst eb
  obtain ⟨f1, f2, f3, f4⟩ := Jvm.Free.Multi.fill_facts (T.setVm vm₁) (u.2.2.2 6) (u.2.2.2 0) N M (defaultValue .int) N
  have fo := fun (a : Addr) (ha : a < T.heap.size) => Jvm.Free.Multi.fill_old (T.setVm vm₁) (u.2.2.2 6) (u.2.2.2 0) N M (defaultValue .int) (a := a) ha N
  have fi := fun (j : Nat) (hj : j < N) => Jvm.Free.Multi.fill_inner (T.setVm vm₁) (u.2.2.2 6) (u.2.2.2 0) N M (defaultValue .int) N j hj
  have eh : (T.setVm vm₁).heap = H := hT
  generalize hT2 : Jvm.Free.Multi.fill (T.setVm vm₁) (u.2.2.2 6) (u.2.2.2 0) N M (defaultValue .int) N = T2 at X1 step f1 f2 fo fi
  rw [eh] at f1 f2 fi
  have fo2 : ∀ q : Nat, q < H.size → T2.heap[q]? = H[q]? := fun q hq => by
    rw [fo q (by rw [hT]; exact hq)]
    show (T.setVm vm₁).heap[q]? = _
    rw [eh]
  have e3 : H.size = pm_ad u k0 := by rw [pm_ad_lo (by omega), hW.2.1, pf_len]
  have hu : u.1 + k0 = H.size := by rw [hW.2.1, pf_len]
  have hW2 : pm_Wd u (pf (k0 + 1 + N) (mf f k0 N M)) I J T2.heap := by
    refine ⟨fun a q hk => ?_, by rw [f1, pf_len]; omega, by rw [pf_len]; omega⟩
    obtain ⟨x, hx9, rfl⟩ := pm_ws_inv hk
    have hlt : a < k0 + 1 + N := by have := (List.getElem?_eq_some_iff.mp hx9).1; rwa [pf_len] at this
    have ex : x = mf f k0 N M a := Option.some.inj (hx9.symm.trans (pf_get hlt rfl))
    subst ex
    by_cases h1 : a < k0
    · rw [mf_lo h1]
      exact (hW.1.kept (H1 := T2.heap) (fun k2 x2 hx2 => fo2 x2.1 ((hW.1 k2 x2 hx2).lt))) a _ (pm_ws_get (pf_get h1 rfl))
    · by_cases h2 : a = k0
      · subst h2
        rw [show mf f a N M a = .inr (.inl (6, (List.range N).map (fun j => some (a + 1 + j)))) by unfold mf; rw [if_neg (Nat.lt_irrefl a), if_pos rfl]]
        show T2.heap[pm_ad u a]? = some (vp_cell (u.2.2.2 6) (((List.range N).map (fun j => some (a + 1 + j))).length, .inr (.inr (.inr (.inr (fun j => (((List.range N).map (fun j => some (a + 1 + j)))[j]?).bind (fun o => o.map (pm_ad u))))))))
        rw [← e3, f2, outer_arr, vp_cell_q, List.length_map, List.length_range]
        congr 1
        refine arrV_c (fun j hj => ?_)
        rw [if_pos hj]
        have e5 : ((List.range N).map (fun j => some (a + 1 + j)))[j]? = some (some (a + 1 + j)) := by simp [hj]
        rw [e5]
        show Value.ref (H.size + 1 + j) = .ref (pm_ad u (a + 1 + j))
        rw [pm_ad_lo (by omega)]
        exact congrArg Value.ref (show H.size + 1 + j = u.1 + (a + 1 + j) by omega)
      · rw [show mf f k0 N M a = .inl (0, M) by unfold mf; rw [if_neg h1, if_neg h2]]
        show T2.heap[pm_ad u a]? = some (vp_cell (u.2.2.2 0) (M, .inl (I a)))
        rw [vp_cell_i, hz a (by omega)]
        have e6 := fi (a - k0 - 1) (by omega)
        rw [show H.size + 1 + (a - k0 - 1) = pm_ad u a by rw [pm_ad_lo (by omega)]; omega] at e6
        rw [e6]
        show some ({ cls := u.2.2.2 0, slots := Array.replicate M (.int 0), vm := .none } : Cell) = _
        rw [arrV_new]
  obtain ⟨t, a1, b1⟩ := k T2.heap locs ls hW2 (pm_growS (n := 1 + N) hS (by rw [f1]; omega) fo2) hl hr.1 hr.2 T2 rfl X1
  refine ⟨t, step t ?_, b1⟩
  rw [hT, e3]
  exact a1
end PMMU
