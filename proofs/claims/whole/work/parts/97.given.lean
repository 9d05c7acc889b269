/-! What the Statement gives of the start -/
theorem st_arrO {args : Array Value} {s : State} {C : String} (h : (Cond.arrayOver (.object C)).before args s = true) : ∃ cA, ArrOfT s cA (.object C) ∧ va_RA s cA (.object C) := by
  obtain ⟨comp, c, k, h1, h2, h3, h4, h5⟩ := Cond.arrayOver_spec h
  exact ⟨c, fun n z => ⟨(fun k h => by cases h), k, h3, comp, h4⟩, k, comp, h3, h4, h1, h5⟩
theorem st_arrA {args : Array Value} {s : State} (h : (Cond.arrayOver (.array .int)).before args s = true) : ∃ cA, ArrOfT s cA (.array .int) ∧ va_RA s cA (.array .int) := by
  obtain ⟨comp, c, k, h1, h2, h3, h4, h5⟩ := arrayOver_specB h
  exact ⟨c, fun n z => ⟨(fun k h => by cases h), k, h3, comp, h4⟩, h5⟩
theorem st_arrC {args : Array Value} {s : State} {ty : FieldType} (hr : ∀ cA, s.vm.findClass ("[" ++ ty.toString) = some cA → va_RA s cA ty) (h : (Cond.arrayClass ty).before args s = true) : ∃ cA, ArrOfT s cA ty ∧ va_RA s cA ty := by
  obtain ⟨cA, kA, comp, h1, h2, h3⟩ := Cond.arrayClass_spec h
  exact ⟨cA, fun n z => ⟨(fun k h => by cases h), kA, h2, comp, h3⟩, hr cA h1⟩
def st_C : Cond := Jvm.Cond.and given_1 narrow_1
def st_so (k : Nat) : Nat := [1, 2, 3, 4, 5, 0, 6, 7, 8, 9, 10, 11, 12, 13, 14].getD k 0
def st_si (k : Nat) : Nat := [5, 0, 1, 2, 3, 4, 6, 7, 8, 9, 10, 11, 12, 13, 14].getD k 0
set_option maxRecDepth 100000 in
theorem st_tab : (∀ j, j < 4 → Cond.arrayOf (.static RX7 (pm_tn j) "[I") .int ∈ flatC st_C ∧ Cond.eq (.length (.static RX7 (pm_tn j) "[I")) (.int (Int32.ofNat (pm_tv j).length)) ∈ flatC st_C) ∧ ∀ j, j < 4 → ∀ i, i < (pm_tv j).length → Cond.eq (.elem (.static RX7 (pm_tn j) "[I") (.int (Int32.ofNat i))) (.int ((pm_tv j).getD i 0)) ∈ flatC st_C := by decide +kernel
set_option maxRecDepth 100000 in
theorem st_lay : ∀ j, j < 4 → Cond.laysStatic RX7 (pm_tn j) "[I" ∈ lw_tbl := by decide +kernel
set_option maxRecDepth 100000 in
theorem st_tx : ∀ i, i < 15 → Cond.exactly (.string RX4 (pm_tx i).1) "java/lang/String" ∈ flatC st_C ∧ Cond.eq (.field (.string RX4 (pm_tx i).1) "java/lang/String" "coder" "B") (.int 0) ∈ flatC st_C ∧ Cond.arrayOf (.field (.string RX4 (pm_tx i).1) "java/lang/String" "value" "[B") .byte ∈ flatC st_C ∧ Cond.eq (.length (.field (.string RX4 (pm_tx i).1) "java/lang/String" "value" "[B")) (.int (Int32.ofNat (pm_txl.getD i 0))) ∈ flatC st_C := by decide +kernel
set_option maxRecDepth 100000 in
theorem st_tb : ∀ i, i < 15 → ∀ j, j < pm_txl.getD i 0 → Cond.eq (.elem (.field (.string RX4 (pm_tx i).1) "java/lang/String" "value" "[B") (.int (Int32.ofNat j))) (.int ((pm_txb.getD i []).getD j 0)) ∈ flatC st_C := by decide +kernel
set_option maxRecDepth 100000 in
theorem st_tn0 : ∀ p, p < 15 → ∀ q, q < p → Cond.not (Cond.eq (.string RX4 (pm_tx (st_so q)).1) (.string RX4 (pm_tx (st_so p)).1)) ∈ flatC st_C := by decide +kernel
theorem st_osi : ∀ i, i < 15 → st_so (st_si i) = i ∧ st_si i < 15 := by decide
theorem st_tn : ∀ i, i < 15 → ∀ j, j < 15 → i ≠ j → Cond.not (Cond.eq (.string RX4 (pm_tx i).1) (.string RX4 (pm_tx j).1)) ∈ flatC st_C ∨ Cond.not (Cond.eq (.string RX4 (pm_tx j).1) (.string RX4 (pm_tx i).1)) ∈ flatC st_C := by
  intro i hi j hj hne
  have a := st_osi i hi
  have b := st_osi j hj
  have hd : st_si i ≠ st_si j := fun e => hne (by rw [← a.1, ← b.1, e])
  rcases Nat.lt_or_gt_of_ne hd with h | h
  · have q := st_tn0 _ b.2 _ h
    rw [a.1, b.1] at q
    exact Or.inl q
  · have q := st_tn0 _ a.2 _ h
    rw [a.1, b.1] at q
    exact Or.inr q
set_option maxRecDepth 100000 in
theorem st_sr : ∀ i, i < 15 → Cond.stringRef RX4 (pm_tx i).1 (pm_tx i).2.1 ∈ lw_tbl := by decide +kernel
set_option maxRecDepth 100000 in
theorem st_nF : ∀ q ∈ pm_nF, Cond.fieldLinkNest q.1 q.2.1 RX7 q.2.2 "[I" RX7 ∈ lw_tbl := by decide +kernel
set_option maxRecDepth 100000 in
theorem st_nM : ∀ q ∈ pm_nM, Cond.methodLinkNest q.1 q.2.1 q.2.2 RX7 ∈ lw_tbl := by decide +kernel
set_option maxRecDepth 100000 in
theorem st_re : (Cond.eq (.static "java/lang/String" "COMPACT_STRINGS" "Z") (.int 1) ∈ flatC st_C ∧ Cond.isRef (.static "jdk/internal/util/Preconditions" "SIOOBE_FORMATTER" "Ljava/util/function/BiFunction;") ∈ flatC st_C) ∧ (Cond.laysStatic "java/lang/String" "COMPACT_STRINGS" "Z" ∈ lw_tbl ∧ Cond.initialized "java/lang/String" ∈ lw_tbl ∧ Cond.laysStatic "jdk/internal/util/Preconditions" "SIOOBE_FORMATTER" "Ljava/util/function/BiFunction;" ∈ lw_tbl ∧ Cond.initialized "jdk/internal/util/Preconditions" ∈ lw_tbl) ∧ Cond.arrayOver (.object RX1) ∈ lw_tbl ∧ Cond.arrayOver (.object RX2) ∈ lw_tbl ∧ Cond.arrayOver (.object RX3) ∈ lw_tbl ∧ Cond.arrayOver (.array .int) ∈ lw_tbl := by decide +kernel
theorem st_pm {args : Array Value} {s : State} (h : ∀ w ∈ lw_tbl, w.before args s = true) : ∀ w ∈ pm_tbl, w.before args s = true := fun w hw => h w (List.mem_filter.mp hw).1
theorem st_cls {args : Array Value} {s : State} (hp : ∀ w ∈ pm_tbl, w.before args s = true) : ∃ D : va_G, ∀ (c : Nat) (q : vw_C), vwCl[c]? = some q → u_Kn s q.1 q.2.1 q.2.2 (D.1 c) (D.2 c) := by
  have h : ∀ c : Nat, ∃ x : ClassId × (Nat → Nat), ∀ q, vwCl[c]? = some q → u_Kn s q.1 q.2.1 q.2.2 x.1 x.2 := by
    intro c
    rcases (show c = 0 ∨ c = 1 ∨ c = 2 ∨ c = 3 ∨ c = 4 ∨ c = 5 ∨ c = 6 ∨ c = 7 ∨ c = 8 ∨ 9 ≤ c by omega) with rfl | rfl | rfl | rfl | rfl | rfl | rfl | rfl | rfl | h
    · obtain ⟨a, b, h⟩ := u_known hp inP0 (hp _ ltX0); exact ⟨(a, b), fun q hq => by cases hq; exact h⟩
    · obtain ⟨a, b, h⟩ := u_known hp inP1 (hp _ ltX1); exact ⟨(a, b), fun q hq => by cases hq; exact h⟩
    · obtain ⟨a, b, h⟩ := u_known hp inP2 (hp _ ltX2); exact ⟨(a, b), fun q hq => by cases hq; exact h⟩
    · obtain ⟨a, b, h⟩ := u_known hp inP3 (hp _ ltX3); exact ⟨(a, b), fun q hq => by cases hq; exact h⟩
    · obtain ⟨a, b, h⟩ := u_known hp inP4 (hp _ ltX4); exact ⟨(a, b), fun q hq => by cases hq; exact h⟩
    · obtain ⟨a, b, h⟩ := u_known hp inP5 (hp _ ltX5); exact ⟨(a, b), fun q hq => by cases hq; exact h⟩
    · obtain ⟨a, b, h⟩ := u_known hp inP6 (hp _ ltX6); exact ⟨(a, b), fun q hq => by cases hq; exact h⟩
    · obtain ⟨a, b, h⟩ := u_known hp inP7 (hp _ ltX7); exact ⟨(a, b), fun q hq => by cases hq; exact h⟩
    · obtain ⟨a, b, h⟩ := u_known hp inP8 (hp _ ltX8); exact ⟨(a, b), fun q hq => by cases hq; exact h⟩
    · exact ⟨(0, fun _ => 0), fun q hq => by rw [List.getElem?_eq_none (show vwCl.length ≤ c from h)] at hq; cases hq⟩
  obtain ⟨g, hg⟩ := Classical.axiomOfChoice h
  exact ⟨(fun c => (g c).1, fun c => (g c).2), hg⟩
/-- the start: addresses, sorts -/
theorem st_K {args : Array Value} {s : State} (b : Nat) (h : ∀ w ∈ lw_tbl, w.before args s = true) (hn : st_C.before args s = true) : ∃ u : pm_U, u.1 = s.heap.size ∧ u.2.1 99 = b ∧ pm_K u s s.heap := by
  have hp := st_pm h
  have hf := flat_of_before _ hn
  obtain ⟨D, hD⟩ := st_cls hp
  have hA : ∀ a : Nat, a < s.heap.size → ¬ (fun q : Nat => s.heap.size ≤ q) a := fun a ha => Nat.not_le.mpr ha
  have r := st_re
  obtain ⟨c0, k0⟩ := st_arrC (s := s) (ty := .int) (fun _ q => q) (hp _ la_int)
  obtain ⟨c1, k1⟩ := st_arrC (s := s) (ty := .byte) (fun _ q => q) (hp _ la_byte)
  obtain ⟨c2, k2⟩ := st_arrC (s := s) (ty := .long) (fun _ q => q) (hp _ la_long)
  obtain ⟨c3, k3⟩ := st_arrO (h _ r.2.2.1)
  obtain ⟨c4, k4⟩ := st_arrO (h _ r.2.2.2.1)
  obtain ⟨c5, k5⟩ := st_arrO (h _ r.2.2.2.2.1)
  obtain ⟨c6, k6⟩ := st_arrA (h _ r.2.2.2.2.2)
  have ht : ∀ j : Nat, ∃ t : Nat, j < 4 → va_Z RX7 (pm_tn j) "[I" (.ref t) (fun q => s.heap.size ≤ q) s s.heap ∧ va_T .int t (pm_tv j).length (fun i => .int ((pm_tv j).getD i 0)) (fun q => s.heap.size ≤ q) s s.heap := by
    intro j
    by_cases hj : j < 4
    · have hl : (pm_tv j).length < 2 ^ 31 := by
        have e : ∀ j, j < 4 → (pm_tv j).length < 2 ^ 31 := by decide
        exact e j hj
      obtain ⟨t, q1, q2⟩ := va_Tof (tm := .static RX7 (pm_tn j) "[I") (ty := .int) (N := (pm_tv j).length) (f := fun i => .int ((pm_tv j).getD i 0)) hl (hf _ (st_tab.1 j hj).1) (va_eqt (hf _ (st_tab.1 j hj).2)) (fun i hi => va_eqt (hf _ (st_tab.2 j hj i hi))) hA
      exact ⟨t, fun _ => ⟨va_Zof (h _ (st_lay j hj)) (hp _ liX7) q1 hA, q2⟩⟩
    · exact ⟨0, fun q => absurd q hj⟩
  obtain ⟨aT, haT⟩ := Classical.axiomOfChoice ht
  obtain ⟨aK, aV, hS, hE⟩ := vk_Sof (args := args) (s := s) (N := 15) (tm := fun i => .string RX4 (pm_tx i).1) (len := pm_txl) (byt := pm_txb) (A := fun q => s.heap.size ≤ q) (by decide) (fun i hi => hf _ (st_tx i hi).1) (fun i hi => hf _ (st_tx i hi).2.1) (fun i hi => hf _ (st_tx i hi).2.2.1) (fun i hi => hf _ (st_tx i hi).2.2.2) (fun i hi j hj => hf _ (st_tb i hi j hj)) (fun i j hi hj hne => (st_tn i hi j hj hne).imp (hf _) (hf _)) hA
  refine ⟨(s.heap.size, fun k => if k < 4 then aT k else if k < 10 then 0 else if k < 25 then aK (k - 10) else if k < 45 then aV (k - 30) else b, D, fun t => if t = 0 then c0 else if t = 1 then c1 else if t = 2 then c2 else if t = 3 then c3 else if t = 4 then c4 else if t = 5 then c5 else c6), rfl, rfl, ⟨hD, fun k q hq => ?_⟩, fun j hj => ?_, fun i hi => ?_, ?_, ?_, ?_, ?_, ?_, ?_⟩
  · rcases (show k = 0 ∨ k = 1 ∨ k = 2 ∨ k = 3 ∨ k = 4 ∨ k = 5 ∨ k = 6 ∨ 7 ≤ k by omega) with rfl | rfl | rfl | rfl | rfl | rfl | rfl | h7
    · cases hq; exact k0
    · cases hq; exact k1
    · cases hq; exact k2
    · cases hq; exact k3
    · cases hq; exact k4
    · cases hq; exact k5
    · cases hq; exact k6
    · rw [List.getElem?_eq_none (by exact h7)] at hq; cases hq
  · dsimp only
    rw [if_pos hj]
    exact haT j hj
  · dsimp only
    rw [if_neg (by omega), if_neg (by omega), if_pos (by omega), Nat.add_sub_cancel_left]
    exact vk_R.of (h _ (st_sr i hi)) (hE i hi)
  · have e1 : ∀ i, i < 15 → (if 10 + i < 4 then aT (10 + i) else if 10 + i < 10 then 0 else if 10 + i < 25 then aK (10 + i - 10) else if 10 + i < 45 then aV (10 + i - 30) else b) = aK i := fun i hi => by
      rw [if_neg (by omega), if_neg (by omega), if_pos (by omega), Nat.add_sub_cancel_left]
    have e2 : ∀ i, i < 15 → (if 30 + i < 4 then aT (30 + i) else if 30 + i < 10 then 0 else if 30 + i < 25 then aK (30 + i - 10) else if 30 + i < 45 then aV (30 + i - 30) else b) = aV i := fun i hi => by
      rw [if_neg (by omega), if_neg (by omega), if_neg (by omega), if_pos (by omega), Nat.add_sub_cancel_left]
    refine ⟨fun i hi => ?_, fun i j hi hj e => ?_⟩
    · have q := hS.1 i hi
      dsimp only
      rw [e1 i hi, e2 i hi]
      exact q
    · dsimp only at e
      rw [e1 i hi, e1 j hj] at e
      exact hS.2 i j hi hj e
  · exact va_Zof (h _ r.2.1.1) (h _ r.2.1.2.1) (va_eqi (hf _ r.1.1)) hA
  · exact va_Zqof (h _ r.2.1.2.2.1) (h _ r.2.1.2.2.2) (hf _ r.1.2) hA
  · exact fun q hq => va_Nw.of rfl (h _ (st_nF q hq))
  · exact fun q hq => va_Nw.of rfl (h _ (st_nM q hq))
  · exact ⟨va_AO.of (h _ r.2.2.1), va_AO.of (h _ r.2.2.2.1), va_AO.of (h _ r.2.2.2.2.1), h _ r.2.2.2.2.2⟩
