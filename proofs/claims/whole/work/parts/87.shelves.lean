/-! Sheets, shelves on both sides -/
theorem RL_S {I I3 : pm_I} {J J3 : pm_J} {n t : Nat} (h : RL_ I I J n t) (d : ∀ a, a < 90 ∨ (98 ≤ a ∧ a < 114) ∨ 116 ≤ a → I3 a = I a) (hS : RS I3 I3 J3) : Rel I3 I3 J3 := by
  obtain ⟨hA, hK, hP, hRW, -, hH, hX⟩ := h
  exact ⟨n, t, RA_c hA (d 1 (by decide)) (d 2 (by decide)) (fun b hb => d _ (by omega)) (fun p _ => by rw [d 102 (by decide)]) (d 103 (by decide)) (d 104 (by decide)) (d 105 (by decide)) (fun k _ => by rw [d 106 (by decide)]), RK_c hK (by rw [d 0 (by decide)]) (fun a h1 h2 => d a (by omega)) (by rw [d 102 (by decide)]) (d 121 (by decide)), RP_c hP (by rw [d 46 (by decide)]) (d 47 (by decide)) (by rw [d 102 (by decide)]) (d 107 (by decide)), RW_c hRW (by rw [d 0 (by decide)]) (fun i hi => d _ (by omega)) (by rw [d 102 (by decide)]) (d 112 (by decide)), hS, RH_c hH (fun s hs => d _ (by omega)) (d 117 (by decide)) (d 118 (by decide)) (d 119 (by decide)), RX_c hX (by rw [d 88 (by decide)]) (d 89 (by decide)) (by rw [d 102 (by decide)]) (d 120 (by decide))⟩
theorem RL_H {I I3 : pm_I} {J : pm_J} {n t : Nat} (h : RL_ I I J n t) (d : ∀ a, a < 98 ∨ (102 ≤ a ∧ a < 117) ∨ 120 ≤ a → I3 a = I a) (hH : RH I3 I3) : Rel I3 I3 J := by
  obtain ⟨hA, hK, hP, hRW, hS, -, hX⟩ := h
  exact ⟨n, t, RA_c hA (d 1 (by decide)) (d 2 (by decide)) (fun b hb => d _ (by omega)) (fun p _ => by rw [d 102 (by decide)]) (d 103 (by decide)) (d 104 (by decide)) (d 105 (by decide)) (fun k _ => by rw [d 106 (by decide)]), RK_c hK (by rw [d 0 (by decide)]) (fun a h1 h2 => d a (by omega)) (by rw [d 102 (by decide)]) (d 121 (by decide)), RP_c hP (by rw [d 46 (by decide)]) (d 47 (by decide)) (by rw [d 102 (by decide)]) (d 107 (by decide)), RW_c hRW (by rw [d 0 (by decide)]) (fun i hi => d _ (by omega)) (by rw [d 102 (by decide)]) (d 112 (by decide)), RS_c hS (fun a h1 h2 => d a (by omega)) (d 114 (by decide)) (d 115 (by decide)) rfl, hH, RX_c hX (by rw [d 88 (by decide)]) (d 89 (by decide)) (by rw [d 102 (by decide)]) (d 120 (by decide))⟩
/-- a sheet becomes a row of L of a sort -/
theorem RL_sheet {I : pm_I} {J : pm_J} {n t s L : Nat} {w : Int32} (h : RL_ I I J n t) (hs : s < 4) (hw : -1 ≤ w ∧ w ≤ 3) (hL : L ≤ 40) : Rel (pm_u (pm_u (pm_s (pm_u (pm_u I (90 + 2 * s) 1 w) (90 + 2 * s) 2 (nI L)) (91 + 2 * s) (bl_zer (I (91 + 2 * s)) L)) 114 s w) 115 s (nI L)) (pm_u (pm_u (pm_s (pm_u (pm_u I (90 + 2 * s) 1 w) (90 + 2 * s) 2 (nI L)) (91 + 2 * s) (bl_zer (I (91 + 2 * s)) L)) 114 s w) 115 s (nI L)) (pm_sJ J 116 (mz_J (J 116) s 40)) := by
  obtain ⟨ln, l1, l2, l3, l4⟩ := RS_at h.2.2.2.2.1
  generalize hY : pm_u (pm_u (pm_s (pm_u (pm_u I (90 + 2 * s) 1 w) (90 + 2 * s) 2 (nI L)) (91 + 2 * s) (bl_zer (I (91 + 2 * s)) L)) 114 s w) 115 s (nI L) = Y
  have o : ∀ a, a ≠ 90 + 2 * s → a ≠ 91 + 2 * s → a ≠ 114 → a ≠ 115 → Y a = I a := fun a h1 h2 h3 h4 => by rw [← hY, pm_u_off h4, pm_u_off h3, pm_s_off _ _ _ _ h2, pm_u_off h1, pm_u_off h1]
  have y0 : Y (90 + 2 * s) = upd (upd (I (90 + 2 * s)) 1 w) 2 (nI L) := by rw [← hY, pm_u_off (by omega), pm_u_off (by omega), pm_s_off _ _ _ _ (by omega), pm_u_at, pm_u_at]
  have y1 : Y (91 + 2 * s) = bl_zer (I (91 + 2 * s)) L := by rw [← hY, pm_u_off (by omega), pm_u_off (by omega), pm_s_at]
  have y4 : Y 114 = upd (I 114) s w := by rw [← hY, pm_u_off (by decide), pm_u_at, pm_s_off _ _ _ _ (by omega), pm_u_off (by omega), pm_u_off (by omega)]
  have y5 : Y 115 = upd (I 115) s (nI L) := by rw [← hY, pm_u_at, pm_u_off (by decide), pm_s_off _ _ _ _ (by omega), pm_u_off (by omega), pm_u_off (by omega)]
  refine RL_S h (fun a ha => o a (by omega) (by omega) (by omega) (by omega)) ⟨fun e => if e = s then L else ln e, fun e he => ?_⟩
  dsimp only
  rw [y4, y5]
  by_cases q : e = s
  · subst q
    rw [if_pos rfl, y0, y1, pk_us, pk_us, pk_us, pk_un (by decide), pk_us, pm_sJ_at]
    refine ⟨hL, rfl, rfl, rfl, hw, fun k hk => ?_⟩
    rw [show mz_J (J 116) e 40 (40 * e + k) = 0 from if_pos (by omega), show bl_zer (I (91 + 2 * e)) L k = 0 from if_pos hk]
    rfl
  · rw [if_neg q, o (90 + 2 * e) (by omega) (by omega) (by omega) (by omega), o (91 + 2 * e) (by omega) (by omega) (by omega) (by omega), pk_un q, pk_un q, pm_sJ_at]
    refine ⟨(l1 e he).2, (l1 e he).1, (l2 e he).1, (l3 e he).1, (l3 e he).2, fun k hk => ?_⟩
    rw [show mz_J (J 116) s 40 (40 * e + k) = J 116 (40 * e + k) from if_neg (by have := (l1 e he).2; omega)]
    exact l4 e he k hk
theorem RL_put {I : pm_I} {J : pm_J} {n t s k : Nat} {v : Int32} (h : RL_ I I J n t) (hs : s < 4) (hk : k < 40) : Rel (pm_u I (91 + 2 * s) k v) (pm_u I (91 + 2 * s) k v) (pm_uJ J 116 (40 * s + k) v.toInt64) := by
  obtain ⟨ln, l1, l2, l3, l4⟩ := RS_at h.2.2.2.2.1
  refine RL_S h (fun a ha => pm_u_off (by omega)) ⟨ln, fun e he => ?_⟩
  rw [pm_u_off (show 90 + 2 * e ≠ 91 + 2 * s by omega), pm_u_off (show 115 ≠ 91 + 2 * s by omega), pm_u_off (show 114 ≠ 91 + 2 * s by omega), pm_uJ_at]
  refine ⟨(l1 e he).2, (l1 e he).1, (l2 e he).1, (l3 e he).1, (l3 e he).2, fun i hi => ?_⟩
  have hle := (l1 e he).2
  by_cases q : e = s
  · subst q
    rw [pm_u_at]
    by_cases q2 : i = k
    · rw [q2, pk_us]
      exact if_pos rfl
    · rw [pk_un q2, show vp_updL (J 116) (40 * e + k) v.toInt64 (40 * e + i) = J 116 (40 * e + i) from if_neg (by omega)]
      exact l4 e he i hi
  · rw [pm_u_off (by omega), show vp_updL (J 116) (40 * s + k) v.toInt64 (40 * e + i) = J 116 (40 * e + i) from if_neg (by omega)]
    exact l4 e he i hi
theorem RL_warms {I : pm_I} {J : pm_J} {n t s h c i m : Nat} (hR : RL_ I I J n t) (hs : s < 4) (hh : h < 24) (hc : h + c ≤ 24) (hm : m ≤ 40) (him : i + c ≤ m) (hrow : ∀ k, k < m → J 116 (40 * s + k) = (I (91 + 2 * s) k).toInt64) : Rel (pm_s (pm_s I 2 (wm_row (I 2) (I (91 + 2 * s)) i h c)) 103 (mw_row (I 103) (J 116) (40 * s + i) h c)) (pm_s (pm_s I 2 (wm_row (I 2) (I (91 + 2 * s)) i h c)) 103 (mw_row (I 103) (J 116) (40 * s + i) h c)) J := by
  obtain ⟨hA, hK, hP, hRW, hS, hH, hX⟩ := hR
  generalize hY : pm_s (pm_s I 2 (wm_row (I 2) (I (91 + 2 * s)) i h c)) 103 (mw_row (I 103) (J 116) (40 * s + i) h c) = Y
  have o : ∀ a, a ≠ 2 → a ≠ 103 → Y a = I a := fun a h1 h2 => by rw [← hY, pm_s_off _ _ _ _ h2, pm_s_off _ _ _ _ h1]
  have y2 : Y 2 = wm_row (I 2) (I (91 + 2 * s)) i h c := by rw [← hY, pm_s_off _ _ _ _ (by decide), pm_s_at]
  have y3 : Y 103 = mw_row (I 103) (J 116) (40 * s + i) h c := by rw [← hY, pm_s_at]
  obtain ⟨h6, ht, hn, hnow, hn8, hnow8, hgap8, hz8, hat, hcol, hw8, hB⟩ := hA
  refine ⟨n, t, ⟨h6, ht, by rw [o 1 (by decide) (by decide)]; exact hn, by rw [o 1 (by decide) (by decide)]; exact hnow, by rw [o 102 (by decide) (by decide)]; exact hn8, by rw [o 106 (by decide) (by decide)]; exact hnow8, by rw [o 1 (by decide) (by decide), o 102 (by decide) (by decide)]; exact hgap8, by rw [o 1 (by decide) (by decide), o 102 (by decide) (by decide)]; exact hz8, by rw [o 102 (by decide) (by decide)]; exact hat, by rw [o 102 (by decide) (by decide)]; exact hcol, fun x hx => ?_, fun b hb => ?_⟩, RK_c hK (by rw [o 0 (by decide) (by decide)]) (fun a h1 h2 => o a (by omega) (by omega)) (by rw [o 102 (by decide) (by decide)]) (o 121 (by decide) (by decide)), RP_c hP (by rw [o 46 (by decide) (by decide)]) (o 47 (by decide) (by decide)) (by rw [o 102 (by decide) (by decide)]) (o 107 (by decide) (by decide)), RW_c hRW (by rw [o 0 (by decide) (by decide)]) (fun i hi => o _ (by omega) (by omega)) (by rw [o 102 (by decide) (by decide)]) (o 112 (by decide) (by decide)), RS_c hS (fun a h1 h2 => o a (by omega) (by omega)) (o 114 (by decide) (by decide)) (o 115 (by decide) (by decide)) rfl, RH_c hH (fun s hs => o _ (by omega) (by omega)) (o 117 (by decide) (by decide)) (o 118 (by decide) (by decide)) (o 119 (by decide) (by decide)), RX_c hX (by rw [o 88 (by decide) (by decide)]) (o 89 (by decide) (by decide)) (by rw [o 102 (by decide) (by decide)]) (o 120 (by decide) (by decide))⟩
  · rw [y2, y3]
    unfold wm_row mw_row
    by_cases q : h ≤ x ∧ x < h + c
    · rw [if_pos q, if_pos q, show 40 * s + i + (x - h) = 40 * s + (i + (x - h)) by omega, hrow (i + (x - h)) (by omega)]
      generalize I (91 + 2 * s) (i + (x - h)) = y
      have e1 : y.toInt64 < -20 ↔ y < -20 := Int32.toInt64_lt (b := -20)
      have e2 : 40 < y.toInt64 ↔ 40 < y := Int32.toInt64_lt (a := 40)
      by_cases q1 : y < -20
      · rw [if_pos q1, if_pos (e1.mpr q1)]
      · rw [if_neg q1, if_neg (fun z => q1 (e1.mp z))]
        by_cases q2 : 40 < y
        · rw [if_pos q2, if_pos (e2.mpr q2)]
        · rw [if_neg q2, if_neg (fun z => q2 (e2.mp z))]
          exact Int32.toInt32_toInt64 y
    · rw [if_neg q, if_neg q]
      exact hw8 x hx
  · rw [o (5 + 2 * b) (by omega) (by omega)]
    refine ⟨(hB b hb).1, fun p hp => ?_⟩
    rw [md_c (Im := I) (o 104 (by decide) (by decide)) (o 105 (by decide) (by decide)) (fun k _ => by rw [o 106 (by decide) (by decide)]) (by omega) hp]
    exact (hB b hb).2 p hp
/-- one shelf otherwise, on both sides -/
theorem RH_1 {I Y : pm_I} {s : Nat} (h : RH I I) (o : ∀ e, e < 4 → e ≠ s → Y (98 + e) = I (98 + e) ∧ Y 117 e = I 117 e ∧ Y 118 e = I 118 e ∧ Y 119 e = I 119 e) (hs : (Y (98 + s) 0 = 2 ∧ Y 117 s = -1) ∨ (Y (98 + s) 0 = 0 ∧ Y 117 s = 0 ∧ Y 118 s = Y (98 + s) 1) ∨ (Y (98 + s) 0 = 1 ∧ Y 117 s = 1 ∧ Y 118 s = Y (98 + s) 2 ∧ Y 119 s = Y (98 + s) 3 ∧ 0 ≤ Y (98 + s) 2 ∧ Y (98 + s) 2 ≤ 3)) : RH Y Y := by
  intro e he
  by_cases q : e = s
  · subst q
    exact hs
  · obtain ⟨o1, o2, o3, o4⟩ := o e he q
    rw [o1, o2, o3, o4]
    exact h e he
theorem mk_sh_off {I : pm_I} {x q : Nat} {w v : Int32} (h1 : q ≠ 117) (h2 : q ≠ 118) (h3 : q ≠ 119) : mk_sh I x w v q = I q := by
  unfold mk_sh
  rw [pm_u_off h3, pm_u_off h2, pm_u_off h1]
theorem mk_sh_at {I : pm_I} {x : Nat} {w v : Int32} : mk_sh I x w v 117 = upd (I 117) x (if w = 2 ∨ (w = 1 ∧ I 114 v.toNatClampNeg < 0) then -1 else w) ∧ mk_sh I x w v 118 = upd (I 118) x (if w = 1 then I 114 v.toNatClampNeg else v) ∧ mk_sh I x w v 119 = upd (I 119) x (if w = 1 then I 115 v.toNatClampNeg else 0) := by
  unfold mk_sh
  refine ⟨?_, ?_, ?_⟩
  · rw [pm_u_off (by decide), pm_u_off (by decide), pm_u_at]
  · rw [pm_u_off (by decide), pm_u_at, pm_u_off (by decide)]
  · rw [pm_u_at, pm_u_off (by decide), pm_u_off (by decide)]
/-- the class's shelf s is X's; the model's is made from it -/
theorem RL_shelf {I X : pm_I} {J : pm_J} {n t s : Nat} {w v : Int32} (h : RL_ I I J n t) (hs : s < 4) (ox : ∀ a, a ≠ 98 + s → X a = I a) (hx : (X (98 + s) 0 = 2 ∧ (w = 2 ∨ (w = 1 ∧ I 114 v.toNatClampNeg < 0))) ∨ (X (98 + s) 0 = 0 ∧ w = 0 ∧ X (98 + s) 1 = v) ∨ (X (98 + s) 0 = 1 ∧ w = 1 ∧ ¬ I 114 v.toNatClampNeg < 0 ∧ X (98 + s) 2 = I 114 v.toNatClampNeg ∧ X (98 + s) 3 = I 115 v.toNatClampNeg ∧ I 114 v.toNatClampNeg ≤ 3)) : Rel (mk_sh X s w v) (mk_sh X s w v) J := by
  obtain ⟨z1, z2, z3⟩ := mk_sh_at (I := X) (x := s) (w := w) (v := v)
  rw [ox 114 (by omega), ox 117 (by omega)] at z1
  rw [ox 114 (by omega), ox 118 (by omega)] at z2
  rw [ox 115 (by omega), ox 119 (by omega)] at z3
  have zo : ∀ a, a ≠ 117 → a ≠ 118 → a ≠ 119 → mk_sh X s w v a = X a := fun a h1 h2 h3 => mk_sh_off h1 h2 h3
  refine RL_H h (fun a ha => (zo a (by omega) (by omega) (by omega)).trans (ox a (by omega))) (RH_1 (s := s) h.2.2.2.2.2.1 (fun e he hne => ⟨?_, ?_, ?_, ?_⟩) ?_)
  · rw [zo _ (by omega) (by omega) (by omega), ox _ (by omega)]
  · rw [z1, pk_un hne]
  · rw [z2, pk_un hne]
  · rw [z3, pk_un hne]
  · rw [zo (98 + s) (by omega) (by omega) (by omega), z1, z2, z3, pk_us, pk_us, pk_us]
    rcases hx with ⟨c1, c2⟩ | ⟨c1, c2, c3⟩ | ⟨c1, c2, c3, c4, c5, c6⟩
    · exact Or.inl ⟨c1, if_pos c2⟩
    · refine Or.inr (Or.inl ⟨c1, ?_, ?_⟩)
      · rw [if_neg (by rw [c2]; rintro (q | q); exact absurd q (by decide); exact absurd q.1 (by decide)), c2]
      · rw [if_neg (by rw [c2]; decide), c3]
    · have c3' : ¬ (w = 2 ∨ (w = 1 ∧ I 114 v.toNatClampNeg < 0)) := by
        rintro (q | q)
        · rw [c2] at q; exact absurd q (by decide)
        · exact c3 q.2
      refine Or.inr (Or.inr ⟨c1, by rw [if_neg c3']; exact c2, by rw [if_pos c2, c4], by rw [if_pos c2, c5], ?_, ?_⟩)
      · rw [c4]; exact Int32.not_lt.mp c3
      · rw [c4]; exact c6
theorem wm_iff {h c : Int32} (qh : 0 ≤ h ∧ h ≤ 23) : (0 ≤ c ∧ c ≤ 24 - h) ↔ ((0 ≤ c ∧ c ≤ 24) ∧ h + c ≤ 24) := by
  obtain ⟨a, ha, rfl⟩ := pm_ix (x := h) (N := 24) qh.1 qh.2 (by decide)
  have e24 : (24 : Int32) - nI a = nI (24 - a) := nI_subN (a := 24) (by omega)
  rw [e24]
  constructor
  · rintro ⟨h1, h2⟩
    obtain ⟨b, hb, rfl⟩ := pm_ix (x := c) (N := 25) h1 (Int32.le_trans h2 (nI_le (a := 24 - a) (b := 24) (by omega) (by decide))) (by decide)
    have h3 := (nI_leI (by omega) (by omega)).mp h2
    rw [nI_add]
    exact ⟨⟨h1, nI_le (b := 24) (by omega) (by decide)⟩, nI_le (b := 24) (by omega) (by decide)⟩
  · rintro ⟨⟨h1, h2⟩, h3⟩
    obtain ⟨b, hb, rfl⟩ := pm_ix (x := c) (N := 25) h1 h2 (by decide)
    rw [nI_add] at h3
    have h4 := (nI_leI (a := a + b) (b := 24) (by omega) (by decide)).mp h3
    exact ⟨h1, nI_le (by omega) (by omega)⟩
theorem wm_sub {i : Int32} {m b : Nat} (hm : m ≤ 40) (hb : b ≤ 24) (h : 0 ≤ i ∧ i ≤ nI m - nI b) : ∃ k, i = nI k ∧ k + b ≤ m := by
  obtain ⟨h1, h2⟩ := h
  have e1 := Int32.le_iff_toInt_le.mp h1
  have e2 := Int32.le_iff_toInt_le.mp h2
  rw [Int32.toInt_zero] at e1
  have e3 : (nI m - nI b).toInt = (m : Int) - (b : Int) := by
    rw [Int32.toInt_sub, nI_toInt (by omega), nI_toInt (by omega)]
    exact Int.bmod_eq_of_le (by omega) (by omega)
  rw [e3] at e2
  refine ⟨i.toNatClampNeg, pm_nat h1, ?_⟩
  show i.toInt.toNat + b ≤ m
  omega
set_option maxHeartbeats 4000000 in
theorem two_sheet {I : pm_I} {J : pm_J} (hI : Rel I I J) {x w v : Int32} : two_ yX7_sheet cX7_sheet 4 yX8_sheet cX8_sheet 5 [.int x, .int w, .int v] I J := by
  obtain ⟨n, t, hL⟩ := hI
  have hI : Rel I I J := ⟨n, t, hL⟩
  obtain ⟨hA, hK, hP, hRW, hS, hH, hX⟩ := id hL
  obtain ⟨h6, ht, hn, hnow, hn8, hnow8, hgap8, hz8, hat, hcol, hw8, hB⟩ := id hA
  obtain ⟨hF, hW, hok⟩ := RA_m hA (Im2 := I) (fun _ _ => rfl)
  have hn2 : I 102 2 = I 1 2 := hn8.trans hn.symm
  obtain ⟨ln, l1, l2, l3, l4⟩ := RS_at hS
  have hc := c_X7_sheet (d := 9) (I := I) (J := J) (x := x) (w := w) (v := v)
  by_cases q : (0 ≤ x ∧ x ≤ 3) ∧ -1 ≤ w ∧ w ≤ 3
  · rw [if_pos q, if_pos q] at hc
    obtain ⟨s, hs, rfl⟩ := pm_ix (x := x) (N := 4) q.1.1 q.1.2 (by decide)
    by_cases q1 : w = -1
    · rw [if_pos q1, if_pos q1, nI_clamp (by omega)] at hc
      subst q1
      have ok1 : (0 ≤ nI s ∧ nI s ≤ 3) ∧ (-1 ≤ (-1 : Int32) ∧ (-1 : Int32) ≤ 3) ∧ ¬ (0 ≤ (-1 : Int32) ∧ 40 < v) := ⟨q.1, by decide, fun z => absurd z.1 (by decide)⟩
      have ok2 : ¬ (0 ≤ (-1 : Int32) ∧ v < 0) := fun z => absurd z.1 (by decide)
      have hm := c_X8_sheet (d := 9) (I := (pm_s (pm_u (pm_u I (90 + 2 * s) 1 (-1)) (90 + 2 * s) 2 (0)) (91 + 2 * s) (bl_zer (I (91 + 2 * s)) 0))) (J := J) (x := nI s) (w := -1) (v := v)
      have ok3 := And.intro ok1 ok2
      rw [if_pos ok1, if_neg ok2, if_pos ok3, if_pos ok3, nI_clamp (by omega)] at hm
      rw [if_pos (show (-1 : Int32) < 0 by decide)] at hm
      exact two_d hc hm rfl (RL_sheet (L := 0) hL hs (by decide) (by decide))
    · rw [if_neg q1, if_neg q1] at hc
      have w0 : 0 ≤ w := by have := q.2; grind
      by_cases q2 : 40 < v
      · rw [if_pos q2, if_pos q2] at hc
        have hm := c_X8_sheet (d := 9) (I := I) (J := J) (x := nI s) (w := w) (v := v)
        have no : ¬ ((0 ≤ nI s ∧ nI s ≤ 3) ∧ (-1 ≤ w ∧ w ≤ 3) ∧ ¬ (0 ≤ w ∧ 40 < v)) := fun z => z.2.2 ⟨w0, q2⟩
        rw [if_neg no, if_neg (fun z => no z.1), if_neg (fun z => no z.1)] at hm
        exact two_d hc hm rfl hI
      · rw [if_neg q2, if_neg q2] at hc
        have ok1 : (0 ≤ nI s ∧ nI s ≤ 3) ∧ (-1 ≤ w ∧ w ≤ 3) ∧ ¬ (0 ≤ w ∧ 40 < v) := ⟨q.1, q.2, fun z => q2 z.2⟩
        by_cases q3 : v < 0
        · rw [if_pos q3, if_pos q3] at hc
          have hm := c_X8_sheet (d := 9) (I := I) (J := J) (x := nI s) (w := w) (v := v)
          have ok2 : 0 ≤ w ∧ v < 0 := ⟨w0, q3⟩
          rw [if_pos ok1, if_pos ok2, if_neg (fun z => z.2 ok2), if_neg (fun z => z.2 ok2)] at hm
          exact two_d hc hm rfl hI
        · rw [if_neg q3, if_neg q3, nI_clamp (by omega)] at hc
          have ok2 : ¬ (0 ≤ w ∧ v < 0) := fun z => q3 z.2
          have hm := c_X8_sheet (d := 9) (I := (pm_s (pm_u (pm_u I (90 + 2 * s) 1 (w)) (90 + 2 * s) 2 (v)) (91 + 2 * s) (bl_zer (I (91 + 2 * s)) v.toNatClampNeg))) (J := J) (x := nI s) (w := w) (v := v)
          have ok3 := And.intro ok1 ok2
          rw [if_pos ok1, if_neg ok2, if_pos ok3, if_pos ok3, nI_clamp (by omega)] at hm
          rw [if_neg (Int32.not_lt.mpr w0)] at hm
          obtain ⟨L, hL4, rfl⟩ := pm_ix (x := v) (N := 41) (Int32.not_lt.mp q3) (Int32.not_lt.mp q2) (by decide)
          rw [nI_clamp (by omega)] at hc hm
          exact two_d hc hm rfl (RL_sheet (L := L) hL hs q.2 (by omega))
  · rw [if_neg q, if_neg q] at hc
    have hm := c_X8_sheet (d := 9) (I := I) (J := J) (x := x) (w := w) (v := v)
    have no : ¬ ((0 ≤ x ∧ x ≤ 3) ∧ (-1 ≤ w ∧ w ≤ 3) ∧ ¬ (0 ≤ w ∧ 40 < v)) := fun z => q ⟨z.1, z.2.1⟩
    rw [if_neg no, if_neg (fun z => no z.1), if_neg (fun z => no z.1)] at hm
    exact two_d hc hm rfl hI

set_option maxHeartbeats 4000000 in
theorem two_put {I : pm_I} {J : pm_J} (hI : Rel I I J) {x i v : Int32} : two_ yX7_put cX7_put 5 yX8_put cX8_put 4 [.int x, .int i, .int v] I J := by
  obtain ⟨n, t, hL⟩ := hI
  have hI : Rel I I J := ⟨n, t, hL⟩
  obtain ⟨hA, hK, hP, hRW, hS, hH, hX⟩ := id hL
  obtain ⟨h6, ht, hn, hnow, hn8, hnow8, hgap8, hz8, hat, hcol, hw8, hB⟩ := id hA
  obtain ⟨hF, hW, hok⟩ := RA_m hA (Im2 := I) (fun _ _ => rfl)
  have hn2 : I 102 2 = I 1 2 := hn8.trans hn.symm
  obtain ⟨ln, l1, l2, l3, l4⟩ := RS_at hS
  have hc := c_X7_put (d := 9) (J := J) (x := x) (i := i) (v := v) l1
  by_cases q : 0 ≤ x ∧ x ≤ 3
  · obtain ⟨s, hs, rfl⟩ := pm_ix (x := x) (N := 4) q.1 q.2 (by decide)
    rw [if_pos q, nI_clamp (by omega)] at hc
    have e1 := (l3 s hs).1
    have hr := (l3 s hs).2
    have e2 : I 115 s = I (90 + 2 * s) 2 := (l2 s hs).1.trans (l1 s hs).1.symm
    by_cases q1 : I (90 + 2 * s) 1 = -1
    · rw [if_pos q1, if_neg (fun z => z.2.1 q1)] at hc
      have hm := c_X8_put (d := 9) (J := J) (x := nI s) (i := i) (v := v) l2
      have qm : I 114 s < 0 := by rw [e1, q1]; decide
      rw [if_pos q, nI_clamp (by omega), if_pos qm, if_neg (fun z => z.2.1 qm)] at hm
      exact two_d hc hm rfl hI
    · have qm : ¬ I 114 s < 0 := by rw [e1]; grind
      rw [if_neg q1] at hc
      by_cases q2 : 0 ≤ i ∧ i ≤ I (90 + 2 * s) 2 - 1
      · have l40 := (l1 s hs).2
        obtain ⟨k, hk, rfl⟩ := pm_hasN (x := i) (n := ln s) (by omega) (by rw [← (l1 s hs).1]; exact q2)
        rw [if_pos q2, if_pos ⟨q, q1, q2⟩, nI_clamp (show k < 2 ^ 31 by omega)] at hc
        have hm := c_X8_put (d := 9) (I := pm_u I (91 + 2 * s) k (sh_nar (I (90 + 2 * s) 1) v)) (J := J) (x := nI s) (i := nI k) (v := v) (ln := ln) (fun e he => by rw [pm_u_off (by omega)]; exact l2 e he)
        rw [pm_u_off (show 114 ≠ 91 + 2 * s by omega), pm_u_off (show 115 ≠ 91 + 2 * s by omega), nI_clamp (show s < 2 ^ 31 by omega), e2, if_pos q, if_neg qm, if_pos q2, if_pos ⟨q, qm, q2⟩, e1, nI_clamp (show k < 2 ^ 31 by omega)] at hm
        exact two_d hc hm rfl (RL_put hL hs (by omega))
      · rw [if_neg q2, if_neg (fun z => q2 z.2.2)] at hc
        have hm := c_X8_put (d := 9) (J := J) (x := nI s) (i := i) (v := v) l2
        rw [if_pos q, nI_clamp (by omega), if_neg qm, e2, if_neg q2, if_neg (fun z => q2 z.2.2)] at hm
        exact two_d hc hm rfl hI
  · rw [if_neg q, if_neg (fun z => q z.1)] at hc
    have hm := c_X8_put (d := 9) (J := J) (x := x) (i := i) (v := v) l2
    rw [if_neg q, if_neg (fun z => q z.1)] at hm
    exact two_d hc hm rfl hI

set_option maxHeartbeats 4000000 in
theorem two_warms {I : pm_I} {J : pm_J} (hI : Rel I I J) {x i h c : Int32} : two_ yX7_warms cX7_warms 7 yX8_warms cX8_warms 9 [.int x, .int i, .int h, .int c] I J := by
  obtain ⟨n, t, hL⟩ := hI
  have hI : Rel I I J := ⟨n, t, hL⟩
  obtain ⟨hA, hK, hP, hRW, hS, hH, hX⟩ := id hL
  obtain ⟨h6, ht, hn, hnow, hn8, hnow8, hgap8, hz8, hat, hcol, hw8, hB⟩ := id hA
  obtain ⟨hF, hW, hok⟩ := RA_m hA (Im2 := I) (fun _ _ => rfl)
  have hn2 : I 102 2 = I 1 2 := hn8.trans hn.symm
  obtain ⟨ln, l1, l2, l3, l4⟩ := RS_at hS
  have ew := wm_iff (h := h) (c := c)
  by_cases q : ((0 ≤ x ∧ x ≤ 3) ∧ (0 ≤ h ∧ h ≤ 23) ∧ 0 ≤ c ∧ c ≤ 24 - h) ∧ I (90 + 2 * x.toNatClampNeg) 1 = 0 ∧ 0 ≤ i ∧ i ≤ I (90 + 2 * x.toNatClampNeg) 2 - c
  · obtain ⟨⟨qx, qh, qc⟩, q0, qi⟩ := id q
    obtain ⟨s, hs, rfl⟩ := pm_ix (x := x) (N := 4) qx.1 qx.2 (by decide)
    rw [nI_clamp (by omega)] at q0 qi
    have qcm := (ew qh).mp qc
    obtain ⟨a, ha, rfl⟩ := pm_ix (x := h) (N := 24) qh.1 qh.2 (by decide)
    obtain ⟨b, hb, rfl⟩ := pm_ix (x := c) (N := 25) qcm.1.1 qcm.1.2 (by decide)
    have hab : a + b ≤ 24 := by have := qcm.2; rw [nI_add] at this; exact (nI_leI (a := a + b) (b := 24) (by omega) (by decide)).mp this
    have l40 := (l1 s hs).2
    rw [(l1 s hs).1] at qi
    obtain ⟨k, hk, hkb⟩ := wm_sub (by omega) (by omega) qi
    subst hk
    have hc := c_X7_warms (d := 8) (I := I) (J := J) (i := k) hs ha hab q0 (l1 s hs).1 l40 hkb
    have hm := c_X8_warms (d := 9) (I := pm_s I 2 (wm_row (I 2) (I (91 + 2 * s)) k a b)) (J := J) (i := k) hs ha hab (by rw [pm_s_off _ _ _ _ (by decide), (l3 s hs).1]; exact q0) (by rw [pm_s_off _ _ _ _ (by decide)]; exact (l2 s hs).1) l40 hkb
    rw [pm_s_off _ _ _ _ (show (103 : Nat) ≠ 2 by decide)] at hm
    exact two_d hc hm rfl (RL_warms hL hs ha hab l40 hkb (l4 s hs))
  · have hc := c_X7_warms0 (d := 9) (J := J) q
    have wq : ((0 ≤ x ∧ x ≤ 3) ∧ (0 ≤ h ∧ h ≤ 23) ∧ 0 ≤ c ∧ c ≤ 24 - h) ↔ ((0 ≤ x ∧ x ≤ 3) ∧ (0 ≤ h ∧ h ≤ 23) ∧ (0 ≤ c ∧ c ≤ 24) ∧ h + c ≤ 24) := ⟨fun z => ⟨z.1, z.2.1, (ew z.2.1).mp z.2.2⟩, fun z => ⟨z.1, z.2.1, (ew z.2.1).mpr z.2.2⟩⟩
    have e1 : (0 ≤ x ∧ x ≤ 3) → I 114 x.toNatClampNeg = I (90 + 2 * x.toNatClampNeg) 1 ∧ I 115 x.toNatClampNeg = I (90 + 2 * x.toNatClampNeg) 2 ∧ (-1 ≤ I (90 + 2 * x.toNatClampNeg) 1 ∧ I (90 + 2 * x.toNatClampNeg) 1 ≤ 3) := fun z => by
      have hs := pm_lt (N := 4) z.1 z.2 (by decide)
      exact ⟨(l3 _ hs).1, (l2 _ hs).1.trans (l1 _ hs).1.symm, (l3 _ hs).2⟩
    have qm : ¬ (((0 ≤ x ∧ x ≤ 3) ∧ (0 ≤ h ∧ h ≤ 23) ∧ (0 ≤ c ∧ c ≤ 24) ∧ h + c ≤ 24) ∧ I 114 x.toNatClampNeg = 0 ∧ 0 ≤ i ∧ i ≤ I 115 x.toNatClampNeg - c) := fun z => by
      obtain ⟨f1, f2, f3⟩ := e1 z.1.1
      rw [f1, f2] at z
      exact q ⟨wq.mpr z.1, z.2⟩
    refine two_q hI hc (c_X8_warms0 (d := 9) (J := J) qm) ?_
    by_cases q9 : (0 ≤ x ∧ x ≤ 3) ∧ (0 ≤ h ∧ h ≤ 23) ∧ 0 ≤ c ∧ c ≤ 24 - h
    · rw [if_pos q9, if_pos (wq.mp q9)]
      obtain ⟨f1, f2, f3⟩ := e1 q9.1
      rw [f1]
      by_cases q5 : I (90 + 2 * x.toNatClampNeg) 1 = -1
      · rw [if_pos q5, if_pos (by rw [q5]; decide)]
      · rw [if_neg q5, if_neg (by grind)]
    · rw [if_neg q9, if_neg (fun z => q9 (wq.mpr z))]

set_option maxHeartbeats 4000000 in
theorem two_shelf {I : pm_I} {J : pm_J} (hI : Rel I I J) {x w v : Int32} : two_ yX7_shelf cX7_shelf 4 yX8_shelf cX8_shelf 4 [.int x, .int w, .int v] I J := by
  obtain ⟨n, t, hL⟩ := hI
  have hI : Rel I I J := ⟨n, t, hL⟩
  obtain ⟨hA, hK, hP, hRW, hS, hH, hX⟩ := id hL
  obtain ⟨h6, ht, hn, hnow, hn8, hnow8, hgap8, hz8, hat, hcol, hw8, hB⟩ := id hA
  obtain ⟨hF, hW, hok⟩ := RA_m hA (Im2 := I) (fun _ _ => rfl)
  have hn2 : I 102 2 = I 1 2 := hn8.trans hn.symm
  obtain ⟨ln, l1, l2, l3, l4⟩ := RS_at hS
  have hc := c_X7_shelf (d := 9) (J := J) (x := x) (w := w) (v := v) hn h6
  by_cases q : (0 ≤ x ∧ x ≤ 3) ∧ ((w = 0 ∧ 0 ≤ v ∧ v ≤ I 1 2 - 1) ∨ (w = 1 ∧ 0 ≤ v ∧ v ≤ 3) ∨ w = 2)
  · obtain ⟨s, hs, rfl⟩ := pm_ix (x := x) (N := 4) q.1.1 q.1.2 (by decide)
    rw [if_pos q, if_neg (fun z => z q.1), nI_clamp (by omega)] at hc
    have key : ∀ X : pm_I, (∀ a, a ≠ 98 + s → X a = I a) → pm_M 11 0 0 yX7_shelf cX7_shelf 4 (some .int) [.ref 0, .int (nI s), .int w, .int v] SHP I J (pm_D (some (.int 1)) SHP X J) → ((X (98 + s) 0 = 2 ∧ (w = 2 ∨ (w = 1 ∧ I 114 v.toNatClampNeg < 0))) ∨ (X (98 + s) 0 = 0 ∧ w = 0 ∧ X (98 + s) 1 = v) ∨ (X (98 + s) 0 = 1 ∧ w = 1 ∧ ¬ I 114 v.toNatClampNeg < 0 ∧ X (98 + s) 2 = I 114 v.toNatClampNeg ∧ X (98 + s) 3 = I 115 v.toNatClampNeg ∧ I 114 v.toNatClampNeg ≤ 3)) → two_ yX7_shelf cX7_shelf 4 yX8_shelf cX8_shelf 4 [.int (nI s), .int w, .int v] I J := by
      intro X ox hX hh
      have hm := c_X8_shelf (d := 8) (I := X) (J := J) (x := nI s) (w := w) (v := v) (n := n) (by rw [ox 102 (by omega)]; exact hn8) h6
      have qm : (0 ≤ nI s ∧ nI s ≤ 3) ∧ mk_hl X w v := by
        unfold mk_hl
        rw [ox 102 (by omega), hn2]
        exact q
      rw [if_pos qm, if_pos qm, nI_clamp (by omega)] at hm
      exact two_d hX hm rfl (RL_shelf hL hs ox hh)
    by_cases w0 : w = 0
    · have v0 : 0 ≤ v ∧ v ≤ I 1 2 - 1 := by
        rcases q.2 with z | z | z
        · exact z.2
        · rw [w0] at z; exact absurd z.1 (by decide)
        · rw [w0] at z; exact absurd z (by decide)
      rw [if_pos w0, if_pos v0] at hc
      exact key _ (fun a ha => by rw [pm_u_off ha, pm_u_off ha]) hc (Or.inr (Or.inl ⟨by rw [pm_u_at, pk_un (by decide), pm_u_at, pk_us], w0, by rw [pm_u_at, pk_us]⟩))
    · rw [if_neg w0] at hc
      by_cases w1 : w = 1
      · have v1 : 0 ≤ v ∧ v ≤ 3 := by
          rcases q.2 with z | z | z
          · exact absurd z.1 w0
          · exact z.2
          · rw [w1] at z; exact absurd z (by decide)
        rw [if_pos w1, if_pos v1] at hc
        obtain ⟨e, he, rfl⟩ := pm_ix (x := v) (N := 4) v1.1 v1.2 (by decide)
        have e1 := (l3 e he).1
        have hr := (l3 e he).2
        have e2 : I 115 e = I (90 + 2 * e) 2 := (l2 e he).1.trans (l1 e he).1.symm
        rw [nI_clamp (by omega)] at hc key
        refine key _ (fun a ha => by rw [pm_u_off ha, pm_u_off ha, pm_u_off ha]) hc ?_
        rw [pm_u_at, pm_u_at, pm_u_at]
        by_cases q5 : I (90 + 2 * e) 1 = -1
        · exact Or.inl ⟨by rw [pk_un (by decide), pk_un (by decide), pk_us, if_pos q5], Or.inr ⟨w1, by rw [e1, q5]; decide⟩⟩
        · exact Or.inr (Or.inr ⟨by rw [pk_un (by decide), pk_un (by decide), pk_us, if_neg q5], w1, by rw [e1]; grind, by rw [pk_un (by decide), pk_us, e1], by rw [pk_us, e2], by rw [e1]; exact hr.2⟩)
      · have w2 : w = 2 := by
          rcases q.2 with z | z | z
          · exact absurd z.1 w0
          · exact absurd z.1 w1
          · exact z
        rw [if_neg w1, if_pos w2] at hc
        exact key _ (fun a ha => pm_u_off ha) hc (Or.inl ⟨by rw [pm_u_at, pk_us], Or.inl w2⟩)
  · have hm := c_X8_shelf (d := 8) (J := J) (x := x) (w := w) (v := v) hn8 h6
    have qm : ¬ ((0 ≤ x ∧ x ≤ 3) ∧ mk_hl I w v) := by
      unfold mk_hl
      rw [hn2]
      exact q
    rw [if_neg qm, if_neg qm] at hm
    have e9 : (if ¬ (0 ≤ x ∧ x ≤ 3) then I else if w = 0 then (if 0 ≤ v ∧ v ≤ I 1 2 - 1 then (pm_u (pm_u I (98 + x.toNatClampNeg) 0 0) (98 + x.toNatClampNeg) 1 v) else I) else if w = 1 then (if 0 ≤ v ∧ v ≤ 3 then (pm_u (pm_u (pm_u I (98 + x.toNatClampNeg) 0 (if I (90 + 2 * v.toNatClampNeg) 1 = -1 then 2 else 1)) (98 + x.toNatClampNeg) 2 (I (90 + 2 * v.toNatClampNeg) 1)) (98 + x.toNatClampNeg) 3 (I (90 + 2 * v.toNatClampNeg) 2)) else I) else if w = 2 then pm_u I (98 + x.toNatClampNeg) 0 2 else I) = I := by
      by_cases qx : 0 ≤ x ∧ x ≤ 3
      · rw [if_neg (fun z => z qx)]
        by_cases w0 : w = 0
        · rw [if_pos w0, if_neg (fun z => q ⟨qx, Or.inl ⟨w0, z⟩⟩)]
        · rw [if_neg w0]
          by_cases w1 : w = 1
          · rw [if_pos w1, if_neg (fun z => q ⟨qx, Or.inr (Or.inl ⟨w1, z⟩)⟩)]
          · rw [if_neg w1, if_neg (fun z => q ⟨qx, Or.inr (Or.inr z)⟩)]
      · rw [if_pos qx]
    rw [if_neg q, e9] at hc
    exact two_d hc hm rfl hI
