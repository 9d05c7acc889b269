/-! Rows and acts on both sides -/
theorem pr_mo {I : pm_I} {t n b i v : Nat} : pr_R I t n b i v = mo_R (I 2) (I 1 4) t n (bl_L I) b i v := rfl
theorem RL_rows {I I2 I3 : pm_I} {J : pm_J} {n t b m : Nat} (h : RL_ I I J n t) (hm : m ≤ 20) (h1 : pr_In I t m n b m 0 I2) (h2 : mo_pv I2 (I 2) (I 1 4) t n (bl_L I) b m I3) : Rel I3 I3 J := by
  obtain ⟨hA, hK, hP, hRW, hS, hH, hX⟩ := h
  obtain ⟨p1, p2, p3, p4, p5, p6⟩ := h1
  obtain ⟨q1, q2, q3, q4, q5⟩ := h2
  have c1 : ∀ a, a ≠ 0 → a < 48 ∨ (86 ≤ a ∧ a < 102) → I3 a = I a := fun a h0 ha => (q1 a (by omega) (by omega) (by omega) (by omega)).trans (p1 a h0 (by omega))
  have c0 : ∀ p, p ≠ 7 → I3 0 p = I 0 p := fun p hp => by rw [q1 0 (by decide) (by decide) (by decide) (by decide), p2 p hp]
  have m1 : ∀ a, 103 ≤ a → a ≠ 106 → a ≠ 112 → a ≠ 113 → I3 a = I a := fun a h1 h2 h3 h4 => (q1 a (by omega) h2 h3 h4).trans (p1 a (by omega) (by omega))
  have m2 : ∀ p, p ≠ 25 → p ≠ 26 → I3 102 p = I 102 p := fun p h1 h2 => (q2 p h1 h2).trans (by rw [p1 102 (by decide) (by decide)])
  have m6 : ∀ k, k < 43 → I3 106 k = I 106 k := fun k hk => (q3 k hk).trans (by rw [p1 106 (by decide) (by decide)])
  refine ⟨n, t, RA_c hA (c1 1 (by decide) (by decide)) (c1 2 (by decide) (by decide)) (fun b hb => c1 _ (by omega) (by omega)) (fun p hp => m2 p (by omega) (by omega)) (m1 103 (by decide) (by decide) (by decide) (by decide)) (m1 104 (by decide) (by decide) (by decide) (by decide)) (m1 105 (by decide) (by decide) (by decide) (by decide)) m6, RK_c hK (c0 2 (by decide)) (fun a h1 h2 => c1 a (by omega) (by omega)) (m2 39 (by decide) (by decide)) (m1 121 (by decide) (by decide) (by decide) (by decide)), RP_c hP (by rw [c1 46 (by decide) (by decide)]) (c1 47 (by decide) (by decide)) (m2 10 (by decide) (by decide)) (m1 107 (by decide) (by decide) (by decide) (by decide)), ⟨m, hm, by rw [q1 0 (by decide) (by decide) (by decide) (by decide)]; exact p3, q4, fun i hi v hv => ?_⟩, RS_c hS (fun a h1 h2 => c1 a (by omega) (by omega)) (m1 114 (by decide) (by decide) (by decide) (by decide)) (m1 115 (by decide) (by decide) (by decide) (by decide)) rfl, RH_c hH (fun s hs => c1 _ (by omega) (by omega)) (m1 117 (by decide) (by decide) (by decide) (by decide)) (m1 118 (by decide) (by decide) (by decide) (by decide)) (m1 119 (by decide) (by decide) (by decide) (by decide)), RX_c hX (by rw [c1 88 (by decide) (by decide)]) (c1 89 (by decide) (by decide)) (m2 37 (by decide) (by decide)) (m1 120 (by decide) (by decide) (by decide) (by decide))⟩
  rw [q5 i hi v hv, q1 (66 + i) (by omega) (by omega) (by omega) (by omega), p5 i hi v hv, pr_mo]
theorem RL_act {I I2 I3 : pm_I} {J : pm_J} {n t : Nat} {ts : List Int32} (h : RL_ I I J n t) (h1 : ac_Q I ts I2) (h2 : ma_Q I2 ts I3) : Rel I3 I3 J := by
  obtain ⟨hA, hK, hP, hRW, hS, hH, hX⟩ := h
  obtain ⟨p1, p2, p3, p4⟩ := h1
  obtain ⟨q1, q2, q3, q4, q5⟩ := h2
  have c1 : ∀ a, a ≠ 88 → a ≠ 89 → a ≠ 102 → a ≠ 120 → I3 a = I a := fun a h1 h2 h3 h4 => (q1 a h3 h4).trans (p1 a h1 h2)
  have m2 : ∀ p, (p < 33 ∨ 38 < p) → I3 102 p = I 102 p := fun p hp => (q2 p hp).trans (by rw [p1 102 (by decide) (by decide)])
  have d : ∀ a, a < 48 ∨ (90 ≤ a ∧ a < 102) ∨ (103 ≤ a ∧ a < 120) ∨ 121 ≤ a ∨ (65 ≤ a ∧ a < 88) → I3 a = I a := fun a ha => c1 a (by omega) (by omega) (by omega) (by omega)
  refine ⟨n, t, RA_c hA (d 1 (by decide)) (d 2 (by decide)) (fun b hb => d _ (by omega)) (fun p hp => m2 p (by omega)) (d 103 (by decide)) (d 104 (by decide)) (d 105 (by decide)) (fun k _ => by rw [d 106 (by decide)]), RK_c hK (by rw [d 0 (by decide)]) (fun a h1 h2 => d a (by omega)) (m2 39 (by decide)) (d 121 (by decide)), RP_c hP (by rw [d 46 (by decide)]) (d 47 (by decide)) (m2 10 (by decide)) (d 107 (by decide)), RW_c hRW (by rw [d 0 (by decide)]) (fun i hi => d _ (by omega)) (m2 25 (by decide)) (d 112 (by decide)), RS_c hS (fun a h1 h2 => d a (by omega)) (d 114 (by decide)) (d 115 (by decide)) rfl, RH_c hH (fun s hs => d _ (by omega)) (d 117 (by decide)) (d 118 (by decide)) (d 119 (by decide)), ⟨ts.length, p3, by rw [q1 88 (by decide) (by decide)]; exact p2, q3, fun k hk => ?_⟩⟩
  rw [q1 89 (by decide) (by decide), p4 k hk, q5 k hk]
theorem RH_h {Ic Im : pm_I} (h : RH Ic Im) {n s : Nat} (hs : s < 4) (hn : Ic 1 2 = nI n) (hn8 : Im 102 2 = nI n) : mk_h Im s ↔ sf_holds Ic s := by
  have e2 : Im 102 2 = Ic 1 2 := hn8.trans hn.symm
  rcases h s hs with ⟨c1, c2⟩ | ⟨c1, c2, c3⟩ | ⟨c1, c2, c3, c4, c5, c6⟩
  · exact ⟨fun z => by have := z.1; rw [c2] at this; exact absurd this (by decide), fun z => by have := z.1; rw [c1] at this; exact absurd this (by decide)⟩
  · unfold mk_h sf_holds
    rw [c1, c2, c3, e2]
  · exact ⟨fun z => by have := z.1; rw [c2] at this; exact absurd this (by decide), fun z => by have := z.1; rw [c1] at this; exact absurd this (by decide)⟩
set_option maxHeartbeats 4000000 in
theorem two_alterRow {I : pm_I} {J : pm_J} (hI : Rel I I J) {x w v : Int32} : two_ yX7_alterRow cX7_alterRow 5 yX8_alterRow cX8_alterRow 5 [.int x, .int w, .int v] I J := by
  obtain ⟨n, t, hL⟩ := hI
  have hI : Rel I I J := ⟨n, t, hL⟩
  obtain ⟨hA, hK, hP, hRW, hS, hH, hX⟩ := id hL
  obtain ⟨h6, ht, hn, hnow, hn8, hnow8, hgap8, hz8, hat, hcol, hw8, hB⟩ := id hA
  obtain ⟨hF, hW, hok⟩ := RA_m hA (Im2 := I) (fun _ _ => rfl)
  have hn2 : I 102 2 = I 1 2 := hn8.trans hn.symm
  obtain ⟨r, r1, r2, r3, r4⟩ := id hRW
  have e : I 102 25 = I 0 7 := r3.trans r2.symm
  have hc := c_X7_alterRow (d := 9) (J := J) (i := x) (w := w) (v := v) r2 r1
  by_cases q : (0 ≤ x ∧ x ≤ I 0 7 - 1) ∧ 0 ≤ w ∧ w ≤ 2
  · rw [if_pos q, if_pos q] at hc
    obtain ⟨i, hi, rfl⟩ := pm_hasN (x := x) (n := r) (by omega) (by rw [← r2]; exact q.1)
    obtain ⟨k, hk, rfl⟩ := pm_ix (x := w) (N := 3) q.2.1 q.2.2 (by decide)
    rw [nI_clamp (by omega), nI_clamp (by omega)] at hc
    have e102 : pm_u I (66 + i) k v 102 = I 102 := by rw [pm_u_off (by omega)]
    have e112 : pm_u I (66 + i) k v 112 = I 112 := by rw [pm_u_off (by omega)]
    have hm := c_X8_alterRow (d := 9) (I := pm_u I (66 + i) k v) (J := J) (i := nI i) (w := nI k) (v := v) (rc := r) (by rw [e102]; exact r3) r1
    rw [e102, e, if_pos q, if_pos q, nI_clamp (by omega), nI_clamp (by omega), e112] at hm
    refine two_d hc hm (r4 i hi k hk) ?_
    have o : ∀ a, a ≠ 66 + i → a ≠ 112 → pm_u (pm_u I (66 + i) k v) 112 (3 * i + k) v a = I a := fun a h1 h2 => by rw [pm_u_off h2, pm_u_off h1]
    refine ⟨n, t, RA_c hA (o 1 (by omega) (by decide)) (o 2 (by omega) (by decide)) (fun b hb => o _ (by omega) (by omega)) (fun p hp => by rw [o 102 (by omega) (by decide)]) (o 103 (by omega) (by decide)) (o 104 (by omega) (by decide)) (o 105 (by omega) (by decide)) (fun z _ => by rw [o 106 (by omega) (by decide)]), RK_c hK (by rw [o 0 (by omega) (by decide)]) (fun a h1 h2 => o a (by omega) (by omega)) (by rw [o 102 (by omega) (by decide)]) (o 121 (by omega) (by decide)), RP_c hP (by rw [o 46 (by omega) (by decide)]) (o 47 (by omega) (by decide)) (by rw [o 102 (by omega) (by decide)]) (o 107 (by omega) (by decide)), ⟨r, r1, by rw [o 0 (by omega) (by decide)]; exact r2, by rw [o 102 (by omega) (by decide)]; exact r3, fun c hcr y hy => ?_⟩, RS_c hS (fun a h1 h2 => o a (by omega) (by omega)) (o 114 (by omega) (by decide)) (o 115 (by omega) (by decide)) rfl, RH_c hH (fun s hs => o _ (by omega) (by omega)) (o 117 (by omega) (by decide)) (o 118 (by omega) (by decide)) (o 119 (by omega) (by decide)), RX_c hX (by rw [o 88 (by omega) (by decide)]) (o 89 (by omega) (by decide)) (by rw [o 102 (by omega) (by decide)]) (o 120 (by omega) (by decide))⟩
    rw [pm_u_at, e112, pm_u_off (show 66 + c ≠ 112 by omega)]
    by_cases ec : c = i
    · subst ec
      rw [pm_u_at]
      by_cases ey : y = k
      · rw [ey, pk_us, pk_us]
      · rw [pk_un (by omega), pk_un ey]
        exact r4 c hcr y hy
    · rw [pk_un (by omega), pm_u_off (by omega)]
      exact r4 c hcr y hy
  · rw [if_neg q, if_neg q] at hc
    have hm := c_X8_alterRow (d := 9) (J := J) (i := x) (w := w) (v := v) r3 r1
    rw [e, if_neg q, if_neg q] at hm
    exact two_d hc hm rfl hI

set_option maxHeartbeats 4000000 in
theorem two_prove {I : pm_I} {J : pm_J} (hI : Rel I I J) {x y : Int32} : two_ yX7_prove cX7_prove 5 yX8_prove cX8_prove 4 [.int x, .int y] I J := by
  obtain ⟨n, t, hL⟩ := hI
  have hI : Rel I I J := ⟨n, t, hL⟩
  obtain ⟨hA, hK, hP, hRW, hS, hH, hX⟩ := id hL
  obtain ⟨h6, ht, hn, hnow, hn8, hnow8, hgap8, hz8, hat, hcol, hw8, hB⟩ := id hA
  obtain ⟨hF, hW, hok⟩ := RA_m hA (Im2 := I) (fun _ _ => rfl)
  have hn2 : I 102 2 = I 1 2 := hn8.trans hn.symm
  by_cases q0 : (0 ≤ x ∧ x ≤ I 1 2 - 1) ∧ 1 ≤ y ∧ y ≤ 20
  · have q := q0.1
    obtain ⟨b, hb, rfl⟩ := pm_hasN (x := x) (n := n) (by omega) (by rw [← hn]; exact q)
    obtain ⟨h, hh, rfl⟩ := pm_ix (x := y) (N := 21) (Int32.le_trans (by decide) q0.2.1) q0.2.2 (by decide)
    have h1 : 1 ≤ h := (nI_leI (a := 1) (b := h) (by decide) (by omega)).mp q0.2.1
    refine two_r (Pm := fun _ => True) (c_X7_prove (d := 5) (J := J) hn h6 hnow ht hb h1 (by omega)) (fun I2 e2 => ?_)
    have h2 : ∀ a, 102 ≤ a → I2 a = I a := fun a ha => e2.1 a (by omega) (by omega)
    refine ⟨_, c_X8_prove (d := 5) (J := J) (RA_m hA h2).1 ht (RA_m hA h2).2.2 (RA_m hA h2).2.1 hb h1 (by omega), fun r sh3 I3 J3 z => ⟨z.1, z.2.1, ?_⟩⟩
    rw [z.2.2.1]
    exact RL_rows hL (by omega) e2 z.2.2.2
  · exact two_q hI (c_X7_prove0 q0) (c_X8_prove0 (by rw [hn2]; exact q0)) rfl

set_option maxHeartbeats 4000000 in
theorem two_act {I : pm_I} {J : pm_J} (hI : Rel I I J) {x w v : Int32} : two_ yX7_act cX7_act 5 yX8_act cX8_act 6 [.int x, .int w, .int v] I J := by
  obtain ⟨n, t, hL⟩ := hI
  have hI : Rel I I J := ⟨n, t, hL⟩
  obtain ⟨hA, hK, hP, hRW, hS, hH, hX⟩ := id hL
  obtain ⟨h6, ht, hn, hnow, hn8, hnow8, hgap8, hz8, hat, hcol, hw8, hB⟩ := id hA
  obtain ⟨hF, hW, hok⟩ := RA_m hA (Im2 := I) (fun _ _ => rfl)
  have hn2 : I 102 2 = I 1 2 := hn8.trans hn.symm
  by_cases q : (0 ≤ x ∧ x ≤ 3) ∧ (0 ≤ w ∧ w ≤ 3) ∧ sf_holds I x.toNatClampNeg
  · obtain ⟨s, hs, rfl⟩ := pm_ix (x := x) (N := 4) q.1.1 q.1.2 (by decide)
    have q2 := q.2.2
    rw [nI_clamp (by omega)] at q2
    obtain ⟨b, hb, eb⟩ := pm_hasN (n := n) (by omega) (by rw [← hn]; exact q2.2)
    have qm := (RH_h hH hs hn hn8).mpr q2
    have e118 : I 118 s = nI b := by
      rcases hH s hs with ⟨c1, c2⟩ | ⟨c1, c2, c3⟩ | ⟨c1, c2, c3, c4, c5, c6⟩
      · have := q2.1; rw [c1] at this; exact absurd this (by decide)
      · exact c3.trans eb
      · have := q2.1; rw [c1] at this; exact absurd this (by decide)
    have k0 : I 104 b = I (5 + 2 * b) 0 := (hB b hb).2 0 (by decide)
    have k1 : I 105 b = I (5 + 2 * b) 1 := (hB b hb).2 1 (by decide)
    refine two_r (Pm := fun _ => True) (c_X7_act (d := 6) (J := J) (v := v) hn h6 hs hb q.2.1 q2.1 eb) (fun I2 e2 => ?_)
    have h2 : ∀ a, 102 ≤ a → I2 a = I a := fun a ha => e2.1 a (by omega) (by omega)
    have hm := c_X8_act (d := 3) (I := I2) (J := J) (w := w) (v := v) (n := n) (s := s) (b := b) (by rw [h2 102 (by decide)]; exact hn8) h6 hs hb q.2.1 (by rw [h2 117 (by decide)]; exact qm.1) (by rw [h2 118 (by decide)]; exact e118) (by rw [h2 104 (by decide), k0]; exact (bo_in (hB b hb).1).1)
    rw [h2 104 (by decide), h2 105 (by decide), k0, k1] at hm
    refine ⟨_, hm, fun r sh3 I3 J3 z => ⟨z.1, z.2.1, ?_⟩⟩
    rw [z.2.2.1]
    exact RL_act hL e2 z.2.2.2
  · have hc := c_X7_act0 (d := 8) (J := J) (v := v) q
    have qm : ¬ ((0 ≤ x ∧ x ≤ 3) ∧ (0 ≤ w ∧ w ≤ 3) ∧ mk_h (pm_u (pm_u I 88 1 0) 88 2 0) x.toNatClampNeg) := by
      rintro ⟨z1, z2, z3⟩
      obtain ⟨s, hs, rfl⟩ := pm_ix (x := x) (N := 4) z1.1 z1.2 (by decide)
      rw [nI_clamp (by omega)] at z3 q
      exact q ⟨z1, z2, (RH_h hH hs hn hn8).mp z3⟩
    refine two_d hc (c_X8_act0 (d := 8) (J := J) (w := w) (v := v) (n := n) hn8 h6 qm) rfl ?_
    have hq := RL_act hL (ts := []) (I2 := pm_u (pm_u I 88 1 0) 88 2 0) (I3 := pm_u (pm_u (pm_u I 88 1 0) 88 2 0) 102 37 0) ⟨fun a h1 h2 => by rw [pm_u_off h1, pm_u_off h1], rfl, by decide, fun k hk => absurd hk (Nat.not_lt_zero k)⟩ ⟨fun a h1 h2 => pm_u_off h1, fun p hp => by rw [pm_u_at, pk_un (by omega)], rfl, by decide, fun k hk => absurd hk (Nat.not_lt_zero k)⟩
    exact hq
