/-! Balloons, gifts, rows, acts on both sides -/
theorem mo_new_off {I : pm_I} {n q : Nat} {k a c : Int32} (h1 : q ≠ 102) (h4 : q ≠ 104) (h5 : q ≠ 105) (h6 : q ≠ 106) : mo_new I n k a c q = I q := by
  unfold mo_new
  rw [pm_u_off h1, pm_u_off h6, pm_u_off h6, pm_u_off h6, pm_u_off h6, pm_u_off h6, pm_u_off h6, pm_u_off h6, pm_u_off h5, pm_u_off h4]
theorem mo_new_102 {I : pm_I} {n : Nat} {k a c : Int32} : mo_new I n k a c 102 = upd (I 102) 2 (nI (n + 1)) := by
  unfold mo_new
  rw [pm_u_at, pm_u_off (by decide), pm_u_off (by decide), pm_u_off (by decide), pm_u_off (by decide), pm_u_off (by decide), pm_u_off (by decide), pm_u_off (by decide), pm_u_off (by decide), pm_u_off (by decide)]
theorem mo_new_104 {I : pm_I} {n : Nat} {k a c : Int32} : mo_new I n k a c 104 = upd (I 104) n k := by
  unfold mo_new
  rw [pm_u_off (by decide), pm_u_off (by decide), pm_u_off (by decide), pm_u_off (by decide), pm_u_off (by decide), pm_u_off (by decide), pm_u_off (by decide), pm_u_off (by decide), pm_u_off (by decide), pm_u_at]
theorem mo_new_105 {I : pm_I} {n : Nat} {k a c : Int32} : mo_new I n k a c 105 = upd (I 105) n a := by
  unfold mo_new
  rw [pm_u_off (by decide), pm_u_off (by decide), pm_u_off (by decide), pm_u_off (by decide), pm_u_off (by decide), pm_u_off (by decide), pm_u_off (by decide), pm_u_off (by decide), pm_u_at, pm_u_off (by decide)]
theorem mo_new_106 {I : pm_I} {n : Nat} {k a c : Int32} : mo_new I n k a c 106 = upd (upd (upd (upd (upd (upd (upd (I 106) (0 + 7 * n + 1) c) (0 + 7 * n + 2) 0) (0 + 7 * n + 3) 50) (0 + 7 * n + 4) 100) (0 + 7 * n + 5) 50) (0 + 7 * n + 6) 20) (0 + 7 * n + 7) 1 := by
  unfold mo_new
  rw [pm_u_off (by decide), pm_u_at, pm_u_at, pm_u_at, pm_u_at, pm_u_at, pm_u_at, pm_u_at, pm_u_off (by decide), pm_u_off (by decide)]
/-- a balloon more -/
theorem RL_new {I : pm_I} {J : pm_J} {n t : Nat} {k a c : Int32} (h : RL_ I I J n t) (h6 : n < 6) (hk : 0 ≤ k ∧ k ≤ 5) (ha : 0 ≤ a ∧ a ≤ 9) (hc0 : 0 ≤ c ∧ c ≤ 5) : Rel (mo_new (pm_u (pm_s I (5 + 2 * n) (bl_first (I (5 + 2 * n)) k a c)) 1 2 (nI (n + 1))) n k a c) (mo_new (pm_u (pm_s I (5 + 2 * n) (bl_first (I (5 + 2 * n)) k a c)) 1 2 (nI (n + 1))) n k a c) J := by
  obtain ⟨hA, hK, hP, hRW, hS, hH, hX⟩ := h
  obtain ⟨-, ht, hn, hnow, hn8, hnow8, hgap8, hz8, hat, hcol, hw8, hB⟩ := hA
  generalize hY : pm_u (pm_s I (5 + 2 * n) (bl_first (I (5 + 2 * n)) k a c)) 1 2 (nI (n + 1)) = Y
  have y1 : Y 1 = upd (I 1) 2 (nI (n + 1)) := by rw [← hY, pm_u_at, pm_s_off _ _ _ _ (by omega)]
  have yb : Y (5 + 2 * n) = bl_first (I (5 + 2 * n)) k a c := by rw [← hY, pm_u_off (by omega), pm_s_at]
  have yo : ∀ q, q ≠ 1 → q ≠ 5 + 2 * n → Y q = I q := fun q h1 h2 => by rw [← hY, pm_u_off h1, pm_s_off _ _ _ _ h2]
  generalize hZ : mo_new Y n k a c = Z
  have zo : ∀ q, q ≠ 102 → q ≠ 104 → q ≠ 105 → q ≠ 106 → Z q = Y q := fun q h1 h2 h3 h4 => by rw [← hZ]; exact mo_new_off h1 h2 h3 h4
  have z102 : Z 102 = upd (I 102) 2 (nI (n + 1)) := by rw [← hZ, mo_new_102, yo 102 (by decide) (by omega)]
  have z104 : Z 104 = upd (I 104) n k := by rw [← hZ, mo_new_104, yo 104 (by decide) (by omega)]
  have z105 : Z 105 = upd (I 105) n a := by rw [← hZ, mo_new_105, yo 105 (by decide) (by omega)]
  have z106 : Z 106 = upd (upd (upd (upd (upd (upd (upd (I 106) (0 + 7 * n + 1) c) (0 + 7 * n + 2) 0) (0 + 7 * n + 3) 50) (0 + 7 * n + 4) 100) (0 + 7 * n + 5) 50) (0 + 7 * n + 6) 20) (0 + 7 * n + 7) 1 := by rw [← hZ, mo_new_106, yo 106 (by decide) (by omega)]
  have o : ∀ q, q ≠ 1 → q ≠ 5 + 2 * n → q ≠ 102 → q ≠ 104 → q ≠ 105 → q ≠ 106 → Z q = I q := fun q h1 h2 h3 h4 h5 h6 => (zo q h3 h4 h5 h6).trans (yo q h1 h2)
  have z1 : ∀ p, p ≠ 2 → Z 1 p = I 1 p := fun p hp => by rw [zo 1 (by decide) (by decide) (by decide) (by decide), y1, pk_un hp]
  have z12 : Z 1 2 = nI (n + 1) := by rw [zo 1 (by decide) (by decide) (by decide) (by decide), y1, pk_us]
  have zm : ∀ p, p ≠ 2 → Z 102 p = I 102 p := fun p hp => by rw [z102, pk_un hp]
  have zl : ∀ j, j < 7 * n + 1 → Z 106 j = I 106 j := fun j hj => by rw [z106, pk_un (by omega), pk_un (by omega), pk_un (by omega), pk_un (by omega), pk_un (by omega), pk_un (by omega), pk_un (by omega)]
  refine ⟨n + 1, t, ⟨by omega, ht, z12, (z1 3 (by decide)).trans hnow, by rw [z102, pk_us], (zl 0 (by omega)).trans hnow8, by rw [z1 4 (by decide), zm 1 (by decide)]; exact hgap8, by rw [z1 5 (by decide), zm 8 (by decide)]; exact hz8, (zm 6 (by decide)).trans hat, (zm 7 (by decide)).trans hcol, fun x hx => by rw [o 103 (by decide) (by omega) (by decide) (by decide) (by decide) (by decide), o 2 (by decide) (by omega) (by decide) (by decide) (by decide) (by decide)]; exact hw8 x hx, fun b hb => ?_⟩, RK_c hK (by rw [o 0 (by decide) (by omega) (by decide) (by decide) (by decide) (by decide)]) (fun q h1 h2 => o q (by omega) (by omega) (by omega) (by omega) (by omega) (by omega)) (zm 39 (by decide)) (o 121 (by decide) (by omega) (by decide) (by decide) (by decide) (by decide)), RP_c hP (by rw [o 46 (by decide) (by omega) (by decide) (by decide) (by decide) (by decide)]) (o 47 (by decide) (by omega) (by decide) (by decide) (by decide) (by decide)) (zm 10 (by decide)) (o 107 (by decide) (by omega) (by decide) (by decide) (by decide) (by decide)), RW_c hRW (by rw [o 0 (by decide) (by omega) (by decide) (by decide) (by decide) (by decide)]) (fun i hi => o _ (by omega) (by omega) (by omega) (by omega) (by omega) (by omega)) (zm 25 (by decide)) (o 112 (by decide) (by omega) (by decide) (by decide) (by decide) (by decide)), RS_c hS (fun q h1 h2 => o q (by omega) (by omega) (by omega) (by omega) (by omega) (by omega)) (o 114 (by decide) (by omega) (by decide) (by decide) (by decide) (by decide)) (o 115 (by decide) (by omega) (by decide) (by decide) (by decide) (by decide)) rfl, RH_c hH (fun s hs => o _ (by omega) (by omega) (by omega) (by omega) (by omega) (by omega)) (o 117 (by decide) (by omega) (by decide) (by decide) (by decide) (by decide)) (o 118 (by decide) (by omega) (by decide) (by decide) (by decide) (by decide)) (o 119 (by decide) (by omega) (by decide) (by decide) (by decide) (by decide)), RX_c hX (by rw [o 88 (by decide) (by omega) (by decide) (by decide) (by decide) (by decide)]) (o 89 (by decide) (by omega) (by decide) (by decide) (by decide) (by decide)) (zm 37 (by decide)) (o 120 (by decide) (by omega) (by decide) (by decide) (by decide) (by decide))⟩
  by_cases e : b = n
  · subst e
    obtain ⟨f0, f1, f2, f3, f4, f5, f6, f7, f8⟩ := bl_first_in (I (5 + 2 * b)) k a c
    rw [zo (5 + 2 * b) (by omega) (by omega) (by omega) (by omega), yb]
    refine ⟨bo_of (by rw [f0]; exact hk) (by rw [f1]; exact ha) (by rw [f2]; exact hc0) (by rw [f3]; decide) (by rw [f4]; decide) (by rw [f5]; decide) (by rw [f6]; decide) (by rw [f7]; decide) (by rw [f8]; decide), fun p hp => ?_⟩
    rcases (show p = 0 ∨ p = 1 ∨ p = 2 ∨ p = 3 ∨ p = 4 ∨ p = 5 ∨ p = 6 ∨ p = 7 ∨ p = 8 by omega) with rfl | rfl | rfl | rfl | rfl | rfl | rfl | rfl | rfl
    · show Z 104 b = _
      rw [z104, pk_us, f0]
    · show Z 105 b = _
      rw [z105, pk_us, f1]
    · rw [md_p (by decide), z106, pk_un (by omega), pk_un (by omega), pk_un (by omega), pk_un (by omega), pk_un (by omega), pk_un (by omega), pk_us, f2]
    · rw [md_p (by decide), z106, pk_un (by omega), pk_un (by omega), pk_un (by omega), pk_un (by omega), pk_un (by omega), pk_us, f3]
    · rw [md_p (by decide), z106, pk_un (by omega), pk_un (by omega), pk_un (by omega), pk_un (by omega), pk_us, f4]
    · rw [md_p (by decide), z106, pk_un (by omega), pk_un (by omega), pk_un (by omega), pk_us, f5]
    · rw [md_p (by decide), z106, pk_un (by omega), pk_un (by omega), pk_us, f6]
    · rw [md_p (by decide), z106, pk_un (by omega), pk_us, f7]
    · rw [md_p (by decide), z106, pk_us, f8]
  · have hc6 := hB b (by omega)
    rw [o (5 + 2 * b) (by omega) (by omega) (by omega) (by omega) (by omega) (by omega)]
    refine ⟨hc6.1, fun p hp => ?_⟩
    rw [← hc6.2 p hp]
    by_cases p2 : 2 ≤ p
    · rw [md_p p2, md_p p2, zl _ (by omega)]
    · rcases (show p = 0 ∨ p = 1 by omega) with rfl | rfl
      · show Z 104 b = I 104 b
        rw [z104, pk_un e]
      · show Z 105 b = I 105 b
        rw [z105, pk_un e]
/-- what a gift leaves is in range -/
theorem bo_give {f g : Nat → Int32} {p : Nat} {v : Int32} (hp : p = 6 ∨ p = 7) (hf : bo_ok f) (hg : bo_ok g) (hv : 1 ≤ v ∧ v ≤ 99) (h1 : v ≤ f p) (h2 : g p + v ≤ (pm_tv 2).getD p 0) : bo_ok (upd f p (f p - v)) ∧ bo_ok (upd g p (g p + v)) := by
  obtain ⟨e, he, rfl⟩ := pm_ix (x := v) (N := 100) (Int32.le_trans (by decide) hv.1) hv.2 (by decide)
  have l0 : (pm_tv 1).getD p 0 = 0 := by rcases hp with rfl | rfl <;> rfl
  have m0 : ∃ M, M ≤ 999 ∧ (pm_tv 2).getD p 0 = nI M := by rcases hp with rfl | rfl; exact ⟨999, by decide, rfl⟩; exact ⟨99, by decide, rfl⟩
  obtain ⟨M, hM, eM⟩ := m0
  have hp9 : p < 9 := by omega
  have qf := hf p hp9
  have qg := hg p hp9
  rw [l0, eM] at qf qg
  rw [eM] at h2
  have l3 : (nI M).toInt < ((M + 1 : Nat) : Int) := by rw [nI_toInt (by omega)]; omega
  obtain ⟨a, ha, ea⟩ := pm_ix (x := f p) (N := M + 1) qf.1 qf.2 l3
  obtain ⟨c, hc, ec⟩ := pm_ix (x := g p) (N := M + 1) qg.1 qg.2 l3
  rw [ea] at h1 ⊢
  rw [ec] at h2 ⊢
  have k1 := (nI_leI (by omega) (by omega)).mp h1
  rw [nI_add] at h2 ⊢
  have k2 := (nI_leI (by omega) (by omega)).mp h2
  rw [nI_subN k1]
  refine ⟨bo_u hf ?_, bo_u hg ?_⟩
  · rw [l0, eM]
    exact ⟨nI_pos' (by omega), nI_le (by omega) (by omega)⟩
  · rw [l0, eM]
    exact ⟨nI_pos' (by omega), nI_le (by omega) (by omega)⟩
theorem RL_give {I I3 : pm_I} {J : pm_J} {n t i j p : Nat} {v : Int32} (h : RL_ I I J n t) (hi : i < n) (hj : j < n) (hij : i ≠ j) (hp : p = 6 ∨ p = 7) (hv : 1 ≤ v ∧ v ≤ 99) (hc : bl_can (bl_L I) i j p n v) (hW : mo_W (pm_u (pm_u I (5 + 2 * i) p (I (5 + 2 * i) p - v)) (5 + 2 * j) p (I (5 + 2 * j) p + v)) 0 t n (mo_B1 (mo_B1 (bl_L I) i p (bl_L I i p - v)) j p (bl_L I j p + v)) I3) : Rel I3 I3 J := by
  have h6 := h.1.1
  have hB := h.1.2.2.2.2.2.2.2.2.2.2.2
  obtain ⟨g1, g2⟩ := bo_give hp (hB i hi).1 (hB j hj).1 hv hc.2.1 hc.2.2
  refine ⟨n, t, RL_W h h.1.2.1 (fun a a1 a2 a3 => by rw [pm_u_off (a3 j hj), pm_u_off (a3 i hi)]) (fun q hq => by rw [pm_u_off (by omega), pm_u_off (by omega)]) (by rw [pm_u_off (by omega), pm_u_off (by omega)]; exact h.1.2.2.2.1) (fun a ha => by rw [pm_u_off (by omega), pm_u_off (by omega)]) (fun c hc => ?_) hW⟩
  by_cases e : c = j
  · subst e
    rw [pm_u_at, pm_u_off (by omega), mo_B1_at, show mo_B1 (bl_L I) i p (bl_L I i p - v) c = bl_L I c from if_neg (fun q => hij q.symm)]
    exact ⟨g2, fun q hq => rfl⟩
  · rw [pm_u_off (by omega), show mo_B1 (mo_B1 (bl_L I) i p (bl_L I i p - v)) j p (bl_L I j p + v) c = mo_B1 (bl_L I) i p (bl_L I i p - v) c from if_neg e]
    by_cases e2 : c = i
    · subst e2
      rw [pm_u_at, mo_B1_at]
      exact ⟨g1, fun q hq => rfl⟩
    · rw [pm_u_off (by omega), show mo_B1 (bl_L I) i p (bl_L I i p - v) c = bl_L I c from if_neg e2]
      exact ⟨(hB c hc).1, fun q hq => rfl⟩
set_option maxHeartbeats 4000000 in
theorem two_balloon {I : pm_I} {J : pm_J} (hI : Rel I I J) {k a c : Int32} : two_ yX7_balloon cX7_balloon 4 yX8_balloon cX8_balloon 5 [.int k, .int a, .int c] I J := by
  obtain ⟨n, t, hL⟩ := hI
  have hI : Rel I I J := ⟨n, t, hL⟩
  obtain ⟨hA, hK, hP, hRW, hS, hH, hX⟩ := id hL
  obtain ⟨h6, ht, hn, hnow, hn8, hnow8, hgap8, hz8, hat, hcol, hw8, hB⟩ := id hA
  obtain ⟨hF, hW, hok⟩ := RA_m hA (Im2 := I) (fun _ _ => rfl)
  have hn2 : I 102 2 = I 1 2 := hn8.trans hn.symm
  have hc := c_X7_balloon (d := 8) (J := J) (k := k) (a := a) (c := c) hn h6
  by_cases q : (0 ≤ k ∧ k ≤ 5) ∧ (0 ≤ a ∧ a ≤ 9) ∧ 0 ≤ c ∧ c ≤ 5
  · by_cases e : n = 6
    · rw [if_pos q, if_pos e, if_neg (fun z => z.2 e)] at hc
      have hm := c_X8_balloon (d := 9) (J := J) (k := k) (a := a) (c := c) hn8 h6 hat
      rw [if_pos q, if_pos e, if_neg (fun z => z.2 e)] at hm
      exact two_d hc hm rfl hI
    · have q2 : ((0 ≤ k ∧ k ≤ 5) ∧ (0 ≤ a ∧ a ≤ 9) ∧ 0 ≤ c ∧ c ≤ 5) ∧ n ≠ 6 := ⟨q, e⟩
      rw [if_pos q, if_neg e, if_pos q2] at hc
      have e102 : pm_u (pm_s I (5 + 2 * n) (bl_first (I (5 + 2 * n)) k a c)) 1 2 (nI (n + 1)) 102 = I 102 := by rw [pm_u_off (by decide), pm_s_off _ _ _ _ (by omega)]
      have hm := c_X8_balloon (d := 9) (I := pm_u (pm_s I (5 + 2 * n) (bl_first (I (5 + 2 * n)) k a c)) 1 2 (nI (n + 1))) (J := J) (k := k) (a := a) (c := c) (n := n) (by rw [e102]; exact hn8) h6 (by rw [e102]; exact hat)
      rw [if_pos q, if_neg e, if_pos q2] at hm
      exact two_d hc hm rfl (RL_new hL (by omega) q.1 q.2.1 q.2.2)
  · rw [if_neg q, if_neg (fun z => q z.1)] at hc
    have hm := c_X8_balloon (d := 9) (J := J) (k := k) (a := a) (c := c) hn8 h6 hat
    rw [if_neg q, if_neg (fun z => q z.1)] at hm
    exact two_d hc hm rfl hI

set_option maxHeartbeats 4000000 in
theorem two_give {I : pm_I} {J : pm_J} (hI : Rel I I J) {x y w v : Int32} : two_ yX7_give cX7_give 6 yX8_give cX8_give 6 [.int x, .int y, .int w, .int v] I J := by
  obtain ⟨n, t, hL⟩ := hI
  have hI : Rel I I J := ⟨n, t, hL⟩
  obtain ⟨hA, hK, hP, hRW, hS, hH, hX⟩ := id hL
  obtain ⟨h6, ht, hn, hnow, hn8, hnow8, hgap8, hz8, hat, hcol, hw8, hB⟩ := id hA
  obtain ⟨hF, hW, hok⟩ := RA_m hA (Im2 := I) (fun _ _ => rfl)
  have hn2 : I 102 2 = I 1 2 := hn8.trans hn.symm
  by_cases q0 : ((0 ≤ x ∧ x ≤ I 1 2 - 1) ∧ (0 ≤ y ∧ y ≤ I 1 2 - 1) ∧ ¬ x = y) ∧ (0 ≤ w ∧ w ≤ 1) ∧ 1 ≤ v ∧ v ≤ 99
  · have q := q0.1.1
    obtain ⟨i, hi, rfl⟩ := pm_hasN (x := x) (n := n) (by omega) (by rw [← hn]; exact q)
    obtain ⟨j, hj, rfl⟩ := pm_hasN (x := y) (n := n) (by omega) (by rw [← hn]; exact q0.1.2.1)
    have hij : i ≠ j := fun z => q0.1.2.2 (by rw [z])
    obtain ⟨k, hk, rfl⟩ := pm_ix (x := w) (N := 2) q0.2.1.1 q0.2.1.2 (by decide)
    rcases (show k = 0 ∨ k = 1 by omega) with rfl | rfl
    · rw [show nI 0 = (0 : Int32) from rfl] at q0 ⊢
      have hc := c_X7_give (d := 6) (J := J) (x := nI i) (y := nI j) (w := 0) (v := v) hn h6
      rw [if_pos q0, nI_clamp (show i < 2 ^ 31 by omega), nI_clamp (show j < 2 ^ 31 by omega), show (if (0 : Int32) = 0 then 6 else 7 : Nat) = 6 from rfl] at hc
      by_cases qc : bl_can (bl_L I) i j 6 n v
      · rw [if_pos qc, if_pos ⟨q0, qc⟩] at hc
        have h2 : ∀ a, 102 ≤ a → (pm_u (pm_u I (5 + 2 * i) 6 (I (5 + 2 * i) 6 - v)) (5 + 2 * j) 6 (I (5 + 2 * j) 6 + v)) a = I a := fun a ha => by rw [pm_u_off (by omega), pm_u_off (by omega)]
        refine two_r (ρ := I (5 + 2 * j) 6 + v) (Pc := fun I2 => I2 = (pm_u (pm_u I (5 + 2 * i) 6 (I (5 + 2 * i) 6 - v)) (5 + 2 * j) 6 (I (5 + 2 * j) 6 + v))) (Pm := fun _ => True) (pm_post hc (fun r sh2 I2 J2 z => ⟨z.1, z.2.1, z.2.2.2, z.2.2.1⟩)) (fun I2 e2 => ?_)
        subst e2
        refine ⟨_, c_X8_give0 (d := 6) (J := J) (RA_m hA h2).1 ht (RA_m hA h2).2.2 (RA_m hA h2).2.1 hi hj hij q0.2.2, fun r sh3 I3 J3 z => ⟨?_, z.2.1, ?_⟩⟩
        · rw [z.1, if_pos qc]
        · rw [z.2.2.1]
          exact RL_give hL hi hj hij (by decide) q0.2.2 qc (z.2.2.2.1 qc)
      · rw [if_neg qc, if_neg (fun z => qc z.2)] at hc
        refine two_r (ρ := -4) (Pc := fun I2 => I2 = I) (Pm := fun _ => True) (pm_post hc (fun r sh2 I2 J2 z => ⟨z.1, z.2.1, z.2.2.2, z.2.2.1⟩)) (fun I2 e2 => ?_)
        subst e2
        refine ⟨_, c_X8_give0 (d := 6) (J := J) hF ht hok hW hi hj hij q0.2.2, fun r sh3 I3 J3 z => ⟨?_, z.2.1, ?_⟩⟩
        · rw [z.1, if_neg qc]
        · rw [z.2.2.1, z.2.2.2.2 qc]
          exact hI
    · rw [show nI 1 = (1 : Int32) from rfl] at q0 ⊢
      have hc := c_X7_give (d := 6) (J := J) (x := nI i) (y := nI j) (w := 1) (v := v) hn h6
      rw [if_pos q0, nI_clamp (show i < 2 ^ 31 by omega), nI_clamp (show j < 2 ^ 31 by omega), show (if (1 : Int32) = 0 then 6 else 7 : Nat) = 7 from rfl] at hc
      by_cases qc : bl_can (bl_L I) i j 7 n v
      · rw [if_pos qc, if_pos ⟨q0, qc⟩] at hc
        have h2 : ∀ a, 102 ≤ a → (pm_u (pm_u I (5 + 2 * i) 7 (I (5 + 2 * i) 7 - v)) (5 + 2 * j) 7 (I (5 + 2 * j) 7 + v)) a = I a := fun a ha => by rw [pm_u_off (by omega), pm_u_off (by omega)]
        refine two_r (ρ := I (5 + 2 * j) 7 + v) (Pc := fun I2 => I2 = (pm_u (pm_u I (5 + 2 * i) 7 (I (5 + 2 * i) 7 - v)) (5 + 2 * j) 7 (I (5 + 2 * j) 7 + v))) (Pm := fun _ => True) (pm_post hc (fun r sh2 I2 J2 z => ⟨z.1, z.2.1, z.2.2.2, z.2.2.1⟩)) (fun I2 e2 => ?_)
        subst e2
        refine ⟨_, c_X8_give1 (d := 6) (J := J) (RA_m hA h2).1 ht (RA_m hA h2).2.2 (RA_m hA h2).2.1 hi hj hij q0.2.2, fun r sh3 I3 J3 z => ⟨?_, z.2.1, ?_⟩⟩
        · rw [z.1, if_pos qc]
        · rw [z.2.2.1]
          exact RL_give hL hi hj hij (by decide) q0.2.2 qc (z.2.2.2.1 qc)
      · rw [if_neg qc, if_neg (fun z => qc z.2)] at hc
        refine two_r (ρ := -4) (Pc := fun I2 => I2 = I) (Pm := fun _ => True) (pm_post hc (fun r sh2 I2 J2 z => ⟨z.1, z.2.1, z.2.2.2, z.2.2.1⟩)) (fun I2 e2 => ?_)
        subst e2
        refine ⟨_, c_X8_give1 (d := 6) (J := J) hF ht hok hW hi hj hij q0.2.2, fun r sh3 I3 J3 z => ⟨?_, z.2.1, ?_⟩⟩
        · rw [z.1, if_neg qc]
        · rw [z.2.2.1, z.2.2.2.2 qc]
          exact hI
  · have hc := c_X7_give (d := 6) (J := J) (x := x) (y := y) (w := w) (v := v) hn h6
    rw [if_neg q0, if_neg (fun z => q0 z.1)] at hc
    exact two_q hI hc (c_X8_giveX (by rw [hn2]; exact q0)) rfl
