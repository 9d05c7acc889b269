/-! Trials on both sides -/
theorem RL_c2 {Ic Im Ic2 Im2 : pm_I} {Jm Jm2 : pm_J} {n t : Nat} (h : RL_ Ic Im Jm n t) (hc : ∀ a, a < 48 ∨ (65 ≤ a ∧ a < 102) → Ic2 a = Ic a) (hm : ∀ a, 103 ≤ a → a ≠ 106 → a ≠ 113 → Im2 a = Im a) (h2 : ∀ p, p ≠ 26 → Im2 102 p = Im 102 p) (h6 : ∀ k, k < 43 → Im2 106 k = Im 106 k) (hj : Jm2 = Jm) : RL_ Ic2 Im2 Jm2 n t := by
  obtain ⟨a1, a2, a3, a4, a5, a6, a7⟩ := h
  refine ⟨RA_c a1 (hc 1 (by decide)) (hc 2 (by decide)) (fun b hb => hc _ (by omega)) (fun p _ => h2 p (by omega)) (hm 103 (by decide) (by decide) (by decide)) (hm 104 (by decide) (by decide) (by decide)) (hm 105 (by decide) (by decide) (by decide)) h6, RK_c a2 (by rw [hc 0 (by decide)]) (fun a h1 h2 => hc a (by omega)) (h2 39 (by decide)) (hm 121 (by decide) (by decide) (by decide)), RP_c a3 (by rw [hc 46 (by decide)]) (hc 47 (by decide)) (h2 10 (by decide)) (hm 107 (by decide) (by decide) (by decide)), RW_c a4 (by rw [hc 0 (by decide)]) (fun i hi => hc _ (by omega)) (h2 25 (by decide)) (hm 112 (by decide) (by decide) (by decide)), RS_c a5 (fun a h1 h2 => hc a (by omega)) (hm 114 (by decide) (by decide) (by decide)) (hm 115 (by decide) (by decide) (by decide)) (by rw [hj]), RH_c a6 (fun s hs => hc _ (by omega)) (hm 117 (by decide) (by decide) (by decide)) (hm 118 (by decide) (by decide) (by decide)) (hm 119 (by decide) (by decide) (by decide)), RX_c a7 (by rw [hc 88 (by decide)]) (hc 89 (by decide)) (h2 37 (by decide)) (hm 120 (by decide) (by decide) (by decide))⟩
set_option maxHeartbeats 4000000 in
theorem two_height {I : pm_I} {J : pm_J} (hI : Rel I I J) {x y : Int32} : two_ yX7_height cX7_height 3 yX8_height cX8_height 4 [.int x, .int y] I J := by
  obtain ⟨n, t, hL⟩ := hI
  have hI : Rel I I J := ⟨n, t, hL⟩
  obtain ⟨hA, hK, hP, hRW, hS, hH, hX⟩ := id hL
  obtain ⟨h6, ht, hn, hnow, hn8, hnow8, hgap8, hz8, hat, hcol, hw8, hB⟩ := id hA
  obtain ⟨hF, hW, hok⟩ := RA_m hA (Im2 := I) (fun _ _ => rfl)
  have hn2 : I 102 2 = I 1 2 := hn8.trans hn.symm
  by_cases q0 : (0 ≤ x ∧ x ≤ I 1 2 - 1) ∧ 0 ≤ y ∧ y ≤ 48
  · have q := q0.1
    obtain ⟨b, hb, rfl⟩ := pm_hasN (x := x) (n := n) (by omega) (by rw [← hn]; exact q)
    obtain ⟨h, hh, rfl⟩ := pm_ix (x := y) (N := 49) q0.2.1 q0.2.2 (by decide)
    exact two_t hL (c_X7_height hn h6 hnow ht hb (by omega)) (fun I2 h2 => c_X8_height (RA_m hA h2).1 ht (RA_m hA h2).2.2 (RA_m hA h2).2.1 hb (by omega)) rfl
  · exact two_t0 hI (c_X7_height0 q0) (fun I2 h2 => c_X8_height0 (by rw [h2 102 (by decide), hn2]; exact q0)) rfl

set_option maxHeartbeats 4000000 in
theorem two_clear {I : pm_I} {J : pm_J} (hI : Rel I I J) {x y : Int32} : two_ yX7_clear cX7_clear 3 yX8_clear cX8_clear 3 [.int x, .int y] I J := by
  obtain ⟨n, t, hL⟩ := hI
  have hI : Rel I I J := ⟨n, t, hL⟩
  obtain ⟨hA, hK, hP, hRW, hS, hH, hX⟩ := id hL
  obtain ⟨h6, ht, hn, hnow, hn8, hnow8, hgap8, hz8, hat, hcol, hw8, hB⟩ := id hA
  obtain ⟨hF, hW, hok⟩ := RA_m hA (Im2 := I) (fun _ _ => rfl)
  have hn2 : I 102 2 = I 1 2 := hn8.trans hn.symm
  by_cases q0 : (0 ≤ x ∧ x ≤ I 1 2 - 1) ∧ 0 ≤ y ∧ y ≤ 48
  · have q := q0.1
    obtain ⟨b, hb, rfl⟩ := pm_hasN (x := x) (n := n) (by omega) (by rw [← hn]; exact q)
    obtain ⟨h, hh, rfl⟩ := pm_ix (x := y) (N := 49) q0.2.1 q0.2.2 (by decide)
    exact two_t hL (c_X7_clear hn h6 hnow ht hb (by omega)) (fun I2 h2 => c_X8_clear (RA_m hA h2).1 ht (RA_m hA h2).2.2 (RA_m hA h2).2.1 hb (by omega)) rfl
  · exact two_t0 hI (c_X7_clear0 q0) (fun I2 h2 => c_X8_clear0 (by rw [h2 102 (by decide), hn2]; exact q0)) rfl

set_option maxHeartbeats 4000000 in
theorem two_leastSand {I : pm_I} {J : pm_J} (hI : Rel I I J) {x y : Int32} : two_ yX7_leastSand cX7_leastSand 5 yX8_leastSand cX8_leastSand 5 [.int x, .int y] I J := by
  obtain ⟨n, t, hL⟩ := hI
  have hI : Rel I I J := ⟨n, t, hL⟩
  obtain ⟨hA, hK, hP, hRW, hS, hH, hX⟩ := id hL
  obtain ⟨h6, ht, hn, hnow, hn8, hnow8, hgap8, hz8, hat, hcol, hw8, hB⟩ := id hA
  obtain ⟨hF, hW, hok⟩ := RA_m hA (Im2 := I) (fun _ _ => rfl)
  have hn2 : I 102 2 = I 1 2 := hn8.trans hn.symm
  by_cases q0 : (0 ≤ x ∧ x ≤ I 1 2 - 1) ∧ 0 ≤ y ∧ y ≤ 24
  · have q := q0.1
    obtain ⟨b, hb, rfl⟩ := pm_hasN (x := x) (n := n) (by omega) (by rw [← hn]; exact q)
    obtain ⟨h, hh, rfl⟩ := pm_ix (x := y) (N := 25) q0.2.1 q0.2.2 (by decide)
    have hs := (bo_in (hB b hb).1).2.2.2.2.2.2.1
    obtain ⟨S, hS9, eS⟩ := pm_ix (x := bl_L I b 6) (N := 1000) hs.1 hs.2 (by decide)
    exact two_t hL (c_X7_leastSand hn h6 hnow ht hb (by omega) eS (by omega)) (fun I2 h2 => c_X8_leastSand (RA_m hA h2).1 ht (RA_m hA h2).2.2 (RA_m hA h2).2.1 hb (by omega) eS (by omega)) rfl
  · exact two_t0 hI (c_X7_leastSand0 q0) (fun I2 h2 => c_X8_leastSand0 (by rw [h2 102 (by decide), hn2]; exact q0)) rfl

set_option maxHeartbeats 4000000 in
theorem two_ropeFor {I : pm_I} {J : pm_J} (hI : Rel I I J) {x y : Int32} : two_ yX7_ropeFor cX7_ropeFor 4 yX8_ropeFor cX8_ropeFor 4 [.int x, .int y] I J := by
  obtain ⟨n, t, hL⟩ := hI
  have hI : Rel I I J := ⟨n, t, hL⟩
  obtain ⟨hA, hK, hP, hRW, hS, hH, hX⟩ := id hL
  obtain ⟨h6, ht, hn, hnow, hn8, hnow8, hgap8, hz8, hat, hcol, hw8, hB⟩ := id hA
  obtain ⟨hF, hW, hok⟩ := RA_m hA (Im2 := I) (fun _ _ => rfl)
  have hn2 : I 102 2 = I 1 2 := hn8.trans hn.symm
  by_cases q0 : (0 ≤ x ∧ x ≤ I 1 2 - 1) ∧ 0 ≤ y ∧ y ≤ 24
  · have q := q0.1
    obtain ⟨b, hb, rfl⟩ := pm_hasN (x := x) (n := n) (by omega) (by rw [← hn]; exact q)
    obtain ⟨h, hh, rfl⟩ := pm_ix (x := y) (N := 25) q0.2.1 q0.2.2 (by decide)
    exact two_t hL (c_X7_ropeFor hn h6 hnow ht hb (by omega)) (fun I2 h2 => c_X8_ropeFor (RA_m hA h2).1 ht (RA_m hA h2).2.2 (RA_m hA h2).2.1 hb (by omega)) rfl
  · exact two_t0 hI (c_X7_ropeFor0 q0) (fun I2 h2 => c_X8_ropeFor0 (by rw [h2 102 (by decide), hn2]; exact q0)) rfl

set_option maxHeartbeats 4000000 in
theorem two_columnFor {I : pm_I} {J : pm_J} (hI : Rel I I J) {x y : Int32} : two_ yX7_columnFor cX7_columnFor 4 yX8_columnFor cX8_columnFor 4 [.int x, .int y] I J := by
  obtain ⟨n, t, hL⟩ := hI
  have hI : Rel I I J := ⟨n, t, hL⟩
  obtain ⟨hA, hK, hP, hRW, hS, hH, hX⟩ := id hL
  obtain ⟨h6, ht, hn, hnow, hn8, hnow8, hgap8, hz8, hat, hcol, hw8, hB⟩ := id hA
  obtain ⟨hF, hW, hok⟩ := RA_m hA (Im2 := I) (fun _ _ => rfl)
  have hn2 : I 102 2 = I 1 2 := hn8.trans hn.symm
  by_cases q0 : (0 ≤ x ∧ x ≤ I 1 2 - 1) ∧ 0 ≤ y ∧ y ≤ 24
  · have q := q0.1
    obtain ⟨b, hb, rfl⟩ := pm_hasN (x := x) (n := n) (by omega) (by rw [← hn]; exact q)
    obtain ⟨h, hh, rfl⟩ := pm_ix (x := y) (N := 25) q0.2.1 q0.2.2 (by decide)
    exact two_t hL (c_X7_columnFor hn h6 hnow ht hb (by omega)) (fun I2 h2 => c_X8_columnFor (RA_m hA h2).1 ht (RA_m hA h2).2.2 (RA_m hA h2).2.1 hb (by omega)) rfl
  · exact two_t0 hI (c_X7_columnFor0 q0) (fun I2 h2 => c_X8_columnFor0 (by rw [h2 102 (by decide), hn2]; exact q0)) rfl

set_option maxHeartbeats 4000000 in
theorem two_highest {I : pm_I} {J : pm_J} (hI : Rel I I J) {x : Int32} : two_ yX7_highest cX7_highest 4 yX8_highest cX8_highest 4 [.int x] I J := by
  obtain ⟨n, t, hL⟩ := hI
  have hI : Rel I I J := ⟨n, t, hL⟩
  obtain ⟨hA, hK, hP, hRW, hS, hH, hX⟩ := id hL
  obtain ⟨h6, ht, hn, hnow, hn8, hnow8, hgap8, hz8, hat, hcol, hw8, hB⟩ := id hA
  obtain ⟨hF, hW, hok⟩ := RA_m hA (Im2 := I) (fun _ _ => rfl)
  have hn2 : I 102 2 = I 1 2 := hn8.trans hn.symm
  by_cases q : 0 ≤ x ∧ x ≤ 48
  · obtain ⟨h, hh, rfl⟩ := pm_ix (x := x) (N := 49) (Int32.le_trans (by decide) q.1) q.2 (by decide)
    exact two_t hL (c_X7_highest hn h6 hnow ht (by omega)) (fun I2 h2 => c_X8_highest (RA_m hA h2).1 ht (RA_m hA h2).2.2 (RA_m hA h2).2.1 (by omega)) rfl
  · exact two_t0 hI (c_X7_highest0 q) (fun I2 h2 => c_X8_highest0 q) rfl

set_option maxHeartbeats 4000000 in
theorem two_help {I : pm_I} {J : pm_J} (hI : Rel I I J) {x : Int32} : two_ yX7_help cX7_help 7 yX8_help cX8_help 8 [.int x] I J := by
  obtain ⟨n, t, hL⟩ := hI
  have hI : Rel I I J := ⟨n, t, hL⟩
  obtain ⟨hA, hK, hP, hRW, hS, hH, hX⟩ := id hL
  obtain ⟨h6, ht, hn, hnow, hn8, hnow8, hgap8, hz8, hat, hcol, hw8, hB⟩ := id hA
  obtain ⟨hF, hW, hok⟩ := RA_m hA (Im2 := I) (fun _ _ => rfl)
  have hn2 : I 102 2 = I 1 2 := hn8.trans hn.symm
  by_cases q : 1 ≤ x ∧ x ≤ 24
  · obtain ⟨h, hh, rfl⟩ := pm_ix (x := x) (N := 25) (Int32.le_trans (by decide) q.1) q.2 (by decide)
    have h1 : 1 ≤ h := (nI_leI (a := 1) (b := h) (by decide) (by omega)).mp q.1
    exact two_t hL (c_X7_help hn h6 hnow ht h1 (by omega)) (fun I2 h2 => c_X8_help (RA_m hA h2).1 ht (RA_m hA h2).2.2 (RA_m hA h2).2.1 h1 (by omega)) (congrArg Prod.fst (hp_lin_36 (P := hp_P I n) h6 (fun i j => Iff.rfl)))
  · exact two_t0 hI (c_X7_help0 q) (fun I2 h2 => c_X8_help0 q) rfl

set_option maxHeartbeats 4000000 in
theorem two_first {I : pm_I} {J : pm_J} (hI : Rel I I J) {x : Int32} : two_ yX7_first cX7_first 4 yX8_first cX8_first 4 [.int x] I J := by
  obtain ⟨n, t, hL⟩ := hI
  have hI : Rel I I J := ⟨n, t, hL⟩
  obtain ⟨hA, hK, hP, hRW, hS, hH, hX⟩ := id hL
  obtain ⟨h6, ht, hn, hnow, hn8, hnow8, hgap8, hz8, hat, hcol, hw8, hB⟩ := id hA
  obtain ⟨hF, hW, hok⟩ := RA_m hA (Im2 := I) (fun _ _ => rfl)
  have hn2 : I 102 2 = I 1 2 := hn8.trans hn.symm
  by_cases q : 0 ≤ x ∧ x ≤ 1
  · exact two_t hL (c_X7_first hn h6 hnow ht q) (fun I2 h2 => c_X8_first (RA_m hA h2).1 ht (RA_m hA h2).2.2 (RA_m hA h2).2.1 q) rfl
  · exact two_t0 hI (c_X7_first0 q) (fun I2 h2 => c_X8_first0 q) rfl

set_option maxHeartbeats 4000000 in
theorem two_cold {I : pm_I} {J : pm_J} (hI : Rel I I J) : two_ yX7_cold cX7_cold 2 yX8_cold cX8_cold 3 [] I J := by
  obtain ⟨n, t, hL⟩ := hI
  have hI : Rel I I J := ⟨n, t, hL⟩
  obtain ⟨hA, hK, hP, hRW, hS, hH, hX⟩ := id hL
  obtain ⟨h6, ht, hn, hnow, hn8, hnow8, hgap8, hz8, hat, hcol, hw8, hB⟩ := id hA
  obtain ⟨hF, hW, hok⟩ := RA_m hA (Im2 := I) (fun _ _ => rfl)
  have hn2 : I 102 2 = I 1 2 := hn8.trans hn.symm
  exact two_t hL (c_X7_cold hn h6 hnow ht) (fun I2 h2 => c_X8_cold (RA_m hA h2).1 ht (RA_m hA h2).2.2 (RA_m hA h2).2.1) rfl

set_option maxHeartbeats 4000000 in
theorem two_judge {I : pm_I} {J : pm_J} (hI : Rel I I J) {x : Int32} : two_ yX7_judge cX7_judge 3 yX8_judge cX8_judge 5 [.int x] I J := by
  obtain ⟨n, t, hL⟩ := hI
  have hI : Rel I I J := ⟨n, t, hL⟩
  obtain ⟨hA, hK, hP, hRW, hS, hH, hX⟩ := id hL
  obtain ⟨h6, ht, hn, hnow, hn8, hnow8, hgap8, hz8, hat, hcol, hw8, hB⟩ := id hA
  obtain ⟨hF, hW, hok⟩ := RA_m hA (Im2 := I) (fun _ _ => rfl)
  have hn2 : I 102 2 = I 1 2 := hn8.trans hn.symm
  by_cases q : 0 ≤ x ∧ x ≤ I 1 2 - 1
  · obtain ⟨b, hb, rfl⟩ := pm_hasN (x := x) (n := n) (by omega) (by rw [← hn]; exact q)
    obtain ⟨r, r1, r2, r3, r4⟩ := id hRW
    refine ⟨_, _, fun I2 => tr_off I I2, c_X7_judge (J := J) hn h6 hnow ht hb r2 r1, fun r sh2 I2 J2 h => h, fun I2 h2 => ?_⟩
    have h2m : ∀ a, 102 ≤ a → I2 a = I a := fun a ha => h2 a (by omega)
    refine ⟨_, c_X8_judge (J := J) (RA_m hA h2m).1 ht (RA_m hA h2m).2.2 (RA_m hA h2m).2.1 hb (rc := r) (by rw [h2m 102 (by decide)]; exact r3) r1, fun r9 sh3 I3 J3 h => ?_⟩
    obtain ⟨e1, e2, e3, f1, f2, f3, f4, f5⟩ := h
    refine ⟨?_, e2, n, t, RL_c2 hL (fun a ha => ?_) (fun a a1 a2 a3 => ?_) (fun p hp => ?_) (fun k hk => ?_) e3⟩
    · rw [e1]
      congr 2
      refine tr_sr_congr (fun i hi => or_congr Iff.rfl (not_congr ?_)) (fun _ _ _ => rfl) r (Nat.le_refl _)
      rw [mo_jok_iff, pr_ok_iff]
      refine forall_congr' (fun v => imp_congr_right (fun hv => ?_))
      rw [h2m 112 (by decide), r4 i hi v hv]
      exact Iff.rfl
    · rw [f1 a (by omega) (by omega) (by omega), h2 a (by omega)]
    · rw [f1 a (by omega) a2 a3, h2m a (by omega)]
    · rw [f2 p hp, h2m 102 (by decide)]
    · rw [f3 k hk, h2m 106 (by decide)]
  · exact two_t0 hI (c_X7_judge0 q) (fun I2 h2 => c_X8_judge0 (by rw [h2 102 (by decide), hn2]; exact q)) rfl
