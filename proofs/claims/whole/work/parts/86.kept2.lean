/-! What is kept, on both sides -/
/-- a town copied: t to where the town row is, s from where -/
def cp_K (I : pm_I) (n : Nat) : pm_I := pm_u (pm_u (pm_u (pm_u (pm_u (bl_cps (pm_s I 17 (bl_cp (I 17) (I 2) 24)) 5 20 n) 16 2 (nI n)) 16 3 (I 1 3)) 16 4 (I 1 4)) 16 5 (I 1 5)) 0 2 1
def cp_A (I : pm_I) (n : Nat) : pm_I := pm_u (pm_u (pm_u (pm_u (bl_cps (pm_s I 2 (bl_cp (I 2) (I 17) 24)) 20 5 n) 1 2 (nI n)) 1 3 (I 16 3)) 1 4 (I 16 4)) 1 5 (I 16 5)
theorem cp_K_in {I : pm_I} {n : Nat} (h6 : n ≤ 6) : (cp_K I n 0 2 = 1 ∧ ∀ p, p ≠ 2 → cp_K I n 0 p = I 0 p) ∧ (cp_K I n 16 2 = nI n ∧ cp_K I n 16 3 = I 1 3 ∧ cp_K I n 16 4 = I 1 4 ∧ cp_K I n 16 5 = I 1 5) ∧ (∀ h, h < 24 → cp_K I n 17 h = I 2 h) ∧ (∀ b, b < n → ∀ p, p < 9 → cp_K I n (20 + 2 * b) p = I (5 + 2 * b) p) ∧ ∀ a, a ≠ 0 → a < 16 ∨ 30 < a → cp_K I n a = I a := by
  have o : ∀ a, a ≠ 0 → a < 16 ∨ 30 < a → cp_K I n a = I a := fun a h1 h2 => by
    unfold cp_K
    rw [pm_u_off h1, pm_u_off (by omega), pm_u_off (by omega), pm_u_off (by omega), pm_u_off (by omega), bl_cps_off (fun b hb => by omega), pm_s_off _ _ _ _ (by omega)]
  have e16 : ∀ p, cp_K I n 16 p = upd (upd (upd (upd (I 16) 2 (nI n)) 3 (I 1 3)) 4 (I 1 4)) 5 (I 1 5) p := fun p => by
    unfold cp_K
    rw [pm_u_off (by decide), pm_u_at, pm_u_at, pm_u_at, pm_u_at, bl_cps_off (fun b hb => by omega), pm_s_off _ _ _ _ (by decide)]
  refine ⟨⟨?_, fun p hp => ?_⟩, ⟨?_, ?_, ?_, ?_⟩, fun h hh => ?_, fun b hb p hp => ?_, o⟩
  · unfold cp_K
    rw [pm_u_at, pk_us]
  · unfold cp_K
    rw [pm_u_at, pk_un hp, pm_u_off (by decide), pm_u_off (by decide), pm_u_off (by decide), pm_u_off (by decide), bl_cps_off (fun b hb => by omega), pm_s_off _ _ _ _ (by decide)]
  · rw [e16, pk_un (by decide), pk_un (by decide), pk_un (by decide), pk_us]
  · rw [e16, pk_un (by decide), pk_un (by decide), pk_us]
  · rw [e16, pk_un (by decide), pk_us]
  · rw [e16, pk_us]
  · unfold cp_K
    rw [pm_u_off (by decide), pm_u_off (by decide), pm_u_off (by decide), pm_u_off (by decide), pm_u_off (by decide), bl_cps_off (fun b hb => by omega), pm_s_at, bl_cp_lt hh]
  · unfold cp_K
    rw [pm_u_off (by omega), pm_u_off (by omega), pm_u_off (by omega), pm_u_off (by omega), pm_u_off (by omega), bl_cps_at hb (fun i j hi hj => by omega), bl_cp_lt hp, pm_s_off _ _ _ _ (by omega)]
theorem cp_A_in {I : pm_I} {n : Nat} (h6 : n ≤ 6) : (cp_A I n 1 2 = nI n ∧ cp_A I n 1 3 = I 16 3 ∧ cp_A I n 1 4 = I 16 4 ∧ cp_A I n 1 5 = I 16 5) ∧ (∀ h, h < 24 → cp_A I n 2 h = I 17 h) ∧ (∀ b, b < n → ∀ p, p < 9 → cp_A I n (5 + 2 * b) p = I (20 + 2 * b) p) ∧ ∀ a, a = 0 ∨ 15 < a → cp_A I n a = I a := by
  have e1 : ∀ p, cp_A I n 1 p = upd (upd (upd (upd (I 1) 2 (nI n)) 3 (I 16 3)) 4 (I 16 4)) 5 (I 16 5) p := fun p => by
    unfold cp_A
    rw [pm_u_at, pm_u_at, pm_u_at, pm_u_at, bl_cps_off (fun b hb => by omega), pm_s_off _ _ _ _ (by decide)]
  refine ⟨⟨?_, ?_, ?_, ?_⟩, fun h hh => ?_, fun b hb p hp => ?_, fun a ha => ?_⟩
  · rw [e1, pk_un (by decide), pk_un (by decide), pk_un (by decide), pk_us]
  · rw [e1, pk_un (by decide), pk_un (by decide), pk_us]
  · rw [e1, pk_un (by decide), pk_us]
  · rw [e1, pk_us]
  · unfold cp_A
    rw [pm_u_off (by decide), pm_u_off (by decide), pm_u_off (by decide), pm_u_off (by decide), bl_cps_off (fun b hb => by omega), pm_s_at, bl_cp_lt hh]
  · unfold cp_A
    rw [pm_u_off (by omega), pm_u_off (by omega), pm_u_off (by omega), pm_u_off (by omega), bl_cps_at hb (fun i j hi hj => by omega), bl_cp_lt hp, pm_s_off _ _ _ _ (by omega)]
  · unfold cp_A
    rw [pm_u_off (by omega), pm_u_off (by omega), pm_u_off (by omega), pm_u_off (by omega), bl_cps_off (fun b hb => by omega), pm_s_off _ _ _ _ (by omega)]
theorem bo_c {f g : Nat → Int32} (h : bo_ok f) (e : ∀ p, p < 9 → g p = f p) : bo_ok g := fun p hp => by
  rw [e p hp]
  exact h p hp
theorem RL_keep {I I3 : pm_I} {J : pm_J} {n t : Nat} (h : RL_ I I J n t) (h2 : mv_kept (cp_K I n) I3) : Rel I3 I3 J := by
  obtain ⟨hA, hK, hP, hRW, hS, hH, hX⟩ := h
  have hA2 := hA
  obtain ⟨h6, ht, hn, hnow, hn8, hnow8, hgap8, hz8, hat, hcol, hw8, hB⟩ := hA2
  obtain ⟨⟨k1, k2⟩, ⟨k3, k4, k5, k6⟩, k7, k8, k9⟩ := cp_K_in (I := I) (n := n) h6
  obtain ⟨q1, q2, q3, ⟨q4, q5, q6⟩, q7, q8, q9, q10⟩ := h2
  have c1 : ∀ a, a ≠ 0 → a < 16 ∨ 30 < a → a ≠ 102 → a ≠ 121 → a ≠ 122 → I3 a = I a := fun a h1 h2 h3 h4 h5 => (q1 a h3 h4 h5).trans (k9 a h1 h2)
  have c0 : ∀ p, p ≠ 2 → I3 0 p = I 0 p := fun p hp => by rw [q1 0 (by decide) (by decide) (by decide), k2 p hp]
  have m2 : ∀ p, p ≠ 41 → p ≠ 39 → I3 102 p = I 102 p := fun p h1 h2 => (q2 p h1 h2).trans (by rw [k9 102 (by decide) (by decide)])
  have d : ∀ a, a ≠ 0 → a < 16 ∨ (30 < a ∧ a < 102) ∨ (103 ≤ a ∧ a < 121) → I3 a = I a := fun a h1 h2 => c1 a h1 (by omega) (by omega) (by omega) (by omega)
  have kI : ∀ a, 102 ≤ a → cp_K I n a = I a := fun a ha => k9 a (by omega) (by omega)
  refine ⟨n, t, RA_c hA (d 1 (by decide) (by decide)) (d 2 (by decide) (by decide)) (fun b hb => d _ (by omega) (by omega)) (fun p hp => m2 p (by omega) (by omega)) (d 103 (by decide) (by decide)) (d 104 (by decide) (by decide)) (d 105 (by decide) (by decide)) (fun k _ => by rw [d 106 (by decide) (by decide)]), ⟨?_, fun _ => ⟨n, t, h6, ht, ?_, ?_, ?_, ?_, ?_, ?_, fun x hx => ?_, fun b hb => ?_⟩⟩, RP_c hP (by rw [d 46 (by decide) (by decide)]) (d 47 (by decide) (by decide)) (m2 10 (by decide) (by decide)) (d 107 (by decide) (by decide)), RW_c hRW (c0 7 (by decide)) (fun i hi => d _ (by omega) (by omega)) (m2 25 (by decide) (by decide)) (d 112 (by decide) (by decide)), RS_c hS (fun a h1 h2 => d a (by omega) (by omega)) (d 114 (by decide) (by decide)) (d 115 (by decide) (by decide)) rfl, RH_c hH (fun s hs => d _ (by omega) (by omega)) (d 117 (by decide) (by decide)) (d 118 (by decide) (by decide)) (d 119 (by decide) (by decide)), RX_c hX (by rw [d 88 (by decide) (by decide)]) (d 89 (by decide) (by decide)) (m2 37 (by decide) (by decide)) (d 120 (by decide) (by decide))⟩
  · rw [q1 0 (by decide) (by decide) (by decide), k1, q3]
  · rw [q1 16 (by decide) (by decide) (by decide)]; exact k3
  · rw [q1 16 (by decide) (by decide) (by decide), k4]; exact hnow
  · rw [q4, kI 102 (by decide)]; exact hn8
  · rw [q10 0 (by decide), kI 106 (by decide)]; exact hnow8
  · rw [q5, kI 102 (by decide), q1 16 (by decide) (by decide) (by decide), k5]; exact hgap8
  · rw [q6, kI 102 (by decide), q1 16 (by decide) (by decide) (by decide), k6]; exact hz8
  · rw [q7 x hx, kI 103 (by decide), q1 17 (by decide) (by decide) (by decide), k7 x hx]; exact hw8 x hx
  · have hb6 := hB b hb
    have e20 : I3 (20 + 2 * b) = cp_K I n (20 + 2 * b) := q1 _ (by omega) (by omega) (by omega)
    rw [e20]
    refine ⟨bo_c hb6.1 (k8 b hb), ?_, ?_, fun p p2 p9 => ?_⟩
    · rw [q8 b (by omega), kI 104 (by decide), k8 b hb 0 (by decide)]; exact hb6.2 0 (by decide)
    · rw [q9 b (by omega), kI 105 (by decide), k8 b hb 1 (by decide)]; exact hb6.2 1 (by decide)
    · rw [q10 _ (by omega), kI 106 (by decide), k8 b hb p p9, ← hb6.2 p p9, md_p p2]
      congr 1
      omega
theorem RL_again {I I3 : pm_I} {J : pm_J} {n t n2 t2 : Nat} (h : RL_ I I J n t) (b1 : n2 ≤ 6) (b2 : t2 ≤ 96) (b3 : I 16 2 = nI n2) (b4 : I 16 3 = nI t2) (b5 : I 121 0 = nI n2) (b6 : I 121 39 = nI t2) (b7 : I 121 1 = I 16 4) (b8 : I 121 2 = I 16 5) (b9 : ∀ h, h < 24 → I 121 (3 + h) = I 17 h) (b10 : ∀ b, b < n2 → bo_ok (I (20 + 2 * b)) ∧ I 121 (27 + b) = I (20 + 2 * b) 0 ∧ I 121 (33 + b) = I (20 + 2 * b) 1 ∧ ∀ p, 2 ≤ p → p < 9 → I 121 (39 + (7 * b + (p - 1))) = I (20 + 2 * b) p) (h2 : mv_back (cp_A I n2) I3) : Rel I3 I3 J := by
  obtain ⟨hA, hK, hP, hRW, hS, hH, hX⟩ := h
  obtain ⟨-, -, -, -, -, -, -, -, hat, hcol, -, -⟩ := hA
  obtain ⟨⟨k3, k4, k5, k6⟩, k7, k8, k9⟩ := cp_A_in (I := I) (n := n2) b1
  obtain ⟨q1, q2, ⟨q4, q5, q6⟩, q7, q8, q9, q10⟩ := h2
  have d : ∀ a, a = 0 ∨ (15 < a ∧ a < 102) ∨ (107 ≤ a ∧ a < 122) → I3 a = I a := fun a h1 => (q1 a (by omega) (by omega) (by omega) (by omega) (by omega) (by omega)).trans (k9 a (by omega))
  have m2 : ∀ p, p ≠ 1 → p ≠ 2 → p ≠ 8 → p ≠ 41 → I3 102 p = I 102 p := fun p h1 h2 h3 h4 => (q2 p h1 h2 h3 h4).trans (by rw [k9 102 (by decide)])
  have e121 : cp_A I n2 121 = I 121 := k9 121 (by decide)
  have e1 : ∀ a, a < 16 → I3 a = cp_A I n2 a := fun a ha => q1 a (by omega) (by omega) (by omega) (by omega) (by omega) (by omega)
  rw [e121] at q4 q5 q6 q7 q8 q9 q10
  refine ⟨n2, t2, ⟨b1, b2, by rw [e1 1 (by decide)]; exact k3, by rw [e1 1 (by decide), k4]; exact b4, by rw [q4]; exact b5, by rw [q10 0 (by decide)]; exact b6, by rw [q5, e1 1 (by decide), k5]; exact b7, by rw [q6, e1 1 (by decide), k6]; exact b8, (m2 6 (by decide) (by decide) (by decide) (by decide)).trans hat, (m2 7 (by decide) (by decide) (by decide) (by decide)).trans hcol, fun x hx => by rw [q7 x hx, e1 2 (by decide), k7 x hx]; exact b9 x hx, fun b hb => ?_⟩, RK_c hK (by rw [d 0 (by decide)]) (fun a h1 h2 => d a (by omega)) (m2 39 (by decide) (by decide) (by decide) (by decide)) (d 121 (by decide)), RP_c hP (by rw [d 46 (by decide)]) (d 47 (by decide)) (m2 10 (by decide) (by decide) (by decide) (by decide)) (d 107 (by decide)), RW_c hRW (by rw [d 0 (by decide)]) (fun i hi => d _ (by omega)) (m2 25 (by decide) (by decide) (by decide) (by decide)) (d 112 (by decide)), RS_c hS (fun a h1 h2 => d a (by omega)) (d 114 (by decide)) (d 115 (by decide)) rfl, RH_c hH (fun s hs => d _ (by omega)) (d 117 (by decide)) (d 118 (by decide)) (d 119 (by decide)), RX_c hX (by rw [d 88 (by decide)]) (d 89 (by decide)) (m2 37 (by decide) (by decide) (by decide) (by decide)) (d 120 (by decide))⟩
  obtain ⟨f1, f2, f3, f4⟩ := b10 b hb
  rw [e1 (5 + 2 * b) (by omega)]
  refine ⟨bo_c f1 (k8 b hb), fun p hp => ?_⟩
  rw [k8 b hb p hp]
  by_cases p2 : 2 ≤ p
  · rw [md_p p2, show 0 + 7 * b + (p - 1) = 7 * b + (p - 1) by omega, q10 _ (by omega)]
    exact f4 p p2 hp
  · rcases (show p = 0 ∨ p = 1 by omega) with rfl | rfl
    · show I3 104 b = _
      rw [q8 b (by omega)]; exact f2
    · show I3 105 b = _
      rw [q9 b (by omega)]; exact f3
set_option maxHeartbeats 4000000 in
theorem two_keep {I : pm_I} {J : pm_J} (hI : Rel I I J) : two_ yX7_keep cX7_keep 1 yX8_keep cX8_keep 1 [] I J := by
  obtain ⟨n, t, hL⟩ := hI
  have hI : Rel I I J := ⟨n, t, hL⟩
  obtain ⟨hA, hK, hP, hRW, hS, hH, hX⟩ := id hL
  obtain ⟨h6, ht, hn, hnow, hn8, hnow8, hgap8, hz8, hat, hcol, hw8, hB⟩ := id hA
  obtain ⟨hF, hW, hok⟩ := RA_m hA (Im2 := I) (fun _ _ => rfl)
  have hn2 : I 102 2 = I 1 2 := hn8.trans hn.symm
  refine two_r (ρ := 1) (Pc := fun I2 => I2 = cp_K I n) (Pm := fun _ => True) (pm_post (c_X7_keep (d := 8) (J := J) hn h6) (fun r sh2 I2 J2 z => ⟨z.1, z.2.1, z.2.2.2, z.2.2.1⟩)) (fun I2 e2 => ?_)
  subst e2
  refine ⟨_, c_X8_keep (d := 9) (J := J), fun r sh3 I3 J3 z => ⟨z.1, z.2.1, ?_⟩⟩
  rw [z.2.2.1]
  exact RL_keep hL z.2.2.2

set_option maxHeartbeats 4000000 in
theorem two_again {I : pm_I} {J : pm_J} (hI : Rel I I J) : two_ yX7_again cX7_again 1 yX8_again cX8_again 1 [] I J := by
  obtain ⟨n, t, hL⟩ := hI
  have hI : Rel I I J := ⟨n, t, hL⟩
  obtain ⟨hA, hK, hP, hRW, hS, hH, hX⟩ := id hL
  obtain ⟨h6, ht, hn, hnow, hn8, hnow8, hgap8, hz8, hat, hcol, hw8, hB⟩ := id hA
  obtain ⟨hF, hW, hok⟩ := RA_m hA (Im2 := I) (fun _ _ => rfl)
  have hn2 : I 102 2 = I 1 2 := hn8.trans hn.symm
  by_cases q : I 0 2 = 0
  · exact two_q hI (c_X7_again0 (d := 8) q) (c_X8_again0 (d := 11) (by rw [← hK.1]; exact q)) rfl
  · obtain ⟨n2, t2, b1, b2, b3, b4, b5, b6, b7, b8, b9, b10⟩ := hK.2 q
    refine two_r (ρ := I 16 3) (Pc := fun I2 => I2 = cp_A I n2) (Pm := fun _ => True) (pm_post (c_X7_again1 (d := 8) (J := J) q b3 b1) (fun r sh2 I2 J2 z => ⟨z.1, z.2.1, z.2.2.2, z.2.2.1⟩)) (fun I2 e2 => ?_)
    subst e2
    have k9 := (cp_A_in (I := I) (n := n2) b1).2.2.2
    have hq : ¬ cp_A I n2 102 39 = 0 := by rw [k9 102 (by decide), ← hK.1]; exact q
    refine ⟨_, c_X8_again1 (d := 9) (J := J) hq, fun r sh3 I3 J3 z => ⟨?_, z.2.1, ?_⟩⟩
    · rw [z.1, k9 121 (by decide), b6, b4]
    · rw [z.2.2.1]
      exact RL_again hL b1 b2 b3 b4 b5 b6 b7 b8 b9 b10 z.2.2.2
