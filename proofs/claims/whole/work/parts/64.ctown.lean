/-! The class's town -/
theorem bl_cps_at {I : pm_I} {s t : Nat} : ∀ {k b : Nat}, b < k → (∀ i j, i < k → j < k → s + 2 * i ≠ t + 2 * j) → bl_cps I s t k (t + 2 * b) = bl_cp (I (t + 2 * b)) (I (s + 2 * b)) 9
  | 0, b, hb, _ => absurd hb (Nat.not_lt_zero b)
  | k + 1, b, hb, hd => by
    show pm_s _ _ _ _ = _
    by_cases e : b = k
    · subst e
      rw [pm_s_at, bl_cps_off (fun i hi => by omega), bl_cps_off (fun i hi => hd b i (by omega) (by omega))]
    · rw [pm_s_off _ _ _ _ (by omega), bl_cps_at (by omega) (fun i j hi hj => hd i j (by omega) (by omega))]
theorem bl_cp_lt {g f : Nat → Int32} {N p : Nat} (h : p < N) : bl_cp g f N p = f p := if_pos h
/-- what town leaves of the class, if its text is right: W holds what was told -/
def tw_told (I W : pm_I) (n : Nat) (I2 : pm_I) : Prop := (I2 1 2 = nI n ∧ I2 1 3 = W 31 3 ∧ I2 1 4 = W 31 4 ∧ I2 1 5 = I 1 5) ∧ (∀ h, h < 24 → I2 2 h = W 32 h) ∧ (∀ b, b < n → ∀ p, p < 9 → I2 (5 + 2 * b) p = W (35 + 2 * b) p) ∧ (I2 46 1 = 0 ∧ I2 0 7 = 0 ∧ I2 0 2 = I 0 2) ∧ ∀ a, (16 ≤ a ∧ a ≤ 30) ∨ 47 ≤ a → I2 a = I a
theorem tw_told_of {I W : pm_I} {z n : Nat} {st : cs_T} (h6 : n ≤ 6) (hW : ∀ a, a ≠ 31 → a ≠ 32 → (∀ b, b < 6 → a ≠ 35 + 2 * b) → W a = I a) :
    tw_told I W n (pm_u (pm_u (pm_u (pm_u (pm_u (bl_cps (pm_s (pm_u (pm_u (tps W z st) 46 1 0) 31 5 (pm_u (tps W z st) 46 1 0 1 5)) 2 (bl_cp (pm_u (pm_u (tps W z st) 46 1 0) 31 5 (pm_u (tps W z st) 46 1 0 1 5) 2) (pm_u (pm_u (tps W z st) 46 1 0) 31 5 (pm_u (tps W z st) 46 1 0 1 5) 32) 24)) 35 5 n) 1 2 (nI n)) 1 3 (pm_u (pm_u (tps W z st) 46 1 0) 31 5 (pm_u (tps W z st) 46 1 0 1 5) 31 3)) 1 4 (pm_u (pm_u (tps W z st) 46 1 0) 31 5 (pm_u (tps W z st) 46 1 0 1 5) 31 4)) 1 5 (pm_u (pm_u (tps W z st) 46 1 0) 31 5 (pm_u (tps W z st) 46 1 0 1 5) 31 5)) 0 7 0) := by
  have e15 : pm_u (tps W z st) 46 1 0 1 5 = I 1 5 := by rw [pm_u_off (by decide), tps_off (by decide), hW 1 (by decide) (by decide) (fun b hb => by omega)]
  rw [e15]
  generalize hX : pm_u (pm_u (tps W z st) 46 1 0) 31 5 (I 1 5) = X
  have x46 : X 46 1 = 0 := by rw [← hX, pm_u_off (by decide), pm_u_at, pk_us]
  have x31 : ∀ k, k ≠ 5 → X 31 k = W 31 k := fun k hk => by rw [← hX, pm_u_at, pk_un hk, pm_u_off (by decide), tps_off (by decide)]
  have x315 : X 31 5 = I 1 5 := by rw [← hX, pm_u_at, pk_us]
  have xo : ∀ a, a ≠ 31 → a ≠ 46 → X a = W a := fun a h1 h2 => by rw [← hX, pm_u_off h1, pm_u_off h2, tps_off h2]
  have hc : ∀ a, a ≠ 2 → (∀ b, b < 6 → a ≠ 5 + 2 * b) → bl_cps (pm_s X 2 (bl_cp (X 2) (X 32) 24)) 35 5 n a = X a := fun a h1 h2 => by
    rw [bl_cps_off (fun b hb => h2 b (by omega)), pm_s_off _ _ _ _ h1]
  refine ⟨⟨?_, ?_, ?_, ?_⟩, fun h hh => ?_, fun b hb p hp => ?_, ⟨?_, ?_, ?_⟩, fun a ha => ?_⟩
  · rw [pm_u_off (by decide), pm_u_at, pk_un (by decide), pm_u_at, pk_un (by decide), pm_u_at, pk_un (by decide), pm_u_at, pk_us]
  · rw [pm_u_off (by decide), pm_u_at, pk_un (by decide), pm_u_at, pk_un (by decide), pm_u_at, pk_us, x31 3 (by decide)]
  · rw [pm_u_off (by decide), pm_u_at, pk_un (by decide), pm_u_at, pk_us, x31 4 (by decide)]
  · rw [pm_u_off (by decide), pm_u_at, pk_us, x315]
  · rw [pm_u_off (by decide), pm_u_off (by decide), pm_u_off (by decide), pm_u_off (by decide), pm_u_off (by decide), bl_cps_off (fun b hb => by omega), pm_s_at, bl_cp_lt hh, xo 32 (by decide) (by decide)]
  · rw [pm_u_off (by omega), pm_u_off (by omega), pm_u_off (by omega), pm_u_off (by omega), pm_u_off (by omega), bl_cps_at hb (fun i j hi hj => by omega), bl_cp_lt hp, pm_s_off _ _ _ _ (by omega), xo (35 + 2 * b) (by omega) (by omega)]
  · rw [pm_u_off (by decide), pm_u_off (by decide), pm_u_off (by decide), pm_u_off (by decide), pm_u_off (by decide), hc 46 (by decide) (fun b hb => by omega), x46]
  · rw [pm_u_at, pk_us]
  · rw [pm_u_at, pk_un (by decide), pm_u_off (by decide), pm_u_off (by decide), pm_u_off (by decide), pm_u_off (by decide), hc 0 (by decide) (fun b hb => by omega), xo 0 (by decide) (by decide), hW 0 (by decide) (by decide) (fun b hb => by omega)]
  · rw [pm_u_off (by omega), pm_u_off (by omega), pm_u_off (by omega), pm_u_off (by omega), pm_u_off (by omega), hc a (by omega) (fun b hb => by omega), xo a (by omega) (by omega), hW a (by omega) (by omega) (fun b hb => by omega)]
theorem cs_ok0 {I : pm_I} {z : Nat} : cs_ok I (I 47) z ((pm_u (pm_u (pm_u (pm_s I 32 (bl_zer (I 32) 24)) 31 2 0) 31 3 0) 31 4 3), (tk_b (I 47) z 0, -3)) := by
  refine ⟨?_, (tk_b_le (Nat.zero_le _)).2, ⟨0, by decide, ?_⟩, fun a a1 a2 a3 => ?_⟩
  · dsimp only
    rw [pm_u_off (by decide), pm_u_off (by decide), pm_u_off (by decide), pm_s_off _ _ _ _ (by decide)]
  · dsimp only
    rw [pm_u_at, pk_un (by decide), pm_u_at, pk_un (by decide), pm_u_at, pk_us]; rfl
  · dsimp only
    rw [pm_u_off a1, pm_u_off a1, pm_u_off a1, pm_s_off _ _ _ _ a2]

set_option maxHeartbeats 4000000 in
set_option maxRecDepth 100000 in
theorem c_X7_town0 {d : Nat} {I : pm_I} {J : pm_J} {z : Nat} (hz : I 46 1 = nI z) (hz2 : z ≤ 240) {R : cs_R} (hR : (cs_lp (I 47) z 240 ((pm_u (pm_u (pm_u (pm_s I 32 (bl_zer (I 32) 24)) 31 2 0) 31 3 0) 31 4 3), (tk_b (I 47) z 0, -3))) = R) (h : ¬ R.2.2 < 0) : pm_M (d + 8) 0 0 yX7_town cX7_town 2 (some .int) [.ref 0] SHP I J (pm_D (some (.int (-100 - R.2.2))) SHP (pm_u (tps R.1 z R.2) 46 1 0) J) := by
  refine pm_start (own := RX7) (nm := "town") (by decide) rfl rfl (L := [(0, .ref 0)]) rfl (Nat.le_of_ble_eq_true rfl) (fun Γ C C2 => ?_)
  refine g_aload_n (pc := 0) (i := 0) (j := 0) C dX7_town_0 rfl rfl ?_
  refine g_getR (pc := 1) C dX7_town_1 lfX7_29 (by first | rfl | assumption) rfl ?_
  refine g_aload_n (pc := 4) (i := 0) (j := 0) C dX7_town_4 rfl rfl ?_
  refine g_getR (pc := 5) C dX7_town_5 lfX7_23 (by first | rfl | assumption) rfl ?_
  refine g_callV (pc := 8) C dX7_town_8 lmX7_83 kcX4_readInto (by decide) (by first | rfl | assumption) (c_X4_readInto hz hz2) rfl rfl (Nat.le_of_ble_eq_true rfl) ?_
  intro r9 sh9 I9 J9 hD9; obtain ⟨rfl, rfl, rfl, rfl⟩ := pm_Dq hD9; clear hD9
  try simp only [Option.toList_some, Option.toList_none, List.cons_append, List.nil_append]
  rw [hR]
  refine g_istore_n (pc := 11) (i := 1) (L2 := [(0, _), (1, _)]) C dX7_town_11 rfl (by decide) rfl ?_
  refine g_aload_n (pc := 12) (i := 0) (j := 0) C dX7_town_12 rfl rfl ?_
  refine g_getR (pc := 13) C dX7_town_13 lfX7_29 (by first | rfl | assumption) rfl ?_
  refine g_iconst (pc := 16) (v := 0) C dX7_town_16 (by decide) ?_
  refine g_putI (pc := 17) C dX7_town_17 lpX7_76 rfl rfl (by first | rfl | assumption) rfl ?_
  refine g_iload_n (pc := 20) (i := 1) (j := 1) C dX7_town_20 rfl rfl ?_
  refine g_if_lt (pc := 21) (tgt := 29) C dX7_town_21 (by decide) (fun h21 => absurd h21 h) (fun h21 => ?_)
  refine g_bipush (pc := 24) (v := (-100)) C dX7_town_24 (by decide) ?_
  refine g_iload_n (pc := 26) (i := 1) (j := 1) C dX7_town_26 rfl rfl ?_
  refine g_isub (pc := 27) C dX7_town_27 ?_
  refine g_iret (pc := 28) C C2 dX7_town_28 rfl (Nat.le_refl _) (Nat.le_refl _) ?_
  exact ⟨rfl, rfl, rfl, rfl⟩

set_option maxHeartbeats 4000000 in
set_option maxRecDepth 100000 in
theorem c_X7_town1 {d : Nat} {I : pm_I} {J : pm_J} {z : Nat} (hz : I 46 1 = nI z) (hz2 : z ≤ 240) {R : cs_R} (hR : (cs_lp (I 47) z 240 ((pm_u (pm_u (pm_u (pm_s I 32 (bl_zer (I 32) 24)) 31 2 0) 31 3 0) 31 4 3), (tk_b (I 47) z 0, -3))) = R) (h : R.2.2 < 0) {n : Nat} (hn : R.1 31 2 = nI n) (h6 : n ≤ 6) : pm_M (d + 8) 0 0 yX7_town cX7_town 2 (some .int) [.ref 0] SHP I J (fun r sh2 I2 J2 => r = some (.int (nI n)) ∧ sh2 = SHP ∧ J2 = J ∧ tw_told I R.1 n I2) := by
  refine pm_start (own := RX7) (nm := "town") (by decide) rfl rfl (L := [(0, .ref 0)]) rfl (Nat.le_of_ble_eq_true rfl) (fun Γ C C2 => ?_)
  refine g_aload_n (pc := 0) (i := 0) (j := 0) C dX7_town_0 rfl rfl ?_
  refine g_getR (pc := 1) C dX7_town_1 lfX7_29 (by first | rfl | assumption) rfl ?_
  refine g_aload_n (pc := 4) (i := 0) (j := 0) C dX7_town_4 rfl rfl ?_
  refine g_getR (pc := 5) C dX7_town_5 lfX7_23 (by first | rfl | assumption) rfl ?_
  refine g_callV (pc := 8) C dX7_town_8 lmX7_83 kcX4_readInto (by decide) (by first | rfl | assumption) (c_X4_readInto hz hz2) rfl rfl (Nat.le_of_ble_eq_true rfl) ?_
  intro r9 sh9 I9 J9 hD9; obtain ⟨rfl, rfl, rfl, rfl⟩ := pm_Dq hD9; clear hD9
  try simp only [Option.toList_some, Option.toList_none, List.cons_append, List.nil_append]
  rw [hR]
  refine g_istore_n (pc := 11) (i := 1) (L2 := [(0, _), (1, _)]) C dX7_town_11 rfl (by decide) rfl ?_
  refine g_aload_n (pc := 12) (i := 0) (j := 0) C dX7_town_12 rfl rfl ?_
  refine g_getR (pc := 13) C dX7_town_13 lfX7_29 (by first | rfl | assumption) rfl ?_
  refine g_iconst (pc := 16) (v := 0) C dX7_town_16 (by decide) ?_
  refine g_putI (pc := 17) C dX7_town_17 lpX7_76 rfl rfl (by first | rfl | assumption) rfl ?_
  refine g_iload_n (pc := 20) (i := 1) (j := 1) C dX7_town_20 rfl rfl ?_
  refine g_if_lt (pc := 21) (tgt := 29) C dX7_town_21 (by decide) (fun h21 => ?_) (fun h21 => absurd h h21)
  refine g_aload_n (pc := 29) (i := 0) (j := 0) C dX7_town_29 rfl rfl ?_
  refine g_getR (pc := 30) C dX7_town_30 lfX7_23 (by first | rfl | assumption) rfl ?_
  refine g_aload_n (pc := 33) (i := 0) (j := 0) C dX7_town_33 rfl rfl ?_
  refine g_getR (pc := 34) C dX7_town_34 lfX7_10 (by first | rfl | assumption) rfl ?_
  refine g_getI (pc := 37) C dX7_town_37 lfX7_87 (by first | rfl | assumption) rfl ?_
  refine g_putI (pc := 40) C dX7_town_40 lpX7_87 rfl rfl (by first | rfl | assumption) rfl ?_
  refine g_aload_n (pc := 43) (i := 0) (j := 0) C dX7_town_43 rfl rfl ?_
  refine g_getR (pc := 44) C dX7_town_44 lfX7_10 (by first | rfl | assumption) rfl ?_
  refine g_aload_n (pc := 47) (i := 0) (j := 0) C dX7_town_47 rfl rfl ?_
  refine g_getR (pc := 48) C dX7_town_48 lfX7_23 (by first | rfl | assumption) rfl ?_
  refine g_callV (pc := 51) C dX7_town_51 lmX7_90 kcX5_copyFrom (by decide) (by first | rfl | assumption) (c_X5_copyFrom_1_31 (n := n) (by rw [pm_u_at, pk_un (by decide), pm_u_off (by decide), tps_off (by decide)]; exact hn) h6) rfl rfl (Nat.le_of_ble_eq_true rfl) ?_
  intro r9 sh9 I9 J9 hD9; obtain ⟨rfl, rfl, rfl, rfl⟩ := pm_Dq hD9; clear hD9
  try simp only [Option.toList_some, Option.toList_none, List.cons_append, List.nil_append]
  refine g_aload_n (pc := 54) (i := 0) (j := 0) C dX7_town_54 rfl rfl ?_
  refine g_iconst (pc := 55) (v := 0) C dX7_town_55 (by decide) ?_
  refine g_putI (pc := 56) C dX7_town_56 lpX7_47 rfl rfl (by first | rfl | assumption) rfl ?_
  refine g_aload_n (pc := 59) (i := 0) (j := 0) C dX7_town_59 rfl rfl ?_
  refine g_getR (pc := 60) C dX7_town_60 lfX7_10 (by first | rfl | assumption) rfl ?_
  refine g_getI (pc := 63) C dX7_town_63 lfX7_93 (by first | rfl | assumption) rfl ?_
  refine g_iret (pc := 66) C C2 dX7_town_66 rfl (Nat.le_refl _) (Nat.le_refl _) ?_
  have hok := cs_lp_ok (m := 240) (cs_ok0 (I := I) (z := z))
  rw [hR] at hok
  have hT := tw_told_of (z := z) (st := R.2) h6 hok.2.2.2
  exact ⟨by rw [hT.1.1], rfl, rfl, hT⟩
