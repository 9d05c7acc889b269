/-! The tape on both sides: feed and town -/
theorem fb_8 (w : Int64) : (w.toInt32.toInt8.toInt32.toInt8.toInt32 = (w &&& 255).toInt32 ∧ 0 ≤ (w &&& 255).toInt32) ∨ (w.toInt32.toInt8.toInt32.toInt8.toInt32 < 0 ∧ 128 ≤ (w &&& 255).toInt32) := by
  have e1 : w.toInt32.toInt8.toInt32.toInt8.toInt32 = w.toInt8.toInt32 := by simp
  rw [e1]
  have e2 : (w &&& 255).toBitVec.toNat = w.toBitVec.toNat % 256 := by
    rw [Int64.toBitVec_and, BitVec.toNat_and]
    exact Nat.and_two_pow_sub_one_eq_mod _ 8
  have e3 : (w &&& 255).toInt = ((w.toBitVec.toNat % 256 : Nat) : Int) := by
    rw [← Int64.toInt_toBitVec, BitVec.toInt_eq_toNat_bmod, e2]
    rw [Int.bmod_eq_of_le] <;> omega
  have e4 : (w &&& 255).toInt32.toInt = ((w.toBitVec.toNat % 256 : Nat) : Int) := by
    rw [Int64.toInt_toInt32, e3]
    rw [Int.bmod_eq_of_le] <;> omega
  have e5 : w.toInt8.toInt32.toInt = (w.toBitVec.toNat : Int).bmod 256 := by
    rw [Int8.toInt_toInt32, Int64.toInt_toInt8, ← Int64.toInt_toBitVec, BitVec.toInt_eq_toNat_bmod]
    exact Int.bmod_bmod_of_dvd (by decide)
  rw [Int32.le_iff_toInt_le, Int32.lt_iff_toInt_lt, Int32.le_iff_toInt_le, e4, e5, Int32.toInt_inj.symm, e4, e5]
  have h0 : (0 : Int32).toInt = 0 := by decide
  have h1 : (128 : Int32).toInt = 128 := by decide
  rw [h0, h1]
  generalize w.toBitVec.toNat = N
  rw [Int.bmod_def]
  by_cases q : (N : Int) % ((256 : Nat) : Int) < (((256 : Nat) : Int) + 1) / 2
  · rw [if_pos q]
    omega
  · rw [if_neg q]
    omega
theorem fb_b (e : Int64) (k : Nat) : (fd_b e k = mf_b e k ∧ 0 ≤ mf_b e k) ∨ (fd_b e k < 0 ∧ 128 ≤ mf_b e k) := fb_8 _
theorem RL_feed {I : pm_I} {J : pm_J} {n t z k : Nat} {e : Int64} (h : RL_ I I J n t) (hz : z + k ≤ 240) (hb : tb (I 47) (I 107) z) (hg : ∀ k, k < z → 0 ≤ I 107 k) : Rel (pm_s (pm_u (pm_s (pm_u I 46 1 (nI (z + k))) 47 (fd_row (I 47) e z k)) 102 10 (nI (z + k))) 107 (mf_row (I 107) e z k)) (pm_s (pm_u (pm_s (pm_u I 46 1 (nI (z + k))) 47 (fd_row (I 47) e z k)) 102 10 (nI (z + k))) 107 (mf_row (I 107) e z k)) J := by
  obtain ⟨hA, hK, hP, hRW, hS, hH, hX⟩ := h
  generalize hY : pm_s (pm_u (pm_s (pm_u I 46 1 (nI (z + k))) 47 (fd_row (I 47) e z k)) 102 10 (nI (z + k))) 107 (mf_row (I 107) e z k) = Y
  have o : ∀ a, a ≠ 46 → a ≠ 47 → a ≠ 102 → a ≠ 107 → Y a = I a := fun a h1 h2 h3 h4 => by rw [← hY, pm_s_off _ _ _ _ h4, pm_u_off h3, pm_s_off _ _ _ _ h2, pm_u_off h1]
  have y102 : Y 102 = upd (I 102) 10 (nI (z + k)) := by rw [← hY, pm_s_off _ _ _ _ (by decide), pm_u_at, pm_s_off _ _ _ _ (by decide), pm_u_off (by decide)]
  have y46 : Y 46 = upd (I 46) 1 (nI (z + k)) := by rw [← hY, pm_s_off _ _ _ _ (by decide), pm_u_off (by decide), pm_s_off _ _ _ _ (by decide), pm_u_at]
  have y47 : Y 47 = fd_row (I 47) e z k := by rw [← hY, pm_s_off _ _ _ _ (by decide), pm_u_off (by decide), pm_s_at]
  have y107 : Y 107 = mf_row (I 107) e z k := by rw [← hY, pm_s_at]
  have m : ∀ p, p ≠ 10 → Y 102 p = I 102 p := fun p hp => by rw [y102, pk_un hp]
  refine ⟨n, t, RA_c hA (o 1 (by decide) (by decide) (by decide) (by decide)) (o 2 (by decide) (by decide) (by decide) (by decide)) (fun b hb => o _ (by omega) (by omega) (by omega) (by omega)) (fun p hp => m p (by omega)) (o 103 (by decide) (by decide) (by decide) (by decide)) (o 104 (by decide) (by decide) (by decide) (by decide)) (o 105 (by decide) (by decide) (by decide) (by decide)) (fun k _ => by rw [o 106 (by decide) (by decide) (by decide) (by decide)]), RK_c hK (by rw [o 0 (by decide) (by decide) (by decide) (by decide)]) (fun a h1 h2 => o a (by omega) (by omega) (by omega) (by omega)) (m 39 (by decide)) (o 121 (by decide) (by decide) (by decide) (by decide)), ⟨z + k, hz, by rw [y46, pk_us], by rw [y102, pk_us], fun p hp => ?_, fun p hp => ?_⟩, RW_c hRW (by rw [o 0 (by decide) (by decide) (by decide) (by decide)]) (fun i hi => o _ (by omega) (by omega) (by omega) (by omega)) (m 25 (by decide)) (o 112 (by decide) (by decide) (by decide) (by decide)), RS_c hS (fun a h1 h2 => o a (by omega) (by omega) (by omega) (by omega)) (o 114 (by decide) (by decide) (by decide) (by decide)) (o 115 (by decide) (by decide) (by decide) (by decide)) rfl, RH_c hH (fun s hs => o _ (by omega) (by omega) (by omega) (by omega)) (o 117 (by decide) (by decide) (by decide) (by decide)) (o 118 (by decide) (by decide) (by decide) (by decide)) (o 119 (by decide) (by decide) (by decide) (by decide)), RX_c hX (by rw [o 88 (by decide) (by decide) (by decide) (by decide)]) (o 89 (by decide) (by decide) (by decide) (by decide)) (m 37 (by decide)) (o 120 (by decide) (by decide) (by decide) (by decide))⟩
  · rw [y47, y107]
    unfold fd_row mf_row
    by_cases q : z ≤ p ∧ p < z + k
    · rw [if_pos q, if_pos q]
      exact fb_b e _
    · rw [if_neg q, if_neg q]
      exact hb p (by omega)
  · rw [y107]
    unfold mf_row
    by_cases q : z ≤ p ∧ p < z + k
    · rw [if_pos q]
      rcases fb_b e (p - z) with x | x
      · exact x.2
      · exact Int32.le_trans (by decide) x.2
    · rw [if_neg q]
      exact hg p (by omega)
set_option maxHeartbeats 4000000 in
theorem two_feed {I : pm_I} {J : pm_J} (hI : Rel I I J) {e : Int64} {x : Int32} : two_ yX7_feed cX7_feed 4 yX8_feed cX8_feed 5 [.long e, .int x] I J := by
  obtain ⟨n, t, hL⟩ := hI
  have hI : Rel I I J := ⟨n, t, hL⟩
  obtain ⟨z, z240, hz, hzm, hb, hg⟩ := hL.2.2.1
  have hc := c_X7_feed (d := 10) (J := J) (e := e) (x := x) hz z240
  by_cases q : (1 ≤ x ∧ x ≤ 8) ∧ z + x.toNatClampNeg ≤ 240
  · have q2 : ¬ 240 < z + x.toNatClampNeg := by omega
    rw [if_pos q.1, if_neg q2, if_pos q] at hc
    have hm := c_X8_feed (d := 10) (I := pm_s (pm_u I 46 1 (nI (z + x.toNatClampNeg))) 47 (fd_row (I 47) e z x.toNatClampNeg)) (J := J) (e := e) (x := x) (z := z) (by rw [pm_s_off _ _ _ _ (by decide), pm_u_off (by decide)]; exact hzm) z240
    rw [if_pos q.1, if_neg q2, if_pos q] at hm
    have e107 : pm_s (pm_u I 46 1 (nI (z + x.toNatClampNeg))) 47 (fd_row (I 47) e z x.toNatClampNeg) 107 = I 107 := by rw [pm_s_off _ _ _ _ (by decide), pm_u_off (by decide)]
    rw [e107] at hm
    exact two_d hc hm rfl (RL_feed hL q.2 hb hg)
  · rw [if_neg q] at hc
    have hm := c_X8_feed (d := 10) (J := J) (e := e) (x := x) hzm z240
    rw [if_neg q] at hm
    exact two_d hc hm rfl hI
/-- both begin with an empty town -/
theorem RT_0 {I I2 : pm_I} : RT (pm_u (pm_u (pm_u (pm_s I 32 (bl_zer (I 32) 24)) 31 2 0) 31 3 0) 31 4 3) (pm_s (pm_u (pm_u (pm_u (pm_u I2 102 13 0) 102 16 1) 102 17 0) 102 18 3) 111 (bl_zer (I2 111) 24)) := by
  have e31 : (pm_u (pm_u (pm_u (pm_s I 32 (bl_zer (I 32) 24)) 31 2 0) 31 3 0) 31 4 3) 31 = upd (upd (upd (I 31) 2 0) 3 0) 4 3 := by rw [pm_u_at, pm_u_at, pm_u_at, pm_s_off _ _ _ _ (by decide)]
  have e32 : (pm_u (pm_u (pm_u (pm_s I 32 (bl_zer (I 32) 24)) 31 2 0) 31 3 0) 31 4 3) 32 = bl_zer (I 32) 24 := by rw [pm_u_off (by decide), pm_u_off (by decide), pm_u_off (by decide), pm_s_at]
  have e102 : (pm_s (pm_u (pm_u (pm_u (pm_u I2 102 13 0) 102 16 1) 102 17 0) 102 18 3) 111 (bl_zer (I2 111) 24)) 102 = upd (upd (upd (upd (I2 102) 13 0) 16 1) 17 0) 18 3 := by rw [pm_s_off _ _ _ _ (by decide), pm_u_at, pm_u_at, pm_u_at, pm_u_at]
  refine ⟨⟨0, by decide, ?_, ?_, fun b hb => absurd hb (Nat.not_lt_zero b)⟩, ?_, ?_, fun h hh => ?_⟩
  · rw [e31, pk_un (by decide), pk_un (by decide), pk_us]; rfl
  · rw [e102, pk_un (by decide), pk_us]; rfl
  · rw [e31, pk_un (by decide), pk_us]
  · rw [e31, e102, pk_us, pk_us]
  · rw [e32, pm_s_at, show bl_zer (I 32) 24 h = 0 from if_pos hh, show bl_zer (I2 111) 24 h = 0 from if_pos hh]
theorem tb_nil {f g : Nat → Int32} : tb f g 0 := fun p hp => absurd hp (Nat.not_lt_zero p)
/-- a text not understood: the tape alone is gone -/
theorem RL_town0 {I X : pm_I} {J J3 : pm_J} {n t : Nat} (h : RL_ I I J n t) (c : ∀ a, a < 31 ∨ (47 ≤ a ∧ a < 102) → X a = I a) (c46 : X 46 1 = 0) (m : ∀ p, ¬ (10 ≤ p ∧ p ≤ 18) → X 102 p = I 102 p) (m10 : X 102 10 = 0) (m2 : ∀ a, 103 ≤ a → a < 108 ∨ 112 ≤ a → X a = I a) (hj : J3 116 = J 116) : Rel X X J3 := by
  obtain ⟨hA, hK, hP, hRW, hS, hH, hX⟩ := h
  exact ⟨n, t, RA_c hA (c 1 (by decide)) (c 2 (by decide)) (fun b hb => c _ (by omega)) (fun p hp => m p (by omega)) (m2 103 (by decide) (by decide)) (m2 104 (by decide) (by decide)) (m2 105 (by decide) (by decide)) (fun k _ => by rw [m2 106 (by decide) (by decide)]), RK_c hK (by rw [c 0 (by decide)]) (fun a h1 h2 => c a (by omega)) (m 39 (by decide)) (m2 121 (by decide) (by decide)), ⟨0, by decide, c46, m10, tb_nil, fun p hp => absurd hp (Nat.not_lt_zero p)⟩, RW_c hRW (by rw [c 0 (by decide)]) (fun i hi => c _ (by omega)) (m 25 (by decide)) (m2 112 (by decide) (by decide)), RS_c hS (fun a h1 h2 => c a (by omega)) (m2 114 (by decide) (by decide)) (m2 115 (by decide) (by decide)) hj, RH_c hH (fun s hs => c _ (by omega)) (m2 117 (by decide) (by decide)) (m2 118 (by decide) (by decide)) (m2 119 (by decide) (by decide)), RX_c hX (by rw [c 88 (by decide)]) (c 89 (by decide)) (m 37 (by decide)) (m2 120 (by decide) (by decide))⟩
/-- a town told anew -/
theorem RL_town1 {I I2 I3 W Wm : pm_I} {J J3 : pm_J} {n t n2 : Nat} (h : RL_ I I J n t) (hT : RT W Wm) (hn : W 31 2 = nI n2) (h6 : n2 ≤ 6) (hc : tw_told I W n2 I2) (hm : mw_told I2 Wm n2 I3) (hj : J3 116 = J 116) : Rel I3 I3 J3 := by
  obtain ⟨hA, hK, hP, hRW, hS, hH, hX⟩ := h
  obtain ⟨⟨n3, g6, g1, g2, g3⟩, t3, t4, t5⟩ := hT
  have e3 : n3 = n2 := (nI_eq (by omega) (by omega)).mp (g1.symm.trans hn)
  subst e3
  obtain ⟨⟨u1, u2, u3, u4⟩, u5, u6, ⟨u7, u8, u9⟩, u10⟩ := hc
  obtain ⟨v1, v2, v3, v4, v5, v6, v7, v8, v9, v10⟩ := hm
  have c : ∀ a, a < 102 → I3 a = I2 a := fun a ha => v10 a (by omega) (by omega)
  have d : ∀ a, (16 ≤ a ∧ a ≤ 30) ∨ (47 ≤ a ∧ a < 102) ∨ 112 ≤ a → I3 a = I a := fun a ha => (v10 a (by omega) (by omega)).trans (u10 a (by omega))
  have m : ∀ p, p ≠ 1 → p ≠ 2 → p ≠ 10 → p ≠ 25 → ¬ (11 ≤ p ∧ p ≤ 18) → I3 102 p = I 102 p := fun p h1 h2 h3 h4 h5 => (v5 p h1 h2 h3 h4 h5).trans (by rw [u10 102 (by decide)])
  obtain ⟨-, -, -, -, -, -, -, a8, a9, a10, -, -⟩ := hA
  refine ⟨n3, 0, ⟨g6, by decide, by rw [c 1 (by decide)]; exact u1, by rw [c 1 (by decide), u2, t3]; rfl, v1, by rw [v8]; rfl, by rw [v2, c 1 (by decide), u3, t4], by rw [m 8 (by decide) (by decide) (by decide) (by decide) (by decide), c 1 (by decide), u4, a8], by rw [m 6 (by decide) (by decide) (by decide) (by decide) (by decide)]; exact a9, by rw [m 7 (by decide) (by decide) (by decide) (by decide) (by decide)]; exact a10, fun x hx => by rw [v6 x hx, c 2 (by decide), u5 x hx]; exact (t5 x hx).symm, fun b hb => ?_⟩, RK_c hK (by rw [c 0 (by decide)]; exact u9) (fun a h1 h2 => d a (by omega)) (m 39 (by decide) (by decide) (by decide) (by decide) (by decide)) (d 121 (by decide)), ⟨0, by decide, by rw [c 46 (by decide)]; exact u7, v3, tb_nil, fun p hp => absurd hp (Nat.not_lt_zero p)⟩, ⟨0, by decide, by rw [c 0 (by decide)]; exact u8, v4, fun i hi => absurd hi (Nat.not_lt_zero i)⟩, RS_c hS (fun a h1 h2 => d a (by omega)) (d 114 (by decide)) (d 115 (by decide)) hj, RH_c hH (fun s hs => d _ (by omega)) (d 117 (by decide)) (d 118 (by decide)) (d 119 (by decide)), RX_c hX (by rw [d 88 (by decide)]) (d 89 (by decide)) (m 37 (by decide) (by decide) (by decide) (by decide) (by decide)) (d 120 (by decide))⟩
  obtain ⟨f1, f2, f3, f4⟩ := g3 b hb
  rw [c (5 + 2 * b) (by omega)]
  refine ⟨bo_c f1 (u6 b hb), fun p hp => ?_⟩
  rw [u6 b hb p hp]
  by_cases p2 : 2 ≤ p
  · rw [md_p p2, show 0 + 7 * b + (p - 1) = 7 * b + (p - 1) by omega, v9 _ (by omega) (by omega)]
    exact (f4 p p2 hp).symm
  · rcases (show p = 0 ∨ p = 1 by omega) with rfl | rfl
    · show I3 104 b = _
      rw [(v7 b (by omega)).1]; exact f2.symm
    · show I3 105 b = _
      rw [(v7 b (by omega)).2]; exact f3.symm
set_option maxHeartbeats 4000000 in
theorem two_town {I : pm_I} {J : pm_J} (hI : Rel I I J) : two_ yX7_town cX7_town 2 yX8_town cX8_town 2 [] I J := by
  obtain ⟨n, t, hL⟩ := hI
  obtain ⟨z, z240, hz, hzm, hb, hg⟩ := hL.2.2.1
  obtain ⟨R, hR⟩ : ∃ R, cs_lp (I 47) z 240 ((pm_u (pm_u (pm_u (pm_s I 32 (bl_zer (I 32) 24)) 31 2 0) 31 3 0) 31 4 3), (tk_b (I 47) z 0, -3)) = R := ⟨_, rfl⟩
  have hok := cs_lp_ok (m := 240) (cs_ok0 (I := I) (z := z))
  rw [hR] at hok
  obtain ⟨o1, o2, ⟨n2, o3, o4⟩, o5⟩ := hok
  have rr : ∀ I2 : pm_I, RR z R (mc_lp (I 107) z 240 ((pm_s (pm_u (pm_u (pm_u (pm_u I2 102 13 0) 102 16 1) 102 17 0) 102 18 3) 111 (bl_zer (I2 111) 24)), (tk_b (I 107) z 0, true))) := fun I2 => by
    have q := RR_lp (g := I 107) z240 240 ((pm_u (pm_u (pm_u (pm_s I 32 (bl_zer (I 32) 24)) 31 2 0) 31 3 0) 31 4 3), (tk_b (I 47) z 0, -3)) ((pm_s (pm_u (pm_u (pm_u (pm_u I2 102 13 0) 102 16 1) 102 17 0) 102 18 3) 111 (bl_zer (I2 111) 24)), (tk_b (I 107) z 0, true)) (tk_b_le (Nat.zero_le z)).2 (Or.inl ⟨rfl, by rw [tb_b hb], RT_0⟩)
    rw [← tb_lp hb, hR] at q
    exact q
  by_cases h : R.2.2 < 0
  · refine two_r (ρ := nI n2) (Pc := fun I2 => tw_told I R.1 n2 I2) (Pm := fun _ => True) (c_X7_town1 (d := 3) (J := J) hz z240 hR h o4 o3) (fun I2 e2 => ?_)
    obtain ⟨Rm, hRm⟩ : ∃ Rm, mc_lp (I 107) z 240 ((pm_s (pm_u (pm_u (pm_u (pm_u I2 102 13 0) 102 16 1) 102 17 0) 102 18 3) 111 (bl_zer (I2 111) 24)), (tk_b (I 107) z 0, true)) = Rm := ⟨_, rfl⟩
    have q := rr I2
    rw [hRm] at q
    obtain ⟨k1, k2, k3⟩ : Rm.2.2 = true ∧ R.2 = (Rm.2.1, -3) ∧ RT R.1 Rm.1 := by
      rcases q with q | q
      · exact q
      · exfalso
        rw [q.2.1] at h
        exact absurd ((nI_leI (a := 0) (b := Rm.2.1) (by decide) (by have := q.2.2; omega)).mpr (Nat.zero_le _)) (Int32.not_le.mpr h)
    have k4 : Rm.1 102 17 = nI n2 := by
      obtain ⟨⟨n3, g6, g1, g2, -⟩, -⟩ := k3
      rw [g2, ← g1, o4]
    have w := e2.2.2.2.2
    refine ⟨_, c_X8_town1 (d := 4) (I := I2) (J := J) (w 107 (by decide)) (by rw [w 102 (by decide)]; exact hzm) z240 hg hRm k1 k4, fun r sh3 I3 J3 y => ⟨y.1, y.2.1, ?_⟩⟩
    refine RL_town1 hL k3 o4 o3 e2 y.2.2.2 ?_
    rw [y.2.2.1]
    exact pm_uJ_off (by decide)
  · refine two_r (ρ := -100 - R.2.2) (Pc := fun I2 => I2 = pm_u (tps R.1 z R.2) 46 1 0) (Pm := fun _ => True) (pm_post (c_X7_town0 (d := 3) (J := J) hz z240 hR h) (fun r sh2 I2 J2 y => ⟨y.1, y.2.1, y.2.2.2, y.2.2.1⟩)) (fun I2 e2 => ?_)
    obtain ⟨Rm, hRm⟩ : ∃ Rm, mc_lp (I 107) z 240 ((pm_s (pm_u (pm_u (pm_u (pm_u I2 102 13 0) 102 16 1) 102 17 0) 102 18 3) 111 (bl_zer (I2 111) 24)), (tk_b (I 107) z 0, true)) = Rm := ⟨_, rfl⟩
    have q := rr I2
    rw [hRm] at q
    obtain ⟨k1, k2, k3⟩ : Rm.2.2 = false ∧ R.2.2 = nI Rm.2.1 ∧ Rm.2.1 ≤ z := by
      rcases q with q | q
      · exfalso
        apply h
        rw [q.2.1]
        exact (show (-3 : Int32) < 0 by decide)
      · exact q
    have w : ∀ a, a < 31 ∨ 47 ≤ a → I2 a = I a := fun a ha => by
      rw [e2, pm_u_off (by omega), tps_off (by omega)]
      exact o5 a (by omega) (by omega) (fun b hb => by omega)
    have w46 : I2 46 1 = 0 := by rw [e2, pm_u_at, pk_us]
    have mok := mc_lp_ok (m := 240) (mc_ok0 (I := I2) (z := z) (w 107 (by decide)))
    rw [hRm] at mok
    obtain ⟨p1, p2, p3, p4, p5⟩ := mok
    refine ⟨_, c_X8_town0 (d := 4) (I := I2) (J := J) (w 107 (by decide)) (by rw [w 102 (by decide)]; exact hzm) z240 hg hRm k1, fun r sh3 I3 J3 y => ⟨by rw [y.1, k2], y.2.1, ?_⟩⟩
    rw [y.2.2.1, y.2.2.2]
    refine RL_town0 hL (fun a ha => ?_) ?_ (fun p hp => ?_) ?_ (fun a h1 h2 => ?_) ?_
    · rw [pm_u_off (by omega), mts_off (by omega), p5 a (by omega) (by omega) (by omega) (by omega) (by omega), mc_F0_off (by omega) (by omega)]
      exact w a (by omega)
    · rw [pm_u_off (by decide), mts_off (by decide), p5 46 (by decide) (by decide) (by decide) (by decide) (by decide), mc_F0_off (by decide) (by decide)]
      exact w46
    · rw [pm_u_at, pk_un (by omega)]
      have e5 : mts Rm.1 z Rm.2 102 p = Rm.1 102 p := by
        show (if p = 11 then _ else if p = 12 then _ else if p = 13 then _ else if p = 15 then _ else if p = 16 then _ else Rm.1 102 p) = _
        rw [if_neg (by omega), if_neg (by omega), if_neg (by omega), if_neg (by omega), if_neg (by omega)]
      rw [e5, p4 p (by omega) (by omega), mc_F0_102 (by omega), w 102 (by decide)]
    · rw [pm_u_at, pk_us]
    · rw [pm_u_off (by omega), mts_off (by omega), p5 a (by omega) (by omega) (by omega) (by omega) (by omega), mc_F0_off (by omega) (by omega)]
      exact w a (by omega)
    · exact pm_uJ_off (by decide)
