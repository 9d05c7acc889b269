/-! The model's town -/
/-- what stands before the copying: W holds what was told -/
def mw_pre (I W : pm_I) (n : Nat) (X : pm_I) : Prop := X 102 2 = nI n ∧ X 102 1 = W 102 18 ∧ X 102 10 = 0 ∧ (∀ p, p ≠ 1 → p ≠ 2 → p ≠ 10 → ¬ (11 ≤ p ∧ p ≤ 18) → X 102 p = I 102 p) ∧ X 108 = W 108 ∧ X 109 = W 109 ∧ X 110 = W 110 ∧ X 111 = W 111 ∧ ∀ a, a ≠ 102 → a < 108 ∨ 112 ≤ a → X a = I a
/-- what town leaves of the model, if its text is right: W holds what was told -/
def mw_told (I W : pm_I) (n : Nat) (I2 : pm_I) : Prop := I2 102 2 = nI n ∧ I2 102 1 = W 102 18 ∧ I2 102 10 = 0 ∧ I2 102 25 = 0 ∧ (∀ p, p ≠ 1 → p ≠ 2 → p ≠ 10 → p ≠ 25 → ¬ (11 ≤ p ∧ p ≤ 18) → I2 102 p = I 102 p) ∧ (∀ h, h < 24 → I2 103 h = W 111 h) ∧ (∀ b, b < 6 → I2 104 b = W 108 b ∧ I2 105 b = W 109 b) ∧ I2 106 0 = 0 ∧ (∀ k, 1 ≤ k → k < 43 → I2 106 k = W 110 k) ∧ ∀ a, a ≠ 102 → a < 103 ∨ a = 107 ∨ 112 ≤ a → I2 a = I a
def bl_c1 (g f : Nat → Int32) (j : Nat) : Nat → Int32 := fun k => if 1 ≤ k ∧ k < j then f k else g k
theorem bl_cp_next (g f : Nat → Int32) (j : Nat) : upd (bl_cp g f j) j (f j) = bl_cp g f (j + 1) := by
  funext k
  unfold upd bl_cp
  grind
theorem bl_c1_next (g f : Nat → Int32) (j : Nat) (h : 1 ≤ j) : upd (bl_c1 g f j) j (f j) = bl_c1 g f (j + 1) := by
  funext k
  unfold upd bl_c1
  grind
theorem bl_cp_0 (g f : Nat → Int32) : bl_cp g f 0 = g := by
  funext k
  exact if_neg (Nat.not_lt_zero k)
theorem bl_c1_1 (g f : Nat → Int32) : bl_c1 g f 1 = g := by
  funext k
  exact if_neg (by omega)
theorem pm_s_rf (I : pm_I) (q : Nat) : pm_s I q (I q) = I := by
  funext a
  unfold pm_s
  split
  · next h => rw [h]
  · rfl
theorem mw_told_of {I W X : pm_I} {n : Nat} (h : mw_pre I W n X) : mw_told I W n (pm_u (pm_u (pm_s (pm_s (pm_s (pm_s X 103 (bl_cp (X 103) (X 111) 24)) 104 (bl_cp (X 104) (X 108) 6)) 105 (bl_cp (X 105) (X 109) 6)) 106 (bl_c1 (X 106) (X 110) 43)) 106 0 0) 102 25 0) := by
  obtain ⟨h1, h2, h3, h4, h5, h6, h7, h8, h9⟩ := h
  have e102 : ∀ p, p ≠ 25 → pm_u (pm_u (pm_s (pm_s (pm_s (pm_s X 103 (bl_cp (X 103) (X 111) 24)) 104 (bl_cp (X 104) (X 108) 6)) 105 (bl_cp (X 105) (X 109) 6)) 106 (bl_c1 (X 106) (X 110) 43)) 106 0 0) 102 25 0 102 p = X 102 p := fun p hp => by
    rw [pm_u_at, pk_un hp, pm_u_off (by decide), pm_s_off _ _ _ _ (by decide), pm_s_off _ _ _ _ (by decide), pm_s_off _ _ _ _ (by decide), pm_s_off _ _ _ _ (by decide)]
  refine ⟨(e102 2 (by decide)).trans h1, (e102 1 (by decide)).trans h2, (e102 10 (by decide)).trans h3, by rw [pm_u_at, pk_us], fun p p1 p2 p3 p4 p5 => (e102 p p4).trans (h4 p p1 p2 p3 p5), fun h hh => ?_, fun b hb => ⟨?_, ?_⟩, ?_, fun k k1 k2 => ?_, fun a a1 a2 => ?_⟩
  · rw [pm_u_off (by decide), pm_u_off (by decide), pm_s_off _ _ _ _ (by decide), pm_s_off _ _ _ _ (by decide), pm_s_off _ _ _ _ (by decide), pm_s_at, bl_cp_lt hh, h8]
  · rw [pm_u_off (by decide), pm_u_off (by decide), pm_s_off _ _ _ _ (by decide), pm_s_off _ _ _ _ (by decide), pm_s_at, bl_cp_lt hb, h5]
  · rw [pm_u_off (by decide), pm_u_off (by decide), pm_s_off _ _ _ _ (by decide), pm_s_at, bl_cp_lt hb, h6]
  · rw [pm_u_off (by decide), pm_u_at, pk_us]
  · rw [pm_u_off (by decide), pm_u_at, pk_un (by omega), pm_s_at]
    show (if 1 ≤ k ∧ k < 43 then X 110 k else _) = _
    rw [if_pos ⟨k1, k2⟩, h7]
  · rw [pm_u_off a1, pm_u_off (by omega), pm_s_off _ _ _ _ (by omega), pm_s_off _ _ _ _ (by omega), pm_s_off _ _ _ _ (by omega), pm_s_off _ _ _ _ (by omega)]
    exact h9 a a1 (by omega)
theorem mc_ok0 {I : pm_I} {g : Nat → Int32} {z : Nat} (hg1 : I 107 = g) : mc_ok (pm_s (pm_u (pm_u (pm_u (pm_u I 102 13 0) 102 16 1) 102 17 0) 102 18 3) 111 (bl_zer (I 111) 24)) g z ((pm_s (pm_u (pm_u (pm_u (pm_u I 102 13 0) 102 16 1) 102 17 0) 102 18 3) 111 (bl_zer (I 111) 24)), (tk_b g z 0, true)) := by
  refine ⟨?_, (tk_b_le (Nat.zero_le _)).2, ⟨0, by decide, ?_⟩, fun p _ _ => rfl, fun a _ _ _ _ _ => rfl⟩
  · dsimp only
    rw [pm_s_off _ _ _ _ (by decide), pm_u_off (by decide), pm_u_off (by decide), pm_u_off (by decide), pm_u_off (by decide)]; exact hg1
  · dsimp only
    rw [pm_s_off _ _ _ _ (by decide), pm_u_at, pk_un (by decide), pm_u_at, pk_us]; rfl
theorem mc_F0_102 {I : pm_I} {p : Nat} (h : ¬ (11 ≤ p ∧ p ≤ 18)) : (pm_s (pm_u (pm_u (pm_u (pm_u I 102 13 0) 102 16 1) 102 17 0) 102 18 3) 111 (bl_zer (I 111) 24)) 102 p = I 102 p := by
  rw [pm_s_off _ _ _ _ (by decide), pm_u_at, pk_un (by omega), pm_u_at, pk_un (by omega), pm_u_at, pk_un (by omega), pm_u_at, pk_un (by omega)]
theorem mc_F0_off {I : pm_I} {a : Nat} (h : a ≠ 102) (h2 : a ≠ 111) : (pm_s (pm_u (pm_u (pm_u (pm_u I 102 13 0) 102 16 1) 102 17 0) 102 18 3) 111 (bl_zer (I 111) 24)) a = I a := by
  rw [pm_s_off _ _ _ _ h2, pm_u_off h, pm_u_off h, pm_u_off h, pm_u_off h]

set_option maxHeartbeats 4000000 in
set_option maxRecDepth 100000 in
theorem c_X8_town0 {d : Nat} {I : pm_I} {J : pm_J} {g : Nat → Int32} {z : Nat} (hg1 : I 107 = g) (hz : I 102 10 = nI z) (hz2 : z ≤ 240) (hg : ∀ k, k < z → 0 ≤ g k) {R : mt_R} (hR : (mc_lp g z 240 ((pm_s (pm_u (pm_u (pm_u (pm_u I 102 13 0) 102 16 1) 102 17 0) 102 18 3) 111 (bl_zer (I 111) 24)), (tk_b g z 0, true))) = R) (h : R.2.2 = false) : pm_M (d + 7) 0 0 yX8_town cX8_town 2 (some .int) [.ref 102] SHP I J (pm_D (some (.int (-100 - nI R.2.1))) SHP (pm_u (mts R.1 z R.2) 102 10 0) (mtJ J g z R.2.1)) := by
  refine pm_start (own := RX8) (nm := "town") (by decide) rfl rfl (L := [(0, .ref 102)]) rfl (Nat.le_of_ble_eq_true rfl) (fun Γ C C2 => ?_)
  have hend : pm_G Γ 0 0 66 [(0, .ref 102), (1, .int (nI 24))] [] SHP (mts R.1 z R.2) (mtJ J g z R.2.1) := by
    refine g_aload_n (pc := 66) (i := 0) (j := 0) C dX8_town_66 rfl rfl ?_
    refine g_iconst (pc := 67) (v := 0) C dX8_town_67 (by decide) ?_
    refine g_putI (pc := 68) C dX8_town_68 lpX8_88 rfl rfl (by first | rfl | assumption) rfl ?_
    refine g_aload_n (pc := 71) (i := 0) (j := 0) C dX8_town_71 rfl rfl ?_
    refine g_getI (pc := 72) C dX8_town_72 lfX8_142 (by first | rfl | assumption) rfl ?_
    rw [show pm_u (mts R.1 z R.2) 102 10 0 102 16 = ok_v R.2.2 by rw [pm_u_at, pk_un (by decide)]; rfl, h]
    refine g_if_ne (pc := 75) (tgt := 86) C dX8_town_75 (by decide) (fun h75 => absurd h75 (fun q => q ok_f)) (fun h75 => ?_)
    refine g_bipush (pc := 78) (v := (-100)) C dX8_town_78 (by decide) ?_
    refine g_aload_n (pc := 80) (i := 0) (j := 0) C dX8_town_80 rfl rfl ?_
    refine g_getI (pc := 81) C dX8_town_81 lfX8_96 (by first | rfl | assumption) rfl ?_
    rw [show pm_u (mts R.1 z R.2) 102 10 0 102 12 = nI R.2.1 by rw [pm_u_at, pk_un (by decide)]; rfl]
    refine g_isub (pc := 84) C dX8_town_84 ?_
    refine g_iret (pc := 85) C C2 dX8_town_85 rfl (Nat.le_refl _) (Nat.le_refl _) ?_
    exact ⟨rfl, rfl, rfl, rfl⟩
  have hloop : ∀ q, ∀ r : mt_R, mc_ok (pm_s (pm_u (pm_u (pm_u (pm_u I 102 13 0) 102 16 1) 102 17 0) 102 18 3) 111 (bl_zer (I 111) 24)) g z r → (r.2.2 = true → z - r.2.1 ≤ q) → mc_lp g z q r = R → pm_G Γ 0 0 45 [(0, .ref 102), (1, .int (nI 24))] [] SHP (mts r.1 z r.2) (mtJ J g z r.2.1) := by
    intro q
    induction q with
    | zero =>
      intro r hok hm hr
      have hf1 := hok.1
      have hb := hok.2.1
      obtain ⟨n, h6, hn⟩ := hok.2.2.1
      have s3 := tk_s_le (f := g) (z := z) (p := r.2.1)
      have e0 := nI_eq (a := tk_s g z r.2.1) (b := 0) (by omega) (by decide)
      refine g_aload_n (pc := 45) (i := 0) (j := 0) C dX8_town_45 rfl rfl ?_
      refine g_getI (pc := 46) C dX8_town_46 lfX8_142 (by first | rfl | assumption) rfl ?_
      rw [mts_16]
      refine g_if_eq (pc := 49) (tgt := 66) C dX8_town_49 (by decide) (fun h49 => ?_) (fun h49 => ?_)
      · have hr2 : r = R := hr
        rw [hr2]
        exact hend
      · refine g_aload_n (pc := 52) (i := 0) (j := 0) C dX8_town_52 rfl rfl ?_
        refine g_getI (pc := 53) C dX8_town_53 lfX8_110 (by first | rfl | assumption) rfl ?_
        rw [mts_11, hf1]
        refine g_if_eq (pc := 56) (tgt := 66) C dX8_town_56 (by decide) (fun h56 => ?_) (fun h56 => ?_)
        · have hr2 : r = R := hr
          rw [hr2]
          exact hend
        · exfalso
          have g1 := ok_n h49
          have g2 := hm g1
          exact h56 (e0.mpr (tk_s_0.mpr (by omega)))
    | succ q ih =>
      intro r hok hm hr
      have hf1 := hok.1
      have hb := hok.2.1
      obtain ⟨n, h6, hn⟩ := hok.2.2.1
      have s3 := tk_s_le (f := g) (z := z) (p := r.2.1)
      have e0 := nI_eq (a := tk_s g z r.2.1) (b := 0) (by omega) (by decide)
      refine g_aload_n (pc := 45) (i := 0) (j := 0) C dX8_town_45 rfl rfl ?_
      refine g_getI (pc := 46) C dX8_town_46 lfX8_142 (by first | rfl | assumption) rfl ?_
      rw [mts_16]
      refine g_if_eq (pc := 49) (tgt := 66) C dX8_town_49 (by decide) (fun h49 => ?_) (fun h49 => ?_)
      · have hr2 : r = R := by
          rw [← hr]
          unfold mc_lp
          first
            | (have q3 : ok_v r.2.2 = 0 := h49; rw [if_neg (fun q9 => Bool.false_ne_true ((ok_0.mp q3).symm.trans q9.1))])
            | (have q3 : tk_s g z r.2.1 = 0 := e0.mp h56; rw [if_neg (fun q9 => q9.2 q3)])
        rw [hr2]
        exact hend
      · refine g_aload_n (pc := 52) (i := 0) (j := 0) C dX8_town_52 rfl rfl ?_
        refine g_getI (pc := 53) C dX8_town_53 lfX8_110 (by first | rfl | assumption) rfl ?_
        rw [mts_11, hf1]
        refine g_if_eq (pc := 56) (tgt := 66) C dX8_town_56 (by decide) (fun h56 => ?_) (fun h56 => ?_)
        · have hr2 : r = R := by
            rw [← hr]
            unfold mc_lp
            first
              | (have q3 : ok_v r.2.2 = 0 := h49; rw [if_neg (fun q9 => Bool.false_ne_true ((ok_0.mp q3).symm.trans q9.1))])
              | (have q3 : tk_s g z r.2.1 = 0 := e0.mp h56; rw [if_neg (fun q9 => q9.2 q3)])
          rw [hr2]
          exact hend
        · have g1 := ok_n h49
          have g2 : ¬ tk_s g z r.2.1 = 0 := fun q9 => h56 (e0.mpr q9)
          have hbz : r.2.1 < z := tk_N_lt g2
          rw [mc_lp, if_pos ⟨g1, g2⟩] at hr
          have hok2 := mc_c1_ok hok
          have hgt := mc_c1_gt (W := r.1) (g := g) (st := r.2) hbz
          obtain ⟨W, b, ok⟩ := r
          dsimp only at *
          subst g1
          have hm2 := hm rfl
          have e10 : W 102 10 = nI z := (hok.2.2.2.1 10 (by decide) (by decide)).trans ((mc_F0_102 (by decide)).trans hz)
          refine g_aload_n (pc := 59) (i := 0) (j := 0) C dX8_town_59 rfl rfl ?_
          refine g_callV (pc := 60) C dX8_town_60 lmX8_199 kcX8_wantClause (by decide) (by first | rfl | assumption) (c_X8_wantClause (I := W) (b := b) hf1 e10 hz2 hg hb hn h6) rfl rfl (Nat.le_of_ble_eq_true rfl) ?_
          intro r9 sh9 I9 J9 hD9; obtain ⟨rfl, rfl, rfl, rfl⟩ := pm_Dq hD9; clear hD9
          try simp only [Option.toList_some, Option.toList_none, List.cons_append, List.nil_append]
          refine g_goto (pc := 63) (tgt := 45) C dX8_town_63 (by decide) ?_
          exact ih (mc_c1 W g z (b, true)) hok2 (fun q9 => by have := hgt q9; have := hok2.2.1; omega) hr
  have hz0 : ∀ j, j ≤ 24 → pm_G Γ 0 0 22 [(0, .ref 102), (1, .int (nI j))] [] SHP (pm_s (pm_u (pm_u (pm_u (pm_u I 102 13 0) 102 16 1) 102 17 0) 102 18 3) 111 (bl_zer (I 111) j)) J := by
    refine pm_up (fun j => pm_G Γ 0 0 22 [(0, .ref 102), (1, .int (nI j))] [] SHP (pm_s (pm_u (pm_u (pm_u (pm_u I 102 13 0) 102 16 1) 102 17 0) 102 18 3) 111 (bl_zer (I 111) j)) J) 24 (fun j hj ih => ?_)
    refine g_iload_n (pc := 22) (i := 1) (j := 1) C dX8_town_22 rfl rfl ?_
    refine g_bipush (pc := 23) (v := 24) C dX8_town_23 (by decide) ?_
    refine g_icmp_ge (pc := 25) (tgt := 41) C dX8_town_25 (by decide) (fun h25 => ?_) (fun h25 => ?_)
    · have ej : j = 24 := by have := (nI_leI (a := 24) (b := j) (by decide) (by omega)).mp h25; omega
      subst ej
      refine g_aload_n (pc := 41) (i := 0) (j := 0) C dX8_town_41 rfl rfl ?_
      refine g_callV (pc := 42) C dX8_town_42 lmX8_146 kcX8_advance (by decide) (by first | rfl | assumption) (c_X8_advance (I := (pm_s (pm_u (pm_u (pm_u (pm_u I 102 13 0) 102 16 1) 102 17 0) 102 18 3) 111 (bl_zer (I 111) 24))) (z := z) (p := 0) (by rw [mc_F0_102 (by decide)]; exact hz) hz2 (by rw [mc_F0_off (by decide) (by decide), hg1]; exact hg) (by rw [pm_s_off _ _ _ _ (by decide), pm_u_at, pk_un (by decide), pm_u_at, pk_un (by decide), pm_u_at, pk_un (by decide), pm_u_at, pk_us]; rfl) (Nat.zero_le _)) rfl rfl (Nat.le_of_ble_eq_true rfl) ?_
      intro r9 sh9 I9 J9 hD9; obtain ⟨rfl, rfl, rfl, rfl⟩ := pm_Dq hD9; clear hD9
      try simp only [Option.toList_some, Option.toList_none, List.cons_append, List.nil_append]
      rw [mc_F0_off (I := I) (a := 107) (by decide) (by decide), hg1, show (pm_s (pm_u (pm_u (pm_u (pm_u I 102 13 0) 102 16 1) 102 17 0) 102 18 3) 111 (bl_zer (I 111) 24)) 102 16 = 1 by rw [pm_s_off _ _ _ _ (by decide), pm_u_at, pk_un (by decide), pm_u_at, pk_un (by decide), pm_u_at, pk_us]]
      exact hloop 240 ((pm_s (pm_u (pm_u (pm_u (pm_u I 102 13 0) 102 16 1) 102 17 0) 102 18 3) 111 (bl_zer (I 111) 24)), (tk_b g z 0, true)) (mc_ok0 hg1) (fun _ => by omega) hR
    · have hlt : j < 24 := Nat.lt_of_not_le (fun q => h25 ((nI_leI (a := 24) (b := j) (by decide) (by omega)).mpr q))
      refine g_aload_n (pc := 28) (i := 0) (j := 0) C dX8_town_28 rfl rfl ?_
      refine g_getR (pc := 29) C dX8_town_29 lfX8_41 (by first | rfl | assumption) rfl ?_
      refine g_iload_n (pc := 32) (i := 1) (j := 1) C dX8_town_32 rfl rfl ?_
      refine g_iconst (pc := 33) (v := 0) C dX8_town_33 (by decide) ?_
      refine g_iast (pc := 34) (j := j) C dX8_town_34 (by first | rfl | assumption) (by decide) (by first | rfl | assumption) hlt ?_
      refine g_iinc (pc := 35) (j := 1) (v := _ + 1) (L2 := [(0, _), (1, _)]) C dX8_town_35 rfl rfl (by decide) rfl ?_
      refine g_goto (pc := 38) (tgt := 22) C dX8_town_38 (by decide) ?_
      refine pm_Geq (ih hlt) (by simp only [nI_1]) rfl ?_ rfl
      rw [pm_u_s, pm_s_at, pm_s_s]
      congr 1
      funext k
      unfold bl_zer upd
      grind
  refine g_aload_n (pc := 0) (i := 0) (j := 0) C dX8_town_0 rfl rfl ?_
  refine g_iconst (pc := 1) (v := 0) C dX8_town_1 (by decide) ?_
  refine g_putI (pc := 2) C dX8_town_2 lpX8_93 rfl rfl (by first | rfl | assumption) rfl ?_
  refine g_aload_n (pc := 5) (i := 0) (j := 0) C dX8_town_5 rfl rfl ?_
  refine g_iconst (pc := 6) (v := 1) C dX8_town_6 (by decide) ?_
  refine g_putI (pc := 7) C dX8_town_7 lpX8_142 (by first | rfl | exact pm_nz | assumption) rfl (by first | rfl | assumption) rfl ?_
  refine g_aload_n (pc := 10) (i := 0) (j := 0) C dX8_town_10 rfl rfl ?_
  refine g_iconst (pc := 11) (v := 0) C dX8_town_11 (by decide) ?_
  refine g_putI (pc := 12) C dX8_town_12 lpX8_156 rfl rfl (by first | rfl | assumption) rfl ?_
  refine g_aload_n (pc := 15) (i := 0) (j := 0) C dX8_town_15 rfl rfl ?_
  refine g_iconst (pc := 16) (v := 3) C dX8_town_16 (by decide) ?_
  refine g_putI (pc := 17) C dX8_town_17 lpX8_196 rfl rfl (by first | rfl | assumption) rfl ?_
  refine g_iconst (pc := 20) (v := 0) C dX8_town_20 (by decide) ?_
  refine g_istore_n (pc := 21) (i := 1) (L2 := [(0, _), (1, _)]) C dX8_town_21 rfl (by decide) rfl ?_
  refine pm_Geq (hz0 0 (by decide)) rfl rfl ?_ rfl
  have e111 : (pm_u (pm_u (pm_u (pm_u I 102 13 0) 102 16 1) 102 17 0) 102 18 3) 111 = I 111 := by rw [pm_u_off (by decide), pm_u_off (by decide), pm_u_off (by decide), pm_u_off (by decide)]
  rw [show bl_zer (I 111) 0 = (pm_u (pm_u (pm_u (pm_u I 102 13 0) 102 16 1) 102 17 0) 102 18 3) 111 by rw [e111]; funext k; exact if_neg (Nat.not_lt_zero k), pm_s_rf]

set_option maxHeartbeats 4000000 in
set_option maxRecDepth 100000 in
theorem c_X8_town1 {d : Nat} {I : pm_I} {J : pm_J} {g : Nat → Int32} {z : Nat} (hg1 : I 107 = g) (hz : I 102 10 = nI z) (hz2 : z ≤ 240) (hg : ∀ k, k < z → 0 ≤ g k) {R : mt_R} (hR : (mc_lp g z 240 ((pm_s (pm_u (pm_u (pm_u (pm_u I 102 13 0) 102 16 1) 102 17 0) 102 18 3) 111 (bl_zer (I 111) 24)), (tk_b g z 0, true))) = R) (h : R.2.2 = true) {n : Nat} (hn : R.1 102 17 = nI n) : pm_M (d + 7) 0 0 yX8_town cX8_town 2 (some .int) [.ref 102] SHP I J (fun r sh2 I2 J2 => r = some (.int (nI n)) ∧ sh2 = SHP ∧ J2 = mtJ J g z R.2.1 ∧ mw_told I R.1 n I2) := by
  refine pm_start (own := RX8) (nm := "town") (by decide) rfl rfl (L := [(0, .ref 102)]) rfl (Nat.le_of_ble_eq_true rfl) (fun Γ C C2 => ?_)
  have hokR : mc_ok (pm_s (pm_u (pm_u (pm_u (pm_u I 102 13 0) 102 16 1) 102 17 0) 102 18 3) 111 (bl_zer (I 111) 24)) g z R := by rw [← hR]; exact mc_lp_ok (mc_ok0 hg1)
  have hcopy : ∀ X : pm_I, mw_pre I R.1 n X → pm_G Γ 0 0 102 [(0, .ref 102), (1, .int (nI 24))] [] SHP X (mtJ J g z R.2.1) := by
    intro X hX
    have hC : ∀ j, j ≤ 43 → 1 ≤ j → pm_G Γ 0 0 168 [(0, .ref 102), (1, .int (nI j))] [] SHP (pm_s (pm_s (pm_s (pm_s X 103 (bl_cp (X 103) (X 111) 24)) 104 (bl_cp (X 104) (X 108) 6)) 105 (bl_cp (X 105) (X 109) 6)) 106 (bl_c1 (X 106) (X 110) j)) (mtJ J g z R.2.1) := by
      refine pm_up (fun j => 1 ≤ j → pm_G Γ 0 0 168 [(0, .ref 102), (1, .int (nI j))] [] SHP (pm_s (pm_s (pm_s (pm_s X 103 (bl_cp (X 103) (X 111) 24)) 104 (bl_cp (X 104) (X 108) 6)) 105 (bl_cp (X 105) (X 109) 6)) 106 (bl_c1 (X 106) (X 110) j)) (mtJ J g z R.2.1)) 43 (fun j hj ih h1 => ?_)
      refine g_iload_n (pc := 168) (i := 1) (j := 1) C dX8_town_168 rfl rfl ?_
      refine g_bipush (pc := 169) (v := 43) C dX8_town_169 (by decide) ?_
      refine g_icmp_ge (pc := 171) (tgt := 192) C dX8_town_171 (by decide) (fun h171 => ?_) (fun h171 => ?_)
      · have ej : j = 43 := by have := (nI_leI (a := 43) (b := j) (by decide) (by omega)).mp h171; omega
        subst ej
        refine g_aload_n (pc := 192) (i := 0) (j := 0) C dX8_town_192 rfl rfl ?_
        refine g_getR (pc := 193) C dX8_town_193 lfX8_23 (by first | rfl | assumption) rfl ?_
        refine g_iconst (pc := 196) (v := 0) C dX8_town_196 (by decide) ?_
        refine g_iconst (pc := 197) (v := 0) C dX8_town_197 (by decide) ?_
        refine g_iast (pc := 198) C dX8_town_198 (by first | rfl | assumption) (by decide) (by first | rfl | assumption) (by first | assumption | decide | omega) ?_
        refine g_aload_n (pc := 199) (i := 0) (j := 0) C dX8_town_199 rfl rfl ?_
        refine g_iconst (pc := 200) (v := 0) C dX8_town_200 (by decide) ?_
        refine g_putI (pc := 201) C dX8_town_201 lpX8_202 rfl rfl (by first | rfl | assumption) rfl ?_
        refine g_aload_n (pc := 204) (i := 0) (j := 0) C dX8_town_204 rfl rfl ?_
        refine g_getI (pc := 205) C dX8_town_205 lfX8_82 (by first | rfl | assumption) rfl ?_
        refine g_iret (pc := 208) C C2 dX8_town_208 rfl (Nat.le_refl _) (Nat.le_refl _) ?_
        have hT := mw_told_of hX
        exact ⟨by rw [hT.1], rfl, rfl, hT⟩
      · have hlt : j < 43 := Nat.lt_of_not_le (fun q => h171 ((nI_leI (a := 43) (b := j) (by decide) (by omega)).mpr q))
        refine g_aload_n (pc := 174) (i := 0) (j := 0) C dX8_town_174 rfl rfl ?_
        refine g_getR (pc := 175) C dX8_town_175 lfX8_23 (by first | rfl | assumption) rfl ?_
        refine g_iload_n (pc := 178) (i := 1) (j := 1) C dX8_town_178 rfl rfl ?_
        refine g_aload_n (pc := 179) (i := 0) (j := 0) C dX8_town_179 rfl rfl ?_
        refine g_getR (pc := 180) C dX8_town_180 lfX8_38 (by first | rfl | assumption) rfl ?_
        refine g_iload_n (pc := 183) (i := 1) (j := 1) C dX8_town_183 rfl rfl ?_
        refine g_iald (pc := 184) (j := j) C dX8_town_184 (by first | rfl | assumption) (by decide) (by first | rfl | assumption) hlt ?_
        refine g_iast (pc := 185) (j := j) C dX8_town_185 (by first | rfl | assumption) (by decide) (by first | rfl | assumption) (by omega) ?_
        refine g_iinc (pc := 186) (j := 1) (v := _ + 1) (L2 := [(0, _), (1, _)]) C dX8_town_186 rfl rfl (by decide) rfl ?_
        refine g_goto (pc := 189) (tgt := 168) C dX8_town_189 (by decide) ?_
        refine pm_Geq (ih hlt (by omega)) (by simp only [nI_1]) rfl ?_ rfl
        rw [pm_s_off _ _ _ _ (show (110 : Nat) ≠ 106 by decide), pm_s_off _ _ _ _ (show (110 : Nat) ≠ 105 by decide), pm_s_off _ _ _ _ (show (110 : Nat) ≠ 104 by decide), pm_s_off _ _ _ _ (show (110 : Nat) ≠ 103 by decide), pm_u_s, pm_s_at, pm_s_s, bl_c1_next _ _ _ h1]
    have hB : ∀ j, j ≤ 6 → pm_G Γ 0 0 130 [(0, .ref 102), (1, .int (nI j))] [] SHP (pm_s (pm_s (pm_s X 103 (bl_cp (X 103) (X 111) 24)) 104 (bl_cp (X 104) (X 108) j)) 105 (bl_cp (X 105) (X 109) j)) (mtJ J g z R.2.1) := by
      refine pm_up (fun j => pm_G Γ 0 0 130 [(0, .ref 102), (1, .int (nI j))] [] SHP (pm_s (pm_s (pm_s X 103 (bl_cp (X 103) (X 111) 24)) 104 (bl_cp (X 104) (X 108) j)) 105 (bl_cp (X 105) (X 109) j)) (mtJ J g z R.2.1)) 6 (fun j hj ih => ?_)
      refine g_iload_n (pc := 130) (i := 1) (j := 1) C dX8_town_130 rfl rfl ?_
      refine g_bipush (pc := 131) (v := 6) C dX8_town_131 (by decide) ?_
      refine g_icmp_ge (pc := 133) (tgt := 166) C dX8_town_133 (by decide) (fun h133 => ?_) (fun h133 => ?_)
      · have ej : j = 6 := by have := (nI_leI (a := 6) (b := j) (by decide) (by omega)).mp h133; omega
        subst ej
        refine g_iconst (pc := 166) (v := 1) C dX8_town_166 (by decide) ?_
        refine g_istore_n (pc := 167) (i := 1) (L2 := [(0, _), (1, _)]) C dX8_town_167 rfl (by decide) rfl ?_
        refine pm_Geq (hC 1 (by decide) (Nat.le_refl 1)) rfl rfl ?_ rfl
        have e6 : (pm_s (pm_s (pm_s X 103 (bl_cp (X 103) (X 111) 24)) 104 (bl_cp (X 104) (X 108) 6)) 105 (bl_cp (X 105) (X 109) 6)) 106 = X 106 := by rw [pm_s_off _ _ _ _ (by decide), pm_s_off _ _ _ _ (by decide), pm_s_off _ _ _ _ (by decide)]
        rw [bl_c1_1, ← e6, pm_s_rf]
      · have hlt : j < 6 := Nat.lt_of_not_le (fun q => h133 ((nI_leI (a := 6) (b := j) (by decide) (by omega)).mpr q))
        refine g_aload_n (pc := 136) (i := 0) (j := 0) C dX8_town_136 rfl rfl ?_
        refine g_getR (pc := 137) C dX8_town_137 lfX8_17 (by first | rfl | assumption) rfl ?_
        refine g_iload_n (pc := 140) (i := 1) (j := 1) C dX8_town_140 rfl rfl ?_
        refine g_aload_n (pc := 141) (i := 0) (j := 0) C dX8_town_141 rfl rfl ?_
        refine g_getR (pc := 142) C dX8_town_142 lfX8_32 (by first | rfl | assumption) rfl ?_
        refine g_iload_n (pc := 145) (i := 1) (j := 1) C dX8_town_145 rfl rfl ?_
        refine g_iald (pc := 146) (j := j) C dX8_town_146 (by first | rfl | assumption) (by decide) (by first | rfl | assumption) hlt ?_
        refine g_iast (pc := 147) (j := j) C dX8_town_147 (by first | rfl | assumption) (by decide) (by first | rfl | assumption) hlt ?_
        rw [pm_s_off _ _ _ _ (show (108 : Nat) ≠ 105 by decide), pm_s_off _ _ _ _ (show (108 : Nat) ≠ 104 by decide), pm_s_off _ _ _ _ (show (108 : Nat) ≠ 103 by decide)]
        refine g_aload_n (pc := 148) (i := 0) (j := 0) C dX8_town_148 rfl rfl ?_
        refine g_getR (pc := 149) C dX8_town_149 lfX8_20 (by first | rfl | assumption) rfl ?_
        refine g_iload_n (pc := 152) (i := 1) (j := 1) C dX8_town_152 rfl rfl ?_
        refine g_aload_n (pc := 153) (i := 0) (j := 0) C dX8_town_153 rfl rfl ?_
        refine g_getR (pc := 154) C dX8_town_154 lfX8_35 (by first | rfl | assumption) rfl ?_
        refine g_iload_n (pc := 157) (i := 1) (j := 1) C dX8_town_157 rfl rfl ?_
        refine g_iald (pc := 158) (j := j) C dX8_town_158 (by first | rfl | assumption) (by decide) (by first | rfl | assumption) hlt ?_
        refine g_iast (pc := 159) (j := j) C dX8_town_159 (by first | rfl | assumption) (by decide) (by first | rfl | assumption) hlt ?_
        refine g_iinc (pc := 160) (j := 1) (v := _ + 1) (L2 := [(0, _), (1, _)]) C dX8_town_160 rfl rfl (by decide) rfl ?_
        refine g_goto (pc := 163) (tgt := 130) C dX8_town_163 (by decide) ?_
        refine pm_Geq (ih hlt) (by simp only [nI_1]) rfl ?_ rfl
        funext a k
        unfold pm_u pm_s bl_cp upd
        grind
    have hA : ∀ j, j ≤ 24 → pm_G Γ 0 0 104 [(0, .ref 102), (1, .int (nI j))] [] SHP (pm_s X 103 (bl_cp (X 103) (X 111) j)) (mtJ J g z R.2.1) := by
      refine pm_up (fun j => pm_G Γ 0 0 104 [(0, .ref 102), (1, .int (nI j))] [] SHP (pm_s X 103 (bl_cp (X 103) (X 111) j)) (mtJ J g z R.2.1)) 24 (fun j hj ih => ?_)
      refine g_iload_n (pc := 104) (i := 1) (j := 1) C dX8_town_104 rfl rfl ?_
      refine g_bipush (pc := 105) (v := 24) C dX8_town_105 (by decide) ?_
      refine g_icmp_ge (pc := 107) (tgt := 128) C dX8_town_107 (by decide) (fun h107 => ?_) (fun h107 => ?_)
      · have ej : j = 24 := by have := (nI_leI (a := 24) (b := j) (by decide) (by omega)).mp h107; omega
        subst ej
        refine g_iconst (pc := 128) (v := 0) C dX8_town_128 (by decide) ?_
        refine g_istore_n (pc := 129) (i := 1) (L2 := [(0, _), (1, _)]) C dX8_town_129 rfl (by decide) rfl ?_
        refine pm_Geq (hB 0 (by decide)) rfl rfl ?_ rfl
        have e4 : (pm_s X 103 (bl_cp (X 103) (X 111) 24)) 104 = X 104 := pm_s_off _ _ _ _ (by decide)
        have e5 : (pm_s X 103 (bl_cp (X 103) (X 111) 24)) 105 = X 105 := pm_s_off _ _ _ _ (by decide)
        rw [bl_cp_0, bl_cp_0, ← e4, pm_s_rf, ← e5, pm_s_rf]
      · have hlt : j < 24 := Nat.lt_of_not_le (fun q => h107 ((nI_leI (a := 24) (b := j) (by decide) (by omega)).mpr q))
        refine g_aload_n (pc := 110) (i := 0) (j := 0) C dX8_town_110 rfl rfl ?_
        refine g_getR (pc := 111) C dX8_town_111 lfX8_7 (by first | rfl | assumption) rfl ?_
        refine g_iload_n (pc := 114) (i := 1) (j := 1) C dX8_town_114 rfl rfl ?_
        refine g_aload_n (pc := 115) (i := 0) (j := 0) C dX8_town_115 rfl rfl ?_
        refine g_getR (pc := 116) C dX8_town_116 lfX8_41 (by first | rfl | assumption) rfl ?_
        refine g_iload_n (pc := 119) (i := 1) (j := 1) C dX8_town_119 rfl rfl ?_
        refine g_iald (pc := 120) (j := j) C dX8_town_120 (by first | rfl | assumption) (by decide) (by first | rfl | assumption) hlt ?_
        refine g_iast (pc := 121) (j := j) C dX8_town_121 (by first | rfl | assumption) (by decide) (by first | rfl | assumption) hlt ?_
        refine g_iinc (pc := 122) (j := 1) (v := _ + 1) (L2 := [(0, _), (1, _)]) C dX8_town_122 rfl rfl (by decide) rfl ?_
        refine g_goto (pc := 125) (tgt := 104) C dX8_town_125 (by decide) ?_
        refine pm_Geq (ih hlt) (by simp only [nI_1]) rfl ?_ rfl
        rw [pm_s_off _ _ _ _ (show (111 : Nat) ≠ 103 by decide), pm_u_s, pm_s_at, pm_s_s, bl_cp_next]
    refine g_iconst (pc := 102) (v := 0) C dX8_town_102 (by decide) ?_
    refine g_istore_n (pc := 103) (i := 1) (L2 := [(0, _), (1, _)]) C dX8_town_103 rfl (by decide) rfl ?_
    refine pm_Geq (hA 0 (by decide)) rfl rfl ?_ rfl
    rw [bl_cp_0, pm_s_rf]
  have hend : pm_G Γ 0 0 66 [(0, .ref 102), (1, .int (nI 24))] [] SHP (mts R.1 z R.2) (mtJ J g z R.2.1) := by
    refine g_aload_n (pc := 66) (i := 0) (j := 0) C dX8_town_66 rfl rfl ?_
    refine g_iconst (pc := 67) (v := 0) C dX8_town_67 (by decide) ?_
    refine g_putI (pc := 68) C dX8_town_68 lpX8_88 rfl rfl (by first | rfl | assumption) rfl ?_
    refine g_aload_n (pc := 71) (i := 0) (j := 0) C dX8_town_71 rfl rfl ?_
    refine g_getI (pc := 72) C dX8_town_72 lfX8_142 (by first | rfl | assumption) rfl ?_
    rw [show pm_u (mts R.1 z R.2) 102 10 0 102 16 = ok_v R.2.2 by rw [pm_u_at, pk_un (by decide)]; rfl, h]
    refine g_if_ne (pc := 75) (tgt := 86) C dX8_town_75 (by decide) (fun h75 => ?_) (fun h75 => absurd h75 (show ¬ ok_v true = 0 by decide))
    refine g_aload_n (pc := 86) (i := 0) (j := 0) C dX8_town_86 rfl rfl ?_
    refine g_aload_n (pc := 87) (i := 0) (j := 0) C dX8_town_87 rfl rfl ?_
    refine g_getI (pc := 88) C dX8_town_88 lfX8_156 (by first | rfl | assumption) rfl ?_
    rw [show pm_u (mts R.1 z R.2) 102 10 0 102 17 = nI n by rw [pm_u_at, pk_un (by decide)]; exact hn]
    refine g_putI (pc := 91) C dX8_town_91 lpX8_82 rfl rfl (by first | rfl | assumption) rfl ?_
    refine g_aload_n (pc := 94) (i := 0) (j := 0) C dX8_town_94 rfl rfl ?_
    refine g_aload_n (pc := 95) (i := 0) (j := 0) C dX8_town_95 rfl rfl ?_
    refine g_getI (pc := 96) C dX8_town_96 lfX8_196 (by first | rfl | assumption) rfl ?_
    rw [show pm_u (pm_u (mts R.1 z R.2) 102 10 0) 102 2 (nI n) 102 18 = R.1 102 18 by rw [pm_u_at, pk_un (by decide), pm_u_at, pk_un (by decide)]; rfl]
    refine g_putI (pc := 99) C dX8_town_99 lpX8_13 rfl rfl (by first | rfl | assumption) rfl ?_
    refine hcopy _ ⟨?_, ?_, ?_, fun p p1 p2 p3 p4 => ?_, ?_, ?_, ?_, ?_, fun a a1 a2 => ?_⟩
    · rw [pm_u_at, pk_un (by decide), pm_u_at, pk_us]
    · rw [pm_u_at, pk_us]
    · rw [pm_u_at, pk_un (by decide), pm_u_at, pk_un (by decide), pm_u_at, pk_us]
    · rw [pm_u_at, pk_un p1, pm_u_at, pk_un p2, pm_u_at, pk_un p3]
      have e9 : mts R.1 z R.2 102 p = R.1 102 p := by
        unfold mts mtI
        rw [pm_s_at]
        try dsimp only
        rw [if_neg (by omega), if_neg (by omega), if_neg (by omega), if_neg (by omega), if_neg (by omega)]
      rw [e9, hokR.2.2.2.1 p (by omega) (by omega), mc_F0_102 p4]
    · rw [pm_u_off (by decide), pm_u_off (by decide), pm_u_off (by decide), mts_off (by decide)]
    · rw [pm_u_off (by decide), pm_u_off (by decide), pm_u_off (by decide), mts_off (by decide)]
    · rw [pm_u_off (by decide), pm_u_off (by decide), pm_u_off (by decide), mts_off (by decide)]
    · rw [pm_u_off (by decide), pm_u_off (by decide), pm_u_off (by decide), mts_off (by decide)]
    · rw [pm_u_off a1, pm_u_off a1, pm_u_off a1, mts_off a1, hokR.2.2.2.2 a a1 (by omega) (by omega) (by omega) (by omega), mc_F0_off a1 (by omega)]
  have hloop : ∀ q, ∀ r : mt_R, mc_ok (pm_s (pm_u (pm_u (pm_u (pm_u I 102 13 0) 102 16 1) 102 17 0) 102 18 3) 111 (bl_zer (I 111) 24)) g z r → (r.2.2 = true → z - r.2.1 ≤ q) → mc_lp g z q r = R → pm_G Γ 0 0 45 [(0, .ref 102), (1, .int (nI 24))] [] SHP (mts r.1 z r.2) (mtJ J g z r.2.1) := by
    intro q
    induction q with
    | zero =>
      intro r hok hm hr
      have hf1 := hok.1
      have hb := hok.2.1
      obtain ⟨n, h6, hn⟩ := hok.2.2.1
      have s3 := tk_s_le (f := g) (z := z) (p := r.2.1)
      have e0 := nI_eq (a := tk_s g z r.2.1) (b := 0) (by omega) (by decide)
      refine g_aload_n (pc := 45) (i := 0) (j := 0) C dX8_town_45 rfl rfl ?_
      refine g_getI (pc := 46) C dX8_town_46 lfX8_142 (by first | rfl | assumption) rfl ?_
      rw [mts_16]
      refine g_if_eq (pc := 49) (tgt := 66) C dX8_town_49 (by decide) (fun h49 => ?_) (fun h49 => ?_)
      · have hr2 : r = R := hr
        rw [hr2]
        exact hend
      · refine g_aload_n (pc := 52) (i := 0) (j := 0) C dX8_town_52 rfl rfl ?_
        refine g_getI (pc := 53) C dX8_town_53 lfX8_110 (by first | rfl | assumption) rfl ?_
        rw [mts_11, hf1]
        refine g_if_eq (pc := 56) (tgt := 66) C dX8_town_56 (by decide) (fun h56 => ?_) (fun h56 => ?_)
        · have hr2 : r = R := hr
          rw [hr2]
          exact hend
        · exfalso
          have g1 := ok_n h49
          have g2 := hm g1
          exact h56 (e0.mpr (tk_s_0.mpr (by omega)))
    | succ q ih =>
      intro r hok hm hr
      have hf1 := hok.1
      have hb := hok.2.1
      obtain ⟨n, h6, hn⟩ := hok.2.2.1
      have s3 := tk_s_le (f := g) (z := z) (p := r.2.1)
      have e0 := nI_eq (a := tk_s g z r.2.1) (b := 0) (by omega) (by decide)
      refine g_aload_n (pc := 45) (i := 0) (j := 0) C dX8_town_45 rfl rfl ?_
      refine g_getI (pc := 46) C dX8_town_46 lfX8_142 (by first | rfl | assumption) rfl ?_
      rw [mts_16]
      refine g_if_eq (pc := 49) (tgt := 66) C dX8_town_49 (by decide) (fun h49 => ?_) (fun h49 => ?_)
      · have hr2 : r = R := by
          rw [← hr]
          unfold mc_lp
          first
            | (have q3 : ok_v r.2.2 = 0 := h49; rw [if_neg (fun q9 => Bool.false_ne_true ((ok_0.mp q3).symm.trans q9.1))])
            | (have q3 : tk_s g z r.2.1 = 0 := e0.mp h56; rw [if_neg (fun q9 => q9.2 q3)])
        rw [hr2]
        exact hend
      · refine g_aload_n (pc := 52) (i := 0) (j := 0) C dX8_town_52 rfl rfl ?_
        refine g_getI (pc := 53) C dX8_town_53 lfX8_110 (by first | rfl | assumption) rfl ?_
        rw [mts_11, hf1]
        refine g_if_eq (pc := 56) (tgt := 66) C dX8_town_56 (by decide) (fun h56 => ?_) (fun h56 => ?_)
        · have hr2 : r = R := by
            rw [← hr]
            unfold mc_lp
            first
              | (have q3 : ok_v r.2.2 = 0 := h49; rw [if_neg (fun q9 => Bool.false_ne_true ((ok_0.mp q3).symm.trans q9.1))])
              | (have q3 : tk_s g z r.2.1 = 0 := e0.mp h56; rw [if_neg (fun q9 => q9.2 q3)])
          rw [hr2]
          exact hend
        · have g1 := ok_n h49
          have g2 : ¬ tk_s g z r.2.1 = 0 := fun q9 => h56 (e0.mpr q9)
          have hbz : r.2.1 < z := tk_N_lt g2
          rw [mc_lp, if_pos ⟨g1, g2⟩] at hr
          have hok2 := mc_c1_ok hok
          have hgt := mc_c1_gt (W := r.1) (g := g) (st := r.2) hbz
          obtain ⟨W, b, ok⟩ := r
          dsimp only at *
          subst g1
          have hm2 := hm rfl
          have e10 : W 102 10 = nI z := (hok.2.2.2.1 10 (by decide) (by decide)).trans ((mc_F0_102 (by decide)).trans hz)
          refine g_aload_n (pc := 59) (i := 0) (j := 0) C dX8_town_59 rfl rfl ?_
          refine g_callV (pc := 60) C dX8_town_60 lmX8_199 kcX8_wantClause (by decide) (by first | rfl | assumption) (c_X8_wantClause (I := W) (b := b) hf1 e10 hz2 hg hb hn h6) rfl rfl (Nat.le_of_ble_eq_true rfl) ?_
          intro r9 sh9 I9 J9 hD9; obtain ⟨rfl, rfl, rfl, rfl⟩ := pm_Dq hD9; clear hD9
          try simp only [Option.toList_some, Option.toList_none, List.cons_append, List.nil_append]
          refine g_goto (pc := 63) (tgt := 45) C dX8_town_63 (by decide) ?_
          exact ih (mc_c1 W g z (b, true)) hok2 (fun q9 => by have := hgt q9; have := hok2.2.1; omega) hr
  have hz0 : ∀ j, j ≤ 24 → pm_G Γ 0 0 22 [(0, .ref 102), (1, .int (nI j))] [] SHP (pm_s (pm_u (pm_u (pm_u (pm_u I 102 13 0) 102 16 1) 102 17 0) 102 18 3) 111 (bl_zer (I 111) j)) J := by
    refine pm_up (fun j => pm_G Γ 0 0 22 [(0, .ref 102), (1, .int (nI j))] [] SHP (pm_s (pm_u (pm_u (pm_u (pm_u I 102 13 0) 102 16 1) 102 17 0) 102 18 3) 111 (bl_zer (I 111) j)) J) 24 (fun j hj ih => ?_)
    refine g_iload_n (pc := 22) (i := 1) (j := 1) C dX8_town_22 rfl rfl ?_
    refine g_bipush (pc := 23) (v := 24) C dX8_town_23 (by decide) ?_
    refine g_icmp_ge (pc := 25) (tgt := 41) C dX8_town_25 (by decide) (fun h25 => ?_) (fun h25 => ?_)
    · have ej : j = 24 := by have := (nI_leI (a := 24) (b := j) (by decide) (by omega)).mp h25; omega
      subst ej
      refine g_aload_n (pc := 41) (i := 0) (j := 0) C dX8_town_41 rfl rfl ?_
      refine g_callV (pc := 42) C dX8_town_42 lmX8_146 kcX8_advance (by decide) (by first | rfl | assumption) (c_X8_advance (I := (pm_s (pm_u (pm_u (pm_u (pm_u I 102 13 0) 102 16 1) 102 17 0) 102 18 3) 111 (bl_zer (I 111) 24))) (z := z) (p := 0) (by rw [mc_F0_102 (by decide)]; exact hz) hz2 (by rw [mc_F0_off (by decide) (by decide), hg1]; exact hg) (by rw [pm_s_off _ _ _ _ (by decide), pm_u_at, pk_un (by decide), pm_u_at, pk_un (by decide), pm_u_at, pk_un (by decide), pm_u_at, pk_us]; rfl) (Nat.zero_le _)) rfl rfl (Nat.le_of_ble_eq_true rfl) ?_
      intro r9 sh9 I9 J9 hD9; obtain ⟨rfl, rfl, rfl, rfl⟩ := pm_Dq hD9; clear hD9
      try simp only [Option.toList_some, Option.toList_none, List.cons_append, List.nil_append]
      rw [mc_F0_off (I := I) (a := 107) (by decide) (by decide), hg1, show (pm_s (pm_u (pm_u (pm_u (pm_u I 102 13 0) 102 16 1) 102 17 0) 102 18 3) 111 (bl_zer (I 111) 24)) 102 16 = 1 by rw [pm_s_off _ _ _ _ (by decide), pm_u_at, pk_un (by decide), pm_u_at, pk_un (by decide), pm_u_at, pk_us]]
      exact hloop 240 ((pm_s (pm_u (pm_u (pm_u (pm_u I 102 13 0) 102 16 1) 102 17 0) 102 18 3) 111 (bl_zer (I 111) 24)), (tk_b g z 0, true)) (mc_ok0 hg1) (fun _ => by omega) hR
    · have hlt : j < 24 := Nat.lt_of_not_le (fun q => h25 ((nI_leI (a := 24) (b := j) (by decide) (by omega)).mpr q))
      refine g_aload_n (pc := 28) (i := 0) (j := 0) C dX8_town_28 rfl rfl ?_
      refine g_getR (pc := 29) C dX8_town_29 lfX8_41 (by first | rfl | assumption) rfl ?_
      refine g_iload_n (pc := 32) (i := 1) (j := 1) C dX8_town_32 rfl rfl ?_
      refine g_iconst (pc := 33) (v := 0) C dX8_town_33 (by decide) ?_
      refine g_iast (pc := 34) (j := j) C dX8_town_34 (by first | rfl | assumption) (by decide) (by first | rfl | assumption) hlt ?_
      refine g_iinc (pc := 35) (j := 1) (v := _ + 1) (L2 := [(0, _), (1, _)]) C dX8_town_35 rfl rfl (by decide) rfl ?_
      refine g_goto (pc := 38) (tgt := 22) C dX8_town_38 (by decide) ?_
      refine pm_Geq (ih hlt) (by simp only [nI_1]) rfl ?_ rfl
      rw [pm_u_s, pm_s_at, pm_s_s]
      congr 1
      funext k
      unfold bl_zer upd
      grind
  refine g_aload_n (pc := 0) (i := 0) (j := 0) C dX8_town_0 rfl rfl ?_
  refine g_iconst (pc := 1) (v := 0) C dX8_town_1 (by decide) ?_
  refine g_putI (pc := 2) C dX8_town_2 lpX8_93 rfl rfl (by first | rfl | assumption) rfl ?_
  refine g_aload_n (pc := 5) (i := 0) (j := 0) C dX8_town_5 rfl rfl ?_
  refine g_iconst (pc := 6) (v := 1) C dX8_town_6 (by decide) ?_
  refine g_putI (pc := 7) C dX8_town_7 lpX8_142 (by first | rfl | exact pm_nz | assumption) rfl (by first | rfl | assumption) rfl ?_
  refine g_aload_n (pc := 10) (i := 0) (j := 0) C dX8_town_10 rfl rfl ?_
  refine g_iconst (pc := 11) (v := 0) C dX8_town_11 (by decide) ?_
  refine g_putI (pc := 12) C dX8_town_12 lpX8_156 rfl rfl (by first | rfl | assumption) rfl ?_
  refine g_aload_n (pc := 15) (i := 0) (j := 0) C dX8_town_15 rfl rfl ?_
  refine g_iconst (pc := 16) (v := 3) C dX8_town_16 (by decide) ?_
  refine g_putI (pc := 17) C dX8_town_17 lpX8_196 rfl rfl (by first | rfl | assumption) rfl ?_
  refine g_iconst (pc := 20) (v := 0) C dX8_town_20 (by decide) ?_
  refine g_istore_n (pc := 21) (i := 1) (L2 := [(0, _), (1, _)]) C dX8_town_21 rfl (by decide) rfl ?_
  refine pm_Geq (hz0 0 (by decide)) rfl rfl ?_ rfl
  have e111 : (pm_u (pm_u (pm_u (pm_u I 102 13 0) 102 16 1) 102 17 0) 102 18 3) 111 = I 111 := by rw [pm_u_off (by decide), pm_u_off (by decide), pm_u_off (by decide), pm_u_off (by decide)]
  rw [show bl_zer (I 111) 0 = (pm_u (pm_u (pm_u (pm_u I 102 13 0) 102 16 1) 102 17 0) 102 18 3) 111 by rw [e111]; funext k; exact if_neg (Nat.not_lt_zero k), pm_s_rf]
