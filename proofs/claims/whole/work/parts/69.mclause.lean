/-! The model's warmths, clauses, the whole text, town -/
theorem mw_W_off {W : pm_I} {g : Nat → Int32} {z a : Nat} {mo : Int32} {c : Bool} {st : mt_T} (h : a ≠ 111) : mw_W W g z mo c st a = W a := by
  unfold mw_W
  split
  · exact pm_u_off h
  · rfl
theorem mb_W_off {W : pm_I} {g : Nat → Int32} {z n a : Nat} {k : Int32} {st : mt_T} (h : a ≠ 102) (h2 : a ≠ 108) (h3 : a ≠ 109) (h4 : a ≠ 110) : mb_W W g z n k st a = W a := by
  unfold mb_W
  split
  · simp only [pm_u_off h, pm_u_off h2, pm_u_off h3, pm_u_off h4]
  · rfl
theorem mb_W_102 {W : pm_I} {g : Nat → Int32} {z n p : Nat} {k : Int32} {st : mt_T} (h : p ≠ 17) : mb_W W g z n k st 102 p = W 102 p := by
  unfold mb_W
  split
  · rw [pm_u_at, pk_un h]
    simp only [pm_u_off (show (102 : Nat) ≠ 110 by decide), pm_u_off (show (102 : Nat) ≠ 109 by decide), pm_u_off (show (102 : Nat) ≠ 108 by decide)]
  · rfl
theorem mb_W_17 {W : pm_I} {g : Nat → Int32} {z n : Nat} {k : Int32} {st : mt_T} : mb_W W g z n k st 102 17 = if (mb9 g z n st).2 = true then nI (n + 1) else W 102 17 := by
  unfold mb_W
  split
  · rw [pm_u_at, pk_us]
  · rfl
/-- what holds all along -/
def mc_ok (I : pm_I) (g : Nat → Int32) (z : Nat) (r : mt_R) : Prop := r.1 107 = g ∧ r.2.1 ≤ z ∧ (∃ n, n ≤ 6 ∧ r.1 102 17 = nI n) ∧ (∀ p, p ≠ 17 → p ≠ 18 → r.1 102 p = I 102 p) ∧ ∀ a, a ≠ 102 → a ≠ 108 → a ≠ 109 → a ≠ 110 → a ≠ 111 → r.1 a = I a
theorem mt_kd_neg {g : Nat → Int32} {z b : Nat} : mt_kd g z b < 0 ↔ cs_kd g z b = -3 := by
  rw [cs_kd_eq]
  unfold mt_kd
  repeat' split
  all_goals decide
theorem mt_kd_pos {g : Nat → Int32} {z b : Nat} (h : ¬ mt_kd g z b < 0) : mt_kd g z b = cs_kd g z b := by
  have h2 : ¬ cs_kd g z b = -3 := fun q => h (mt_kd_neg.mpr q)
  rw [cs_kd_eq] at h2 ⊢
  unfold mt_kd
  by_cases q0 : tk_nm g z b (pm_tx 0).2.2
  · rw [if_pos q0, if_pos q0]
    rfl
  rw [if_neg q0, if_neg q0]
  rw [if_neg q0] at h2
  by_cases q1 : tk_nm g z b (pm_tx 1).2.2
  · rw [if_pos q1, if_pos q1]
    rfl
  rw [if_neg q1, if_neg q1]
  rw [if_neg q1] at h2
  by_cases q2 : tk_nm g z b (pm_tx 2).2.2
  · rw [if_pos q2, if_pos q2]
    rfl
  rw [if_neg q2, if_neg q2]
  rw [if_neg q2] at h2
  by_cases q3 : tk_nm g z b (pm_tx 3).2.2
  · rw [if_pos q3, if_pos q3]
    rfl
  rw [if_neg q3, if_neg q3]
  rw [if_neg q3] at h2
  by_cases q4 : tk_nm g z b (pm_tx 4).2.2
  · rw [if_pos q4, if_pos q4]
    rfl
  rw [if_neg q4, if_neg q4]
  rw [if_neg q4] at h2
  by_cases q5 : tk_nm g z b (pm_tx 5).2.2
  · rw [if_pos q5, if_pos q5]
    rfl
  rw [if_neg q5, if_neg q5]
  rw [if_neg q5] at h2
  exact absurd rfl h2
theorem mc_c1_ok {I : pm_I} {g : Nat → Int32} {z : Nat} {r : mt_R} (h : mc_ok I g z r) : mc_ok I g z (mc_c1 r.1 g z r.2) := by
  obtain ⟨h1, h2, ⟨n, h6, hn⟩, h3, h4⟩ := h
  unfold mc_c1
  rw [hn, nI_clamp (by omega)]
  split
  · refine ⟨?_, mb9_le h2, ?_, fun p p1 p2 => ?_, fun a a1 a2 a3 a4 a5 => ?_⟩
    · dsimp only
      rw [mb_W_off (by decide) (by decide) (by decide) (by decide)]; exact h1
    · dsimp only
      rw [mb_W_17]
      by_cases q : (mb9 g z n r.2).2 = true
      · rw [if_pos q]
        exact ⟨n + 1, by have := mb9_ok q; omega, rfl⟩
      · rw [if_neg q]
        exact ⟨n, h6, hn⟩
    · dsimp only
      rw [mb_W_102 p1]; exact h3 p p1 p2
    · dsimp only
      rw [mb_W_off a1 a2 a3 a4]; exact h4 a a1 a2 a3 a4 a5
  · have hw : ∀ mo c, mc_ok I g z (mw_W r.1 g z mo c r.2, mw3 g z mo r.2) := fun mo c => by
      refine ⟨?_, mw3_le h2, ⟨n, h6, ?_⟩, fun p p1 p2 => ?_, fun a a1 a2 a3 a4 a5 => ?_⟩
      · dsimp only
        rw [mw_W_off (by decide)]; exact h1
      · dsimp only
        rw [mw_W_off (by decide)]; exact hn
      · dsimp only
        rw [mw_W_off (by decide)]; exact h3 p p1 p2
      · dsimp only
        rw [mw_W_off a5]; exact h4 a a1 a2 a3 a4 a5
    split
    · exact hw _ _
    · split
      · exact hw _ _
      · split
        · refine ⟨?_, mt_sg_le (mt_num_le (mw0_le h2)), ⟨n, h6, ?_⟩, fun p p1 p2 => ?_, fun a a1 a2 a3 a4 a5 => ?_⟩
          · dsimp only
            rw [pm_u_off (by decide)]; exact h1
          · dsimp only
            rw [pm_u_at, pk_un (by decide)]; exact hn
          · dsimp only
            rw [pm_u_at, pk_un p2]; exact h3 p p1 p2
          · dsimp only
            rw [pm_u_off a1]; exact h4 a a1 a2 a3 a4 a5
        · exact ⟨h1, h2, ⟨n, h6, hn⟩, h3, h4⟩
theorem mc_lp_ok {I : pm_I} {g : Nat → Int32} {z : Nat} : ∀ {m : Nat} {r : mt_R}, mc_ok I g z r → mc_ok I g z (mc_lp g z m r)
  | 0, _, h => h
  | m + 1, r, h => by
    unfold mc_lp
    split
    · exact mc_lp_ok (mc_c1_ok h)
    · exact h
/-- a clause that is told right goes on -/
theorem tk_x_gt {g : Nat → Int32} {z b : Nat} (hb : b < z) : b < tk_x g z b := by
  have h1 := tk_e_gt (f := g) hb
  have h2 := tk_e_le (f := g) (show b ≤ z by omega)
  have h3 := tk_b_le (f := g) (p := tk_e g z b) (z := z) h2.2
  unfold tk_x
  omega
theorem tk_x_ge {g : Nat → Int32} {z b : Nat} (hb : b ≤ z) : b ≤ tk_x g z b := by
  have h2 := tk_e_le (f := g) hb
  have h3 := tk_b_le (f := g) (p := tk_e g z b) (z := z) h2.2
  unfold tk_x
  omega
theorem mt_num_ge {g : Nat → Int32} {z : Nat} {lo hi : Int32} {st : mt_T} (h : st.1 ≤ z) : st.1 ≤ (mt_num g z lo hi st).1 := by
  unfold mt_num
  split
  · exact tk_x_ge h
  · exact Nat.le_refl _
theorem mt_nm_ge {g : Nat → Int32} {z : Nat} {t : List Int32} {st : mt_T} (h : st.1 ≤ z) : st.1 ≤ (mt_nm g z t st).1 := by
  unfold mt_nm
  split
  · exact tk_x_ge h
  · exact Nat.le_refl _
theorem mt_sg_ge {g : Nat → Int32} {z : Nat} {st : mt_T} (h : st.1 ≤ z) : st.1 ≤ (mt_sg g z st).1 := by
  unfold mt_sg
  split
  · exact tk_x_ge h
  · exact Nat.le_refl _
theorem mt_pt_ge {g : Nat → Int32} {z : Nat} {t : List Int32} {lo hi : Int32} {st : mt_T} (h : st.1 ≤ z) : st.1 ≤ (mt_pt g z t lo hi st).1 := by
  unfold mt_pt
  split
  · exact Nat.le_trans (tk_x_ge h) (mt_num_ge (mt_x_le h))
  · exact Nat.le_refl _
theorem mb9_ge {g : Nat → Int32} {z n : Nat} {st : mt_T} (h : st.1 ≤ z) : (mb0 g z n st).1 ≤ (mb9 g z n st).1 :=
  Nat.le_trans (mt_num_ge (mb0_le h)) (Nat.le_trans (mt_nm_ge (mb1_le h)) (Nat.le_trans (mt_num_ge (mb2_le h)) (Nat.le_trans (mt_pt_ge (mb3_le h)) (Nat.le_trans (mt_pt_ge (mb4_le h)) (Nat.le_trans (mt_pt_ge (mb5_le h)) (Nat.le_trans (mt_pt_ge (mb6_le h)) (Nat.le_trans (mt_pt_ge (mb7_le h)) (mt_sg_ge (mb8_le h)))))))))
theorem mc_c1_gt {W : pm_I} {g : Nat → Int32} {z : Nat} {st : mt_T} (h : st.1 < z) (hg : (mc_c1 W g z st).2.2 = true) : st.1 < (mc_c1 W g z st).2.1 := by
  have hle : st.1 ≤ z := Nat.le_of_lt h
  have hx : st.1 < (mt_x g z (st.1, true)).1 := tk_x_gt h
  revert hg
  unfold mc_c1
  split
  · intro hg
    have h6 := mb9_ok hg
    have h1 := mb9_ge (g := g) (n := (W 102 17).toNatClampNeg) hle
    have h2 : mb0 g z (W 102 17).toNatClampNeg st = mt_x g z (st.1, true) := if_pos h6
    rw [h2] at h1
    exact Nat.lt_of_lt_of_le hx h1
  · have hw : ∀ mo, st.1 < (mw3 g z mo st).1 := fun mo => Nat.lt_of_lt_of_le hx (Nat.le_trans (mt_num_ge (mw0_le hle)) (Nat.le_trans (mt_num_ge (mw1_le hle)) (mt_sg_ge (mw2_le hle))))
    split
    · intro _; exact hw _
    · split
      · intro _; exact hw _
      · split
        · intro _
          exact Nat.lt_of_lt_of_le hx (Nat.le_trans (mt_num_ge (mw0_le hle)) (mt_sg_ge (mt_num_le (mw0_le hle))))
        · intro hg
          exact absurd hg Bool.false_ne_true
set_option maxHeartbeats 4000000 in
set_option maxRecDepth 100000 in
theorem c_X8_wantWarmth0 {d : Nat} {I : pm_I} {J : pm_J} {g : Nat → Int32} {z b : Nat} (hg1 : I 107 = g) (hz : I 102 10 = nI z) (hz2 : z ≤ 240) (hg : ∀ k, k < z → 0 ≤ g k) (hb : b ≤ z)  : pm_M (d + 5) 0 0 yX8_wantWarmth cX8_wantWarmth 4 (none : Option Jvm.ClassFile.FieldType) [.ref 102, .int 0] SHP (mts I z (b, true)) (mtJ J g z b) (pm_D none SHP (mts (mw_W I g z 40 false (b, true)) z ((mw3 g z 40 (b, true)))) (mtJ J g z ((mw3 g z 40 (b, true))).1)) := by
  refine pm_start (own := RX8) (nm := "wantWarmth") (by decide) rfl rfl (L := [(0, .ref 102), (1, .int 0)]) rfl (Nat.le_of_ble_eq_true rfl) (fun Γ C C2 => ?_)
  refine g_aload_n (pc := 0) (i := 0) (j := 0) C dX8_wantWarmth_0 rfl rfl ?_
  refine g_callV (pc := 1) C dX8_wantWarmth_1 lmX8_146 kcX8_advance (by decide) (by first | rfl | assumption) (w8_advance hg1 hz hz2 hg (st := (b, true)) hb) rfl rfl (Nat.le_of_ble_eq_true rfl) ?_
  intro r9 sh9 I9 J9 hD9; obtain ⟨rfl, rfl, rfl, rfl⟩ := pm_Dq hD9; clear hD9
  try simp only [Option.toList_some, Option.toList_none, List.cons_append, List.nil_append]
  rw [show mt_x g z (b, true) = (mw0 g z (b, true)) from rfl]
  refine g_aload_n (pc := 4) (i := 0) (j := 0) C dX8_wantWarmth_4 rfl rfl ?_
  refine g_iconst (pc := 5) (v := 0) C dX8_wantWarmth_5 (by decide) ?_
  refine g_bipush (pc := 6) (v := 23) C dX8_wantWarmth_6 (by decide) ?_
  refine g_callV (pc := 8) C dX8_wantWarmth_8 lmX8_152 kcX8_wantNumber (by decide) (by first | rfl | assumption) (c_X8_wantNumber hg1 hz hz2 hg (st := (mw0 g z (b, true))) (mw0_le (st := (b, true)) hb) (by decide)) rfl rfl (Nat.le_of_ble_eq_true rfl) ?_
  intro r9 sh9 I9 J9 hD9; obtain ⟨rfl, rfl, rfl, rfl⟩ := pm_Dq hD9; clear hD9
  try simp only [Option.toList_some, Option.toList_none, List.cons_append, List.nil_append]
  rw [show mt_num g z 0 23 (mw0 g z (b, true)) = (mw1 g z (b, true)) from rfl]
  refine g_istore_n (pc := 11) (i := 2) (L2 := [(0, _), (1, _), (2, _)]) C dX8_wantWarmth_11 rfl (by decide) rfl ?_
  refine g_aload_n (pc := 12) (i := 0) (j := 0) C dX8_wantWarmth_12 rfl rfl ?_
  refine g_iconst (pc := 13) (v := 0) C dX8_wantWarmth_13 (by decide) ?_
  refine g_iload_n (pc := 14) (i := 1) (j := 1) C dX8_wantWarmth_14 rfl rfl ?_
  refine g_if_eq (pc := 15) (tgt := 23) C dX8_wantWarmth_15 (by decide) (fun h15 => ?_) (fun h15 => absurd (by decide : (0 : Int32) = 0) h15)
  refine g_bipush (pc := 23) (v := 40) C dX8_wantWarmth_23 (by decide) ?_
  refine g_callV (pc := 25) C dX8_wantWarmth_25 lmX8_152 kcX8_wantNumber (by decide) (by first | rfl | assumption) (c_X8_wantNumber hg1 hz hz2 hg (st := (mw1 g z (b, true))) (mw1_le (st := (b, true)) hb) (by decide)) rfl rfl (Nat.le_of_ble_eq_true rfl) ?_
  intro r9 sh9 I9 J9 hD9; obtain ⟨rfl, rfl, rfl, rfl⟩ := pm_Dq hD9; clear hD9
  try simp only [Option.toList_some, Option.toList_none, List.cons_append, List.nil_append]
  rw [show mt_num g z 0 40 (mw1 g z (b, true)) = (mw2 g z 40 (b, true)) from rfl]
  refine g_istore_n (pc := 28) (i := 3) (L2 := [(0, _), (1, _), (2, _), (3, _)]) C dX8_wantWarmth_28 rfl (by decide) rfl ?_
  refine g_aload_n (pc := 29) (i := 0) (j := 0) C dX8_wantWarmth_29 rfl rfl ?_
  refine g_callV (pc := 30) C dX8_wantWarmth_30 lmX8_175 kcX8_wantEnd (by decide) (by first | rfl | assumption) (c_X8_wantEnd hg1 hz hz2 hg (st := (mw2 g z 40 (b, true))) (mw2_le (st := (b, true)) hb)) rfl rfl (Nat.le_of_ble_eq_true rfl) ?_
  intro r9 sh9 I9 J9 hD9; obtain ⟨rfl, rfl, rfl, rfl⟩ := pm_Dq hD9; clear hD9
  try simp only [Option.toList_some, Option.toList_none, List.cons_append, List.nil_append]
  rw [show mt_sg g z (mw2 g z 40 (b, true)) = (mw3 g z 40 (b, true)) from rfl]
  refine g_aload_n (pc := 33) (i := 0) (j := 0) C dX8_wantWarmth_33 rfl rfl ?_
  refine g_getI (pc := 34) C dX8_wantWarmth_34 lfX8_142 (by first | rfl | assumption) rfl ?_
  rw [mts_16]
  refine g_if_eq (pc := 37) (tgt := 57) C dX8_wantWarmth_37 (by decide) (fun h37 => ?_) (fun h37 => ?_)
  · refine g_vret (pc := 57) C C2 dX8_wantWarmth_57 (Nat.le_refl _) (Nat.le_refl _) ?_
    by_cases hok : (mw3 g z 40 (b, true)).2 = true
    · have e8 : mw_W I g z 40 false (b, true) = _ := if_pos hok
      first
        | (have q3 : ok_v (mw3 g z 40 (b, true)).2 = 0 := h37; rw [hok] at q3; exact absurd q3 (by decide))
        | (refine ⟨rfl, rfl, ?_, rfl⟩; rw [e8, mts_u (by decide) (by decide), ee, nI_clamp (by omega)]; rfl)
    · have e8 : mw_W I g z 40 false (b, true) = I := if_neg hok
      first
        | (have q3 := ok_n h37; exact absurd q3 hok)
        | (exact ⟨rfl, rfl, by rw [e8], rfl⟩)
  · have hok : (mw3 g z 40 (b, true)).2 = true := ok_n h37
    obtain ⟨e, he, ee⟩ := mw3_h hok
    refine g_aload_n (pc := 40) (i := 0) (j := 0) C dX8_wantWarmth_40 rfl rfl ?_
    refine g_getR (pc := 41) C dX8_wantWarmth_41 lfX8_41 (by first | rfl | assumption) rfl ?_
    refine g_iload_n (pc := 44) (i := 2) (j := 2) C dX8_wantWarmth_44 rfl rfl ?_
    rw [ee]
    refine g_iload_n (pc := 45) (i := 1) (j := 1) C dX8_wantWarmth_45 rfl rfl ?_
    refine g_if_eq (pc := 46) (tgt := 55) C dX8_wantWarmth_46 (by decide) (fun h46 => ?_) (fun h46 => absurd (by decide : (0 : Int32) = 0) h46)
    refine g_iload_n (pc := 55) (i := 3) (j := 3) C dX8_wantWarmth_55 rfl rfl ?_
    refine g_iast (pc := 56) (j := e) C dX8_wantWarmth_56 (by first | rfl | assumption) (by decide) rfl he ?_
    refine g_vret (pc := 57) C C2 dX8_wantWarmth_57 (Nat.le_refl _) (Nat.le_refl _) ?_
    by_cases hok : (mw3 g z 40 (b, true)).2 = true
    · have e8 : mw_W I g z 40 false (b, true) = _ := if_pos hok
      first
        | (have q3 : ok_v (mw3 g z 40 (b, true)).2 = 0 := h37; rw [hok] at q3; exact absurd q3 (by decide))
        | (refine ⟨rfl, rfl, ?_, rfl⟩; rw [e8, mts_u (by decide) (by decide), ee, nI_clamp (by omega)]; rfl)
    · have e8 : mw_W I g z 40 false (b, true) = I := if_neg hok
      first
        | (have q3 := ok_n h37; exact absurd q3 hok)
        | (exact ⟨rfl, rfl, by rw [e8], rfl⟩)

set_option maxHeartbeats 4000000 in
set_option maxRecDepth 100000 in
theorem c_X8_wantWarmth1 {d : Nat} {I : pm_I} {J : pm_J} {g : Nat → Int32} {z b : Nat} (hg1 : I 107 = g) (hz : I 102 10 = nI z) (hz2 : z ≤ 240) (hg : ∀ k, k < z → 0 ≤ g k) (hb : b ≤ z)  : pm_M (d + 5) 0 0 yX8_wantWarmth cX8_wantWarmth 4 (none : Option Jvm.ClassFile.FieldType) [.ref 102, .int 1] SHP (mts I z (b, true)) (mtJ J g z b) (pm_D none SHP (mts (mw_W I g z 20 true (b, true)) z ((mw3 g z 20 (b, true)))) (mtJ J g z ((mw3 g z 20 (b, true))).1)) := by
  refine pm_start (own := RX8) (nm := "wantWarmth") (by decide) rfl rfl (L := [(0, .ref 102), (1, .int 1)]) rfl (Nat.le_of_ble_eq_true rfl) (fun Γ C C2 => ?_)
  refine g_aload_n (pc := 0) (i := 0) (j := 0) C dX8_wantWarmth_0 rfl rfl ?_
  refine g_callV (pc := 1) C dX8_wantWarmth_1 lmX8_146 kcX8_advance (by decide) (by first | rfl | assumption) (w8_advance hg1 hz hz2 hg (st := (b, true)) hb) rfl rfl (Nat.le_of_ble_eq_true rfl) ?_
  intro r9 sh9 I9 J9 hD9; obtain ⟨rfl, rfl, rfl, rfl⟩ := pm_Dq hD9; clear hD9
  try simp only [Option.toList_some, Option.toList_none, List.cons_append, List.nil_append]
  rw [show mt_x g z (b, true) = (mw0 g z (b, true)) from rfl]
  refine g_aload_n (pc := 4) (i := 0) (j := 0) C dX8_wantWarmth_4 rfl rfl ?_
  refine g_iconst (pc := 5) (v := 0) C dX8_wantWarmth_5 (by decide) ?_
  refine g_bipush (pc := 6) (v := 23) C dX8_wantWarmth_6 (by decide) ?_
  refine g_callV (pc := 8) C dX8_wantWarmth_8 lmX8_152 kcX8_wantNumber (by decide) (by first | rfl | assumption) (c_X8_wantNumber hg1 hz hz2 hg (st := (mw0 g z (b, true))) (mw0_le (st := (b, true)) hb) (by decide)) rfl rfl (Nat.le_of_ble_eq_true rfl) ?_
  intro r9 sh9 I9 J9 hD9; obtain ⟨rfl, rfl, rfl, rfl⟩ := pm_Dq hD9; clear hD9
  try simp only [Option.toList_some, Option.toList_none, List.cons_append, List.nil_append]
  rw [show mt_num g z 0 23 (mw0 g z (b, true)) = (mw1 g z (b, true)) from rfl]
  refine g_istore_n (pc := 11) (i := 2) (L2 := [(0, _), (1, _), (2, _)]) C dX8_wantWarmth_11 rfl (by decide) rfl ?_
  refine g_aload_n (pc := 12) (i := 0) (j := 0) C dX8_wantWarmth_12 rfl rfl ?_
  refine g_iconst (pc := 13) (v := 0) C dX8_wantWarmth_13 (by decide) ?_
  refine g_iload_n (pc := 14) (i := 1) (j := 1) C dX8_wantWarmth_14 rfl rfl ?_
  refine g_if_eq (pc := 15) (tgt := 23) C dX8_wantWarmth_15 (by decide) (fun h15 => absurd h15 (by decide)) (fun h15 => ?_)
  refine g_bipush (pc := 18) (v := 20) C dX8_wantWarmth_18 (by decide) ?_
  refine g_goto (pc := 20) (tgt := 25) C dX8_wantWarmth_20 (by decide) ?_
  refine g_callV (pc := 25) C dX8_wantWarmth_25 lmX8_152 kcX8_wantNumber (by decide) (by first | rfl | assumption) (c_X8_wantNumber hg1 hz hz2 hg (st := (mw1 g z (b, true))) (mw1_le (st := (b, true)) hb) (by decide)) rfl rfl (Nat.le_of_ble_eq_true rfl) ?_
  intro r9 sh9 I9 J9 hD9; obtain ⟨rfl, rfl, rfl, rfl⟩ := pm_Dq hD9; clear hD9
  try simp only [Option.toList_some, Option.toList_none, List.cons_append, List.nil_append]
  rw [show mt_num g z 0 20 (mw1 g z (b, true)) = (mw2 g z 20 (b, true)) from rfl]
  refine g_istore_n (pc := 28) (i := 3) (L2 := [(0, _), (1, _), (2, _), (3, _)]) C dX8_wantWarmth_28 rfl (by decide) rfl ?_
  refine g_aload_n (pc := 29) (i := 0) (j := 0) C dX8_wantWarmth_29 rfl rfl ?_
  refine g_callV (pc := 30) C dX8_wantWarmth_30 lmX8_175 kcX8_wantEnd (by decide) (by first | rfl | assumption) (c_X8_wantEnd hg1 hz hz2 hg (st := (mw2 g z 20 (b, true))) (mw2_le (st := (b, true)) hb)) rfl rfl (Nat.le_of_ble_eq_true rfl) ?_
  intro r9 sh9 I9 J9 hD9; obtain ⟨rfl, rfl, rfl, rfl⟩ := pm_Dq hD9; clear hD9
  try simp only [Option.toList_some, Option.toList_none, List.cons_append, List.nil_append]
  rw [show mt_sg g z (mw2 g z 20 (b, true)) = (mw3 g z 20 (b, true)) from rfl]
  refine g_aload_n (pc := 33) (i := 0) (j := 0) C dX8_wantWarmth_33 rfl rfl ?_
  refine g_getI (pc := 34) C dX8_wantWarmth_34 lfX8_142 (by first | rfl | assumption) rfl ?_
  rw [mts_16]
  refine g_if_eq (pc := 37) (tgt := 57) C dX8_wantWarmth_37 (by decide) (fun h37 => ?_) (fun h37 => ?_)
  · refine g_vret (pc := 57) C C2 dX8_wantWarmth_57 (Nat.le_refl _) (Nat.le_refl _) ?_
    by_cases hok : (mw3 g z 20 (b, true)).2 = true
    · have e8 : mw_W I g z 20 true (b, true) = _ := if_pos hok
      first
        | (have q3 : ok_v (mw3 g z 20 (b, true)).2 = 0 := h37; rw [hok] at q3; exact absurd q3 (by decide))
        | (refine ⟨rfl, rfl, ?_, rfl⟩; rw [e8, mts_u (by decide) (by decide), ee, nI_clamp (by omega)]; rfl)
    · have e8 : mw_W I g z 20 true (b, true) = I := if_neg hok
      first
        | (have q3 := ok_n h37; exact absurd q3 hok)
        | (exact ⟨rfl, rfl, by rw [e8], rfl⟩)
  · have hok : (mw3 g z 20 (b, true)).2 = true := ok_n h37
    obtain ⟨e, he, ee⟩ := mw3_h hok
    refine g_aload_n (pc := 40) (i := 0) (j := 0) C dX8_wantWarmth_40 rfl rfl ?_
    refine g_getR (pc := 41) C dX8_wantWarmth_41 lfX8_41 (by first | rfl | assumption) rfl ?_
    refine g_iload_n (pc := 44) (i := 2) (j := 2) C dX8_wantWarmth_44 rfl rfl ?_
    rw [ee]
    refine g_iload_n (pc := 45) (i := 1) (j := 1) C dX8_wantWarmth_45 rfl rfl ?_
    refine g_if_eq (pc := 46) (tgt := 55) C dX8_wantWarmth_46 (by decide) (fun h46 => absurd h46 (by decide)) (fun h46 => ?_)
    refine g_iconst (pc := 49) (v := 0) C dX8_wantWarmth_49 (by decide) ?_
    refine g_iload_n (pc := 50) (i := 3) (j := 3) C dX8_wantWarmth_50 rfl rfl ?_
    refine g_isub (pc := 51) C dX8_wantWarmth_51 ?_
    refine g_goto (pc := 52) (tgt := 56) C dX8_wantWarmth_52 (by decide) ?_
    refine g_iast (pc := 56) (j := e) C dX8_wantWarmth_56 (by first | rfl | assumption) (by decide) rfl he ?_
    refine g_vret (pc := 57) C C2 dX8_wantWarmth_57 (Nat.le_refl _) (Nat.le_refl _) ?_
    by_cases hok : (mw3 g z 20 (b, true)).2 = true
    · have e8 : mw_W I g z 20 true (b, true) = _ := if_pos hok
      first
        | (have q3 : ok_v (mw3 g z 20 (b, true)).2 = 0 := h37; rw [hok] at q3; exact absurd q3 (by decide))
        | (refine ⟨rfl, rfl, ?_, rfl⟩; rw [e8, mts_u (by decide) (by decide), ee, nI_clamp (by omega)]; rfl)
    · have e8 : mw_W I g z 20 true (b, true) = I := if_neg hok
      first
        | (have q3 := ok_n h37; exact absurd q3 hok)
        | (exact ⟨rfl, rfl, by rw [e8], rfl⟩)

set_option maxHeartbeats 4000000 in
set_option maxRecDepth 100000 in
theorem c_X8_wantClause {d : Nat} {I : pm_I} {J : pm_J} {g : Nat → Int32} {z b : Nat} (hg1 : I 107 = g) (hz : I 102 10 = nI z) (hz2 : z ≤ 240) (hg : ∀ k, k < z → 0 ≤ g k) (hb : b ≤ z) {n : Nat} (hn : I 102 17 = nI n) (h6 : n ≤ 6)  : pm_M (d + 6) 0 0 yX8_wantClause cX8_wantClause 1 (none : Option Jvm.ClassFile.FieldType) [.ref 102] SHP (mts I z (b, true)) (mtJ J g z b) (pm_D none SHP (mts (mc_c1 I g z (b, true)).1 z (mc_c1 I g z (b, true)).2) (mtJ J g z (mc_c1 I g z (b, true)).2.1)) := by
  refine pm_start (own := RX8) (nm := "wantClause") (by decide) rfl rfl (L := [(0, .ref 102)]) rfl (Nat.le_of_ble_eq_true rfl) (fun Γ C C2 => ?_)
  have hc : mc_c1 I g z (b, true) = if ¬ mt_kd g z b < 0 then (mb_W I g z n (mt_kd g z b) (b, true), mb9 g z n (b, true)) else if tk_nm g z b (pm_tx 12).2.2 then (mw_W I g z 40 false (b, true), mw3 g z 40 (b, true)) else if tk_nm g z b (pm_tx 13).2.2 then (mw_W I g z 20 true (b, true), mw3 g z 20 (b, true)) else if tk_nm g z b (pm_tx 14).2.2 then (pm_u I 102 18 (tk_val g z (mw0 g z (b, true)).1), mt_sg g z (mt_num g z 1 20 (mw0 g z (b, true)))) else (I, (b, false)) := by
    unfold mc_c1
    rw [hn, nI_clamp (by omega)]
  refine g_aload_n (pc := 0) (i := 0) (j := 0) C dX8_wantClause_0 rfl rfl ?_
  refine g_callV (pc := 1) C dX8_wantClause_1 lmX8_178 kcX8_kindHere (by decide) (by first | rfl | assumption) (c_X8_kindHere hg1 hz hz2 hg (st := (b, true)) hb) rfl rfl (Nat.le_of_ble_eq_true rfl) ?_
  intro r9 sh9 I9 J9 hD9; obtain ⟨rfl, rfl, rfl, rfl⟩ := pm_Dq hD9; clear hD9
  try simp only [Option.toList_some, Option.toList_none, List.cons_append, List.nil_append]
  refine g_if_lt (pc := 4) (tgt := 18) C dX8_wantClause_4 (by decide) (fun h4 => ?_) (fun h4 => ?_)
  · refine g_aload_n (pc := 18) (i := 0) (j := 0) C dX8_wantClause_18 rfl rfl ?_
    refine g_ldc2 (pc := 19) C dX8_wantClause_19 lcX8_186 ?_
    refine g_callV (pc := 22) C dX8_wantClause_22 lmX8_128 kcX8_isWord (by decide) (by first | rfl | assumption) (c_X8_isWord (i := 12) hg1 hz hz2 hg (st := (b, true)) hb (by decide)) rfl rfl (Nat.le_of_ble_eq_true rfl) ?_
    intro r9 sh9 I9 J9 hD9; obtain ⟨rfl, rfl, rfl, rfl⟩ := pm_Dq hD9; clear hD9
    try simp only [Option.toList_some, Option.toList_none, List.cons_append, List.nil_append]
    refine g_if_neB (pc := 25) (tgt := 38) C dX8_wantClause_25 (by decide) (fun h25 => ?_) (fun h25 => ?_)
    · refine g_aload_n (pc := 38) (i := 0) (j := 0) C dX8_wantClause_38 rfl rfl ?_
      refine g_aload_n (pc := 39) (i := 0) (j := 0) C dX8_wantClause_39 rfl rfl ?_
      refine g_ldc2 (pc := 40) C dX8_wantClause_40 lcX8_188 ?_
      refine g_callV (pc := 43) C dX8_wantClause_43 lmX8_128 kcX8_isWord (by decide) (by first | rfl | assumption) (c_X8_isWord (i := 13) hg1 hz hz2 hg (st := (b, true)) hb (by decide)) rfl rfl (Nat.le_of_ble_eq_true rfl) ?_
      intro r9 sh9 I9 J9 hD9; obtain ⟨rfl, rfl, rfl, rfl⟩ := pm_Dq hD9; clear hD9
      try simp only [Option.toList_some, Option.toList_none, List.cons_append, List.nil_append]
      first
        | (have q12 : tk_nm g z b (pm_tx 12).2.2 := h25; rw [show pm_b (tk_nm g z (b, true).1 (pm_tx 13).2.2) = 0 from if_neg (tk_nm_1213 q12)]; refine g_callV (pc := 46) C dX8_wantClause_46 lmX8_190 kcX8_wantWarmth (by decide) (by first | rfl | assumption) (c_X8_wantWarmth0 hg1 hz hz2 hg hb) rfl rfl (Nat.le_of_ble_eq_true rfl) ?_)
        | (have q13 : tk_nm g z b (pm_tx 13).2.2 := h35; rw [show pm_b (tk_nm g z (b, true).1 (pm_tx 13).2.2) = 1 from if_pos q13]; refine g_callV (pc := 46) C dX8_wantClause_46 lmX8_190 kcX8_wantWarmth (by decide) (by first | rfl | assumption) (c_X8_wantWarmth1 hg1 hz hz2 hg hb) rfl rfl (Nat.le_of_ble_eq_true rfl) ?_)
      intro r9 sh9 I9 J9 hD9; obtain ⟨rfl, rfl, rfl, rfl⟩ := pm_Dq hD9; clear hD9
      try simp only [Option.toList_some, Option.toList_none, List.cons_append, List.nil_append]
      refine g_goto (pc := 49) (tgt := 89) C dX8_wantClause_49 (by decide) ?_
      refine g_vret (pc := 89) C C2 dX8_wantClause_89 (Nat.le_refl _) (Nat.le_refl _) ?_
      have n4 := mt_kd_neg (g := g) (z := z) (b := b)
      first
        | (have q0 : ¬ mt_kd g z b < 0 := h4; rw [if_pos q0] at hc; exact ⟨rfl, rfl, by rw [hc], by rw [hc]⟩)
        | (have q0 : mt_kd g z b < 0 := h4; have q1 : tk_nm g z b (pm_tx 12).2.2 := h25; rw [if_neg (fun q9 => q9 q0), if_pos q1] at hc; exact ⟨rfl, rfl, by rw [hc], by rw [hc]⟩)
        | (have q0 : mt_kd g z b < 0 := h4; have q1 : ¬ tk_nm g z b (pm_tx 12).2.2 := h25; have q2 : tk_nm g z b (pm_tx 13).2.2 := h35; rw [if_neg (fun q9 => q9 q0), if_neg q1, if_pos q2] at hc; exact ⟨rfl, rfl, by rw [hc], by rw [hc]⟩)
        | (have q0 : mt_kd g z b < 0 := h4; have q1 : ¬ tk_nm g z b (pm_tx 12).2.2 := h25; have q2 : ¬ tk_nm g z b (pm_tx 13).2.2 := h35; have q3 : tk_nm g z b (pm_tx 14).2.2 := h59; rw [if_neg (fun q9 => q9 q0), if_neg q1, if_neg q2, if_pos q3] at hc; exact ⟨rfl, rfl, by rw [hc], by rw [hc]⟩)
        | (have q0 : mt_kd g z b < 0 := h4; have q1 : ¬ tk_nm g z b (pm_tx 12).2.2 := h25; have q2 : ¬ tk_nm g z b (pm_tx 13).2.2 := h35; have q3 : ¬ tk_nm g z b (pm_tx 14).2.2 := h59; rw [if_neg (fun q9 => q9 q0), if_neg q1, if_neg q2, if_neg q3] at hc; exact ⟨rfl, rfl, by rw [hc], by rw [hc]⟩)
    · refine g_aload_n (pc := 28) (i := 0) (j := 0) C dX8_wantClause_28 rfl rfl ?_
      refine g_ldc2 (pc := 29) C dX8_wantClause_29 lcX8_188 ?_
      refine g_callV (pc := 32) C dX8_wantClause_32 lmX8_128 kcX8_isWord (by decide) (by first | rfl | assumption) (c_X8_isWord (i := 13) hg1 hz hz2 hg (st := (b, true)) hb (by decide)) rfl rfl (Nat.le_of_ble_eq_true rfl) ?_
      intro r9 sh9 I9 J9 hD9; obtain ⟨rfl, rfl, rfl, rfl⟩ := pm_Dq hD9; clear hD9
      try simp only [Option.toList_some, Option.toList_none, List.cons_append, List.nil_append]
      refine g_if_eqB (pc := 35) (tgt := 52) C dX8_wantClause_35 (by decide) (fun h35 => ?_) (fun h35 => ?_)
      · refine g_aload_n (pc := 52) (i := 0) (j := 0) C dX8_wantClause_52 rfl rfl ?_
        refine g_ldc2 (pc := 53) C dX8_wantClause_53 lcX8_194 ?_
        refine g_callV (pc := 56) C dX8_wantClause_56 lmX8_128 kcX8_isWord (by decide) (by first | rfl | assumption) (c_X8_isWord (i := 14) hg1 hz hz2 hg (st := (b, true)) hb (by decide)) rfl rfl (Nat.le_of_ble_eq_true rfl) ?_
        intro r9 sh9 I9 J9 hD9; obtain ⟨rfl, rfl, rfl, rfl⟩ := pm_Dq hD9; clear hD9
        try simp only [Option.toList_some, Option.toList_none, List.cons_append, List.nil_append]
        refine g_if_eqB (pc := 59) (tgt := 84) C dX8_wantClause_59 (by decide) (fun h59 => ?_) (fun h59 => ?_)
        · refine g_aload_n (pc := 84) (i := 0) (j := 0) C dX8_wantClause_84 rfl rfl ?_
          refine g_iconst (pc := 85) (v := 0) C dX8_wantClause_85 (by decide) ?_
          refine g_putI (pc := 86) C dX8_wantClause_86 lpX8_142 rfl rfl (by first | rfl | assumption) rfl ?_
          rw [show pm_u (mts I z (b, true)) 102 16 0 = mts I z (b, false) from mtI_u16]
          refine g_vret (pc := 89) C C2 dX8_wantClause_89 (Nat.le_refl _) (Nat.le_refl _) ?_
          have n4 := mt_kd_neg (g := g) (z := z) (b := b)
          first
            | (have q0 : ¬ mt_kd g z b < 0 := h4; rw [if_pos q0] at hc; exact ⟨rfl, rfl, by rw [hc], by rw [hc]⟩)
            | (have q0 : mt_kd g z b < 0 := h4; have q1 : tk_nm g z b (pm_tx 12).2.2 := h25; rw [if_neg (fun q9 => q9 q0), if_pos q1] at hc; exact ⟨rfl, rfl, by rw [hc], by rw [hc]⟩)
            | (have q0 : mt_kd g z b < 0 := h4; have q1 : ¬ tk_nm g z b (pm_tx 12).2.2 := h25; have q2 : tk_nm g z b (pm_tx 13).2.2 := h35; rw [if_neg (fun q9 => q9 q0), if_neg q1, if_pos q2] at hc; exact ⟨rfl, rfl, by rw [hc], by rw [hc]⟩)
            | (have q0 : mt_kd g z b < 0 := h4; have q1 : ¬ tk_nm g z b (pm_tx 12).2.2 := h25; have q2 : ¬ tk_nm g z b (pm_tx 13).2.2 := h35; have q3 : tk_nm g z b (pm_tx 14).2.2 := h59; rw [if_neg (fun q9 => q9 q0), if_neg q1, if_neg q2, if_pos q3] at hc; exact ⟨rfl, rfl, by rw [hc], by rw [hc]⟩)
            | (have q0 : mt_kd g z b < 0 := h4; have q1 : ¬ tk_nm g z b (pm_tx 12).2.2 := h25; have q2 : ¬ tk_nm g z b (pm_tx 13).2.2 := h35; have q3 : ¬ tk_nm g z b (pm_tx 14).2.2 := h59; rw [if_neg (fun q9 => q9 q0), if_neg q1, if_neg q2, if_neg q3] at hc; exact ⟨rfl, rfl, by rw [hc], by rw [hc]⟩)
        · refine g_aload_n (pc := 62) (i := 0) (j := 0) C dX8_wantClause_62 rfl rfl ?_
          refine g_callV (pc := 63) C dX8_wantClause_63 lmX8_146 kcX8_advance (by decide) (by first | rfl | assumption) (w8_advance hg1 hz hz2 hg (st := (b, true)) hb) rfl rfl (Nat.le_of_ble_eq_true rfl) ?_
          intro r9 sh9 I9 J9 hD9; obtain ⟨rfl, rfl, rfl, rfl⟩ := pm_Dq hD9; clear hD9
          try simp only [Option.toList_some, Option.toList_none, List.cons_append, List.nil_append]
          rw [show mt_x g z (b, true) = (mw0 g z (b, true)) from rfl]
          refine g_aload_n (pc := 66) (i := 0) (j := 0) C dX8_wantClause_66 rfl rfl ?_
          refine g_aload_n (pc := 67) (i := 0) (j := 0) C dX8_wantClause_67 rfl rfl ?_
          refine g_iconst (pc := 68) (v := 1) C dX8_wantClause_68 (by decide) ?_
          refine g_bipush (pc := 69) (v := 20) C dX8_wantClause_69 (by decide) ?_
          refine g_callV (pc := 71) C dX8_wantClause_71 lmX8_152 kcX8_wantNumber (by decide) (by first | rfl | assumption) (c_X8_wantNumber hg1 hz hz2 hg (st := (mw0 g z (b, true))) (mw0_le (st := (b, true)) hb) (by decide)) rfl rfl (Nat.le_of_ble_eq_true rfl) ?_
          intro r9 sh9 I9 J9 hD9; obtain ⟨rfl, rfl, rfl, rfl⟩ := pm_Dq hD9; clear hD9
          try simp only [Option.toList_some, Option.toList_none, List.cons_append, List.nil_append]
          refine g_putI (pc := 74) C dX8_wantClause_74 lpX8_196 rfl rfl (by first | rfl | assumption) rfl ?_
          rw [mts_uo (Or.inr rfl)]
          refine g_aload_n (pc := 77) (i := 0) (j := 0) C dX8_wantClause_77 rfl rfl ?_
          refine g_callV (pc := 78) C dX8_wantClause_78 lmX8_175 kcX8_wantEnd (by decide) (by first | rfl | assumption) (c_X8_wantEnd (I := pm_u I 102 18 (tk_val g z (mw0 g z (b, true)).1)) (st := mt_num g z 1 20 (mw0 g z (b, true))) (by rw [pm_u_off (by decide)]; exact hg1) (by rw [pm_u_at, pk_un (by decide)]; exact hz) hz2 hg (mt_num_le (mw0_le (st := (b, true)) hb))) rfl rfl (Nat.le_of_ble_eq_true rfl) ?_
          intro r9 sh9 I9 J9 hD9; obtain ⟨rfl, rfl, rfl, rfl⟩ := pm_Dq hD9; clear hD9
          try simp only [Option.toList_some, Option.toList_none, List.cons_append, List.nil_append]
          refine g_goto (pc := 81) (tgt := 89) C dX8_wantClause_81 (by decide) ?_
          refine g_vret (pc := 89) C C2 dX8_wantClause_89 (Nat.le_refl _) (Nat.le_refl _) ?_
          have n4 := mt_kd_neg (g := g) (z := z) (b := b)
          first
            | (have q0 : ¬ mt_kd g z b < 0 := h4; rw [if_pos q0] at hc; exact ⟨rfl, rfl, by rw [hc], by rw [hc]⟩)
            | (have q0 : mt_kd g z b < 0 := h4; have q1 : tk_nm g z b (pm_tx 12).2.2 := h25; rw [if_neg (fun q9 => q9 q0), if_pos q1] at hc; exact ⟨rfl, rfl, by rw [hc], by rw [hc]⟩)
            | (have q0 : mt_kd g z b < 0 := h4; have q1 : ¬ tk_nm g z b (pm_tx 12).2.2 := h25; have q2 : tk_nm g z b (pm_tx 13).2.2 := h35; rw [if_neg (fun q9 => q9 q0), if_neg q1, if_pos q2] at hc; exact ⟨rfl, rfl, by rw [hc], by rw [hc]⟩)
            | (have q0 : mt_kd g z b < 0 := h4; have q1 : ¬ tk_nm g z b (pm_tx 12).2.2 := h25; have q2 : ¬ tk_nm g z b (pm_tx 13).2.2 := h35; have q3 : tk_nm g z b (pm_tx 14).2.2 := h59; rw [if_neg (fun q9 => q9 q0), if_neg q1, if_neg q2, if_pos q3] at hc; exact ⟨rfl, rfl, by rw [hc], by rw [hc]⟩)
            | (have q0 : mt_kd g z b < 0 := h4; have q1 : ¬ tk_nm g z b (pm_tx 12).2.2 := h25; have q2 : ¬ tk_nm g z b (pm_tx 13).2.2 := h35; have q3 : ¬ tk_nm g z b (pm_tx 14).2.2 := h59; rw [if_neg (fun q9 => q9 q0), if_neg q1, if_neg q2, if_neg q3] at hc; exact ⟨rfl, rfl, by rw [hc], by rw [hc]⟩)
      · refine g_aload_n (pc := 38) (i := 0) (j := 0) C dX8_wantClause_38 rfl rfl ?_
        refine g_aload_n (pc := 39) (i := 0) (j := 0) C dX8_wantClause_39 rfl rfl ?_
        refine g_ldc2 (pc := 40) C dX8_wantClause_40 lcX8_188 ?_
        refine g_callV (pc := 43) C dX8_wantClause_43 lmX8_128 kcX8_isWord (by decide) (by first | rfl | assumption) (c_X8_isWord (i := 13) hg1 hz hz2 hg (st := (b, true)) hb (by decide)) rfl rfl (Nat.le_of_ble_eq_true rfl) ?_
        intro r9 sh9 I9 J9 hD9; obtain ⟨rfl, rfl, rfl, rfl⟩ := pm_Dq hD9; clear hD9
        try simp only [Option.toList_some, Option.toList_none, List.cons_append, List.nil_append]
        first
          | (have q12 : tk_nm g z b (pm_tx 12).2.2 := h25; rw [show pm_b (tk_nm g z (b, true).1 (pm_tx 13).2.2) = 0 from if_neg (tk_nm_1213 q12)]; refine g_callV (pc := 46) C dX8_wantClause_46 lmX8_190 kcX8_wantWarmth (by decide) (by first | rfl | assumption) (c_X8_wantWarmth0 hg1 hz hz2 hg hb) rfl rfl (Nat.le_of_ble_eq_true rfl) ?_)
          | (have q13 : tk_nm g z b (pm_tx 13).2.2 := h35; rw [show pm_b (tk_nm g z (b, true).1 (pm_tx 13).2.2) = 1 from if_pos q13]; refine g_callV (pc := 46) C dX8_wantClause_46 lmX8_190 kcX8_wantWarmth (by decide) (by first | rfl | assumption) (c_X8_wantWarmth1 hg1 hz hz2 hg hb) rfl rfl (Nat.le_of_ble_eq_true rfl) ?_)
        intro r9 sh9 I9 J9 hD9; obtain ⟨rfl, rfl, rfl, rfl⟩ := pm_Dq hD9; clear hD9
        try simp only [Option.toList_some, Option.toList_none, List.cons_append, List.nil_append]
        refine g_goto (pc := 49) (tgt := 89) C dX8_wantClause_49 (by decide) ?_
        refine g_vret (pc := 89) C C2 dX8_wantClause_89 (Nat.le_refl _) (Nat.le_refl _) ?_
        have n4 := mt_kd_neg (g := g) (z := z) (b := b)
        first
          | (have q0 : ¬ mt_kd g z b < 0 := h4; rw [if_pos q0] at hc; exact ⟨rfl, rfl, by rw [hc], by rw [hc]⟩)
          | (have q0 : mt_kd g z b < 0 := h4; have q1 : tk_nm g z b (pm_tx 12).2.2 := h25; rw [if_neg (fun q9 => q9 q0), if_pos q1] at hc; exact ⟨rfl, rfl, by rw [hc], by rw [hc]⟩)
          | (have q0 : mt_kd g z b < 0 := h4; have q1 : ¬ tk_nm g z b (pm_tx 12).2.2 := h25; have q2 : tk_nm g z b (pm_tx 13).2.2 := h35; rw [if_neg (fun q9 => q9 q0), if_neg q1, if_pos q2] at hc; exact ⟨rfl, rfl, by rw [hc], by rw [hc]⟩)
          | (have q0 : mt_kd g z b < 0 := h4; have q1 : ¬ tk_nm g z b (pm_tx 12).2.2 := h25; have q2 : ¬ tk_nm g z b (pm_tx 13).2.2 := h35; have q3 : tk_nm g z b (pm_tx 14).2.2 := h59; rw [if_neg (fun q9 => q9 q0), if_neg q1, if_neg q2, if_pos q3] at hc; exact ⟨rfl, rfl, by rw [hc], by rw [hc]⟩)
          | (have q0 : mt_kd g z b < 0 := h4; have q1 : ¬ tk_nm g z b (pm_tx 12).2.2 := h25; have q2 : ¬ tk_nm g z b (pm_tx 13).2.2 := h35; have q3 : ¬ tk_nm g z b (pm_tx 14).2.2 := h59; rw [if_neg (fun q9 => q9 q0), if_neg q1, if_neg q2, if_neg q3] at hc; exact ⟨rfl, rfl, by rw [hc], by rw [hc]⟩)
  · refine g_aload_n (pc := 7) (i := 0) (j := 0) C dX8_wantClause_7 rfl rfl ?_
    refine g_aload_n (pc := 8) (i := 0) (j := 0) C dX8_wantClause_8 rfl rfl ?_
    refine g_callV (pc := 9) C dX8_wantClause_9 lmX8_178 kcX8_kindHere (by decide) (by first | rfl | assumption) (c_X8_kindHere hg1 hz hz2 hg (st := (b, true)) hb) rfl rfl (Nat.le_of_ble_eq_true rfl) ?_
    intro r9 sh9 I9 J9 hD9; obtain ⟨rfl, rfl, rfl, rfl⟩ := pm_Dq hD9; clear hD9
    try simp only [Option.toList_some, Option.toList_none, List.cons_append, List.nil_append]
    refine g_callV (pc := 12) C dX8_wantClause_12 lmX8_182 kcX8_wantBalloon (by decide) (by first | rfl | assumption) (c_X8_wantBalloon hg1 hz hz2 hg hb hn h6) rfl rfl (Nat.le_of_ble_eq_true rfl) ?_
    intro r9 sh9 I9 J9 hD9; obtain ⟨rfl, rfl, rfl, rfl⟩ := pm_Dq hD9; clear hD9
    try simp only [Option.toList_some, Option.toList_none, List.cons_append, List.nil_append]
    refine g_goto (pc := 15) (tgt := 89) C dX8_wantClause_15 (by decide) ?_
    refine g_vret (pc := 89) C C2 dX8_wantClause_89 (Nat.le_refl _) (Nat.le_refl _) ?_
    have n4 := mt_kd_neg (g := g) (z := z) (b := b)
    first
      | (have q0 : ¬ mt_kd g z b < 0 := h4; rw [if_pos q0] at hc; exact ⟨rfl, rfl, by rw [hc], by rw [hc]⟩)
      | (have q0 : mt_kd g z b < 0 := h4; have q1 : tk_nm g z b (pm_tx 12).2.2 := h25; rw [if_neg (fun q9 => q9 q0), if_pos q1] at hc; exact ⟨rfl, rfl, by rw [hc], by rw [hc]⟩)
      | (have q0 : mt_kd g z b < 0 := h4; have q1 : ¬ tk_nm g z b (pm_tx 12).2.2 := h25; have q2 : tk_nm g z b (pm_tx 13).2.2 := h35; rw [if_neg (fun q9 => q9 q0), if_neg q1, if_pos q2] at hc; exact ⟨rfl, rfl, by rw [hc], by rw [hc]⟩)
      | (have q0 : mt_kd g z b < 0 := h4; have q1 : ¬ tk_nm g z b (pm_tx 12).2.2 := h25; have q2 : ¬ tk_nm g z b (pm_tx 13).2.2 := h35; have q3 : tk_nm g z b (pm_tx 14).2.2 := h59; rw [if_neg (fun q9 => q9 q0), if_neg q1, if_neg q2, if_pos q3] at hc; exact ⟨rfl, rfl, by rw [hc], by rw [hc]⟩)
      | (have q0 : mt_kd g z b < 0 := h4; have q1 : ¬ tk_nm g z b (pm_tx 12).2.2 := h25; have q2 : ¬ tk_nm g z b (pm_tx 13).2.2 := h35; have q3 : ¬ tk_nm g z b (pm_tx 14).2.2 := h59; rw [if_neg (fun q9 => q9 q0), if_neg q1, if_neg q2, if_neg q3] at hc; exact ⟨rfl, rfl, by rw [hc], by rw [hc]⟩)
