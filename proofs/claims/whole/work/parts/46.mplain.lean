/-! The model: the plain calls -/
def mo_new (I : pm_I) (n : Nat) (k a c : Int32) : pm_I := pm_u (pm_u (pm_u (pm_u (pm_u (pm_u (pm_u (pm_u (pm_u (pm_u I 104 n k) 105 n a) 106 (0 + 7 * n + 1) c) 106 (0 + 7 * n + 2) 0) 106 (0 + 7 * n + 3) 50) 106 (0 + 7 * n + 4) 100) 106 (0 + 7 * n + 5) 50) 106 (0 + 7 * n + 6) 20) 106 (0 + 7 * n + 7) 1) 102 2 (nI (n + 1))
theorem pm_tv1 : ∀ z, z < 9 → 2 ≤ z → (pm_tv 1).getD z 0 = if z = 4 then 1 else 0 := by decide +kernel
theorem pm_tv2 : ∀ z, z < 9 → 2 ≤ z → (pm_tv 2).getD z 0 = if z = 2 then 5 else if z = 3 ∨ z = 7 ∨ z = 4 then 99 else if z = 5 ∨ z = 6 then 999 else 9 := by decide +kernel
theorem nI_m1 {z : Nat} (h : 1 ≤ z) : nI z - 1 = nI (z - 1) := by
  obtain ⟨k, rfl⟩ : ∃ k, z = k + 1 := ⟨z - 1, by omega⟩
  rw [nI_pred]
  rfl
theorem dr_e (u : Int32) : u - u / 61 * 61 - 20 = u - u / 61 * 61 + (-20) := Int32.sub_eq_add_neg _ _
theorem dr_vd (z : Int32) : dr_v z = dr_u z - dr_u z / 61 * 61 - 20 := (dr_e _).symm
set_option maxHeartbeats 4000000 in
set_option maxRecDepth 100000 in
theorem c_X8_warmth {d : Nat} {x : Int32} {I : pm_I} {J : pm_J} : pm_M (d + 2) 0 0 yX8_warmth cX8_warmth 2 (some .int) [.ref 102, .int x] SHP I J (pm_D (some (.int (if 0 ≤ x ∧ x ≤ 23 then 100 + I 103 x.toNatClampNeg else -1))) SHP I J) := by
  refine pm_start (own := RX8) (nm := "warmth") (by decide) rfl rfl (L := [(0, .ref 102), (1, .int x)]) rfl (Nat.le_of_ble_eq_true rfl) (fun Γ C C2 => ?_)
  refine g_iload_n (pc := 0) (i := 1) (j := 1) C dX8_warmth_0 rfl rfl ?_
  refine g_callS (pc := 1) C dX8_warmth_1 lmX8_205 kcX8_isHour (by decide) (c_X8_isHour) rfl rfl (Nat.le_of_ble_eq_true rfl) ?_
  intro r9 sh9 I9 J9 hD9; obtain ⟨rfl, rfl, rfl, rfl⟩ := pm_Dq hD9; clear hD9
  try simp only [Option.toList_some, Option.toList_none, List.cons_append, List.nil_append]
  refine g_if_eqB (pc := 4) (tgt := 19) C dX8_warmth_4 (by decide) (fun h4 => ?_) (fun h4 => ?_)
  · refine g_iconst (pc := 19) (v := (-1)) C dX8_warmth_19 (by decide) ?_
    refine g_iret (pc := 20) C C2 dX8_warmth_20 rfl (Nat.le_refl _) (Nat.le_refl _) ?_
    first | exact ⟨by rw [if_pos v4, nI_clamp (by omega)], rfl, rfl, rfl⟩ | exact ⟨by rw [if_neg h4], rfl, rfl, rfl⟩
  · have v4 := h4
    obtain ⟨a, ha9, rfl⟩ := pm_ix (N := 24) h4.1 h4.2 (by decide)
    refine g_bipush (pc := 7) (v := 100) C dX8_warmth_7 (by decide) ?_
    refine g_aload_n (pc := 9) (i := 0) (j := 0) C dX8_warmth_9 rfl rfl ?_
    refine g_getR (pc := 10) C dX8_warmth_10 lfX8_7 (by first | rfl | assumption) rfl ?_
    refine g_iload_n (pc := 13) (i := 1) (j := 1) C dX8_warmth_13 rfl rfl ?_
    refine g_iald (pc := 14) C dX8_warmth_14 (by first | rfl | assumption) (by decide) (by first | rfl | assumption) (by first | assumption | decide | omega) ?_
    refine g_iadd (pc := 15) C dX8_warmth_15 ?_
    refine g_goto (pc := 16) (tgt := 20) C dX8_warmth_16 (by decide) ?_
    refine g_iret (pc := 20) C C2 dX8_warmth_20 rfl (Nat.le_refl _) (Nat.le_refl _) ?_
    first | exact ⟨by rw [if_pos v4, nI_clamp (by omega)], rfl, rfl, rfl⟩ | exact ⟨by rw [if_neg h4], rfl, rfl, rfl⟩

set_option maxHeartbeats 4000000 in
set_option maxRecDepth 100000 in
theorem c_X8_warm {d : Nat} {x v : Int32} {I : pm_I} {J : pm_J} : pm_M (d + 2) 0 0 yX8_warm cX8_warm 4 (some .int) [.ref 102, .int x, .int v] SHP I J (pm_D (some (.int (if (0 ≤ x ∧ x ≤ 23) ∧ -20 ≤ v ∧ v ≤ 40 then 100 + I 103 x.toNatClampNeg else -1))) SHP (if (0 ≤ x ∧ x ≤ 23) ∧ -20 ≤ v ∧ v ≤ 40 then pm_u I 103 x.toNatClampNeg v else I) J) := by
  refine pm_start (own := RX8) (nm := "warm") (by decide) rfl rfl (L := [(0, .ref 102), (1, .int x), (2, .int v)]) rfl (Nat.le_of_ble_eq_true rfl) (fun Γ C C2 => ?_)
  refine g_iload_n (pc := 0) (i := 1) (j := 1) C dX8_warm_0 rfl rfl ?_
  refine g_callS (pc := 1) C dX8_warm_1 lmX8_205 kcX8_isHour (by decide) (c_X8_isHour) rfl rfl (Nat.le_of_ble_eq_true rfl) ?_
  intro r9 sh9 I9 J9 hD9; obtain ⟨rfl, rfl, rfl, rfl⟩ := pm_Dq hD9; clear hD9
  try simp only [Option.toList_some, Option.toList_none, List.cons_append, List.nil_append]
  refine g_if_eqB (pc := 4) (tgt := 14) C dX8_warm_4 (by decide) (fun h4 => ?_) (fun h4 => ?_)
  · refine g_iconst (pc := 14) (v := (-1)) C dX8_warm_14 (by decide) ?_
    refine g_iret (pc := 15) C C2 dX8_warm_15 rfl (Nat.le_refl _) (Nat.le_refl _) ?_
    first | exact ⟨by rw [if_pos v4, nI_clamp (by omega)], rfl, by rw [if_pos v4, nI_clamp (by omega)], rfl⟩ | exact ⟨by rw [if_neg (fun q => h4 q.1)], rfl, by rw [if_neg (fun q => h4 q.1)], rfl⟩ | exact ⟨by rw [if_neg (fun q => h11 q.2)], rfl, by rw [if_neg (fun q => h11 q.2)], rfl⟩
  · refine g_iload_n (pc := 7) (i := 2) (j := 2) C dX8_warm_7 rfl rfl ?_
    refine g_callS (pc := 8) C dX8_warm_8 lmX8_208 kcX8_isWarmth (by decide) (c_X8_isWarmth) rfl rfl (Nat.le_of_ble_eq_true rfl) ?_
    intro r9 sh9 I9 J9 hD9; obtain ⟨rfl, rfl, rfl, rfl⟩ := pm_Dq hD9; clear hD9
    try simp only [Option.toList_some, Option.toList_none, List.cons_append, List.nil_append]
    refine g_if_neB (pc := 11) (tgt := 16) C dX8_warm_11 (by decide) (fun h11 => ?_) (fun h11 => ?_)
    · have v4 : (0 ≤ x ∧ x ≤ 23) ∧ -20 ≤ v ∧ v ≤ 40 := ⟨h4, h11⟩
      obtain ⟨a, ha9, rfl⟩ := pm_ix (N := 24) h4.1 h4.2 (by decide)
      refine g_aload_n (pc := 16) (i := 0) (j := 0) C dX8_warm_16 rfl rfl ?_
      refine g_getR (pc := 17) C dX8_warm_17 lfX8_7 (by first | rfl | assumption) rfl ?_
      refine g_iload_n (pc := 20) (i := 1) (j := 1) C dX8_warm_20 rfl rfl ?_
      refine g_iald (pc := 21) C dX8_warm_21 (by first | rfl | assumption) (by decide) (by first | rfl | assumption) (by first | assumption | decide | omega) ?_
      refine g_istore_n (pc := 22) (i := 3) (L2 := [(0, _), (1, _), (2, _), (3, _)]) C dX8_warm_22 rfl (by decide) rfl ?_
      refine g_aload_n (pc := 23) (i := 0) (j := 0) C dX8_warm_23 rfl rfl ?_
      refine g_getR (pc := 24) C dX8_warm_24 lfX8_7 (by first | rfl | assumption) rfl ?_
      refine g_iload_n (pc := 27) (i := 1) (j := 1) C dX8_warm_27 rfl rfl ?_
      refine g_iload_n (pc := 28) (i := 2) (j := 2) C dX8_warm_28 rfl rfl ?_
      refine g_iast (pc := 29) C dX8_warm_29 (by first | rfl | assumption) (by decide) (by first | rfl | assumption) (by first | assumption | decide | omega) ?_
      refine g_bipush (pc := 30) (v := 100) C dX8_warm_30 (by decide) ?_
      refine g_iload_n (pc := 32) (i := 3) (j := 3) C dX8_warm_32 rfl rfl ?_
      refine g_iadd (pc := 33) C dX8_warm_33 ?_
      refine g_iret (pc := 34) C C2 dX8_warm_34 rfl (Nat.le_refl _) (Nat.le_refl _) ?_
      first | exact ⟨by rw [if_pos v4, nI_clamp (by omega)], rfl, by rw [if_pos v4, nI_clamp (by omega)], rfl⟩ | exact ⟨by rw [if_neg (fun q => h4 q.1)], rfl, by rw [if_neg (fun q => h4 q.1)], rfl⟩ | exact ⟨by rw [if_neg (fun q => h11 q.2)], rfl, by rw [if_neg (fun q => h11 q.2)], rfl⟩
    · refine g_iconst (pc := 14) (v := (-1)) C dX8_warm_14 (by decide) ?_
      refine g_iret (pc := 15) C C2 dX8_warm_15 rfl (Nat.le_refl _) (Nat.le_refl _) ?_
      first | exact ⟨by rw [if_pos v4, nI_clamp (by omega)], rfl, by rw [if_pos v4, nI_clamp (by omega)], rfl⟩ | exact ⟨by rw [if_neg (fun q => h4 q.1)], rfl, by rw [if_neg (fun q => h4 q.1)], rfl⟩ | exact ⟨by rw [if_neg (fun q => h11 q.2)], rfl, by rw [if_neg (fun q => h11 q.2)], rfl⟩

set_option maxHeartbeats 4000000 in
set_option maxRecDepth 100000 in
theorem c_X8_gap {d : Nat} {v : Int32} {I : pm_I} {J : pm_J} : pm_M (d + 1) 0 0 yX8_gap cX8_gap 3 (some .int) [.ref 102, .int v] SHP I J (pm_D (some (.int (if 1 ≤ v ∧ v ≤ 20 then I 102 1 else -1))) SHP (if 1 ≤ v ∧ v ≤ 20 then pm_u I 102 1 v else I) J) := by
  refine pm_start (own := RX8) (nm := "gap") (by decide) rfl rfl (L := [(0, .ref 102), (1, .int v)]) rfl (Nat.le_of_ble_eq_true rfl) (fun Γ C C2 => ?_)
  refine g_iload_n (pc := 0) (i := 1) (j := 1) C dX8_gap_0 rfl rfl ?_
  refine g_iconst (pc := 1) (v := 1) C dX8_gap_1 (by decide) ?_
  refine g_bipush (pc := 2) (v := 20) C dX8_gap_2 (by decide) ?_
  refine g_callS (pc := 4) C dX8_gap_4 lmX8_78 kcX8_in (by decide) (c_X8_in) rfl rfl (Nat.le_of_ble_eq_true rfl) ?_
  intro r9 sh9 I9 J9 hD9; obtain ⟨rfl, rfl, rfl, rfl⟩ := pm_Dq hD9; clear hD9
  try simp only [Option.toList_some, Option.toList_none, List.cons_append, List.nil_append]
  refine g_if_neB (pc := 7) (tgt := 12) C dX8_gap_7 (by decide) (fun h7 => ?_) (fun h7 => ?_)
  · refine g_aload_n (pc := 12) (i := 0) (j := 0) C dX8_gap_12 rfl rfl ?_
    refine g_getI (pc := 13) C dX8_gap_13 lfX8_13 (by first | rfl | assumption) rfl ?_
    refine g_istore_n (pc := 16) (i := 2) (L2 := [(0, _), (1, _), (2, _)]) C dX8_gap_16 rfl (by decide) rfl ?_
    refine g_aload_n (pc := 17) (i := 0) (j := 0) C dX8_gap_17 rfl rfl ?_
    refine g_iload_n (pc := 18) (i := 1) (j := 1) C dX8_gap_18 rfl rfl ?_
    refine g_putI (pc := 19) C dX8_gap_19 lpX8_13 rfl rfl (by first | rfl | assumption) rfl ?_
    refine g_iload_n (pc := 22) (i := 2) (j := 2) C dX8_gap_22 rfl rfl ?_
    refine g_iret (pc := 23) C C2 dX8_gap_23 rfl (Nat.le_refl _) (Nat.le_refl _) ?_
    first | exact ⟨by rw [if_pos h7], rfl, by rw [if_pos h7], rfl⟩ | exact ⟨by rw [if_neg h7], rfl, by rw [if_neg h7], rfl⟩
  · refine g_iconst (pc := 10) (v := (-1)) C dX8_gap_10 (by decide) ?_
    refine g_iret (pc := 11) C C2 dX8_gap_11 rfl (Nat.le_refl _) (Nat.le_refl _) ?_
    first | exact ⟨by rw [if_pos h7], rfl, by rw [if_pos h7], rfl⟩ | exact ⟨by rw [if_neg h7], rfl, by rw [if_neg h7], rfl⟩

set_option maxHeartbeats 4000000 in
set_option maxRecDepth 100000 in
theorem c_X8_seed {d : Nat} {v : Int32} {I : pm_I} {J : pm_J} : pm_M d 0 0 yX8_seed cX8_seed 3 (some .int) [.ref 102, .int v] SHP I J (pm_D (some (.int (I 102 8))) SHP (pm_u I 102 8 v) J) := by
  refine pm_start (own := RX8) (nm := "seed") (by decide) rfl rfl (L := [(0, .ref 102), (1, .int v)]) rfl (Nat.le_of_ble_eq_true rfl) (fun Γ C C2 => ?_)
  refine g_aload_n (pc := 0) (i := 0) (j := 0) C dX8_seed_0 rfl rfl ?_
  refine g_getI (pc := 1) C dX8_seed_1 lfX8_26 (by first | rfl | assumption) rfl ?_
  refine g_istore_n (pc := 4) (i := 2) (L2 := [(0, _), (1, _), (2, _)]) C dX8_seed_4 rfl (by decide) rfl ?_
  refine g_aload_n (pc := 5) (i := 0) (j := 0) C dX8_seed_5 rfl rfl ?_
  refine g_iload_n (pc := 6) (i := 1) (j := 1) C dX8_seed_6 rfl rfl ?_
  refine g_putI (pc := 7) C dX8_seed_7 lpX8_26 rfl rfl (by first | rfl | assumption) rfl ?_
  refine g_iload_n (pc := 10) (i := 2) (j := 2) C dX8_seed_10 rfl rfl ?_
  refine g_iret (pc := 11) C C2 dX8_seed_11 rfl (Nat.le_refl _) (Nat.le_refl _) ?_
  exact ⟨rfl, rfl, rfl, rfl⟩

set_option maxHeartbeats 4000000 in
set_option maxRecDepth 100000 in
theorem c_X8_draw {d : Nat} {x : Int32} {I : pm_I} {J : pm_J} : pm_M (d + 2) 0 0 yX8_draw cX8_draw 2 (some .int) [.ref 102, .int x] SHP I J (pm_D (some (.int (if 0 ≤ x ∧ x ≤ 23 then 100 + dr_v (dr_z (I 102 8)) else -1))) SHP (if 0 ≤ x ∧ x ≤ 23 then pm_u (pm_u I 102 8 (dr_z (I 102 8))) 103 x.toNatClampNeg (dr_v (dr_z (I 102 8))) else I) J) := by
  refine pm_start (own := RX8) (nm := "draw") (by decide) rfl rfl (L := [(0, .ref 102), (1, .int x)]) rfl (Nat.le_of_ble_eq_true rfl) (fun Γ C C2 => ?_)
  refine g_iload_n (pc := 0) (i := 1) (j := 1) C dX8_draw_0 rfl rfl ?_
  refine g_callS (pc := 1) C dX8_draw_1 lmX8_205 kcX8_isHour (by decide) (c_X8_isHour) rfl rfl (Nat.le_of_ble_eq_true rfl) ?_
  intro r9 sh9 I9 J9 hD9; obtain ⟨rfl, rfl, rfl, rfl⟩ := pm_Dq hD9; clear hD9
  try simp only [Option.toList_some, Option.toList_none, List.cons_append, List.nil_append]
  refine g_if_neB (pc := 4) (tgt := 9) C dX8_draw_4 (by decide) (fun h4 => ?_) (fun h4 => ?_)
  · have v4 := h4
    obtain ⟨a, ha9, rfl⟩ := pm_ix (N := 24) h4.1 h4.2 (by decide)
    refine g_aload_n (pc := 9) (i := 0) (j := 0) C dX8_draw_9 rfl rfl ?_
    refine g_aload_n (pc := 10) (i := 0) (j := 0) C dX8_draw_10 rfl rfl ?_
    refine g_getI (pc := 11) C dX8_draw_11 lfX8_26 (by first | rfl | assumption) rfl ?_
    refine g_ldcw (pc := 14) C dX8_draw_14 lcX8_313 ?_
    refine g_imul (pc := 17) C dX8_draw_17 ?_
    refine g_sipush (pc := 18) (v := 12345) C dX8_draw_18 (by decide) ?_
    refine g_iadd (pc := 21) C dX8_draw_21 ?_
    refine g_putI (pc := 22) C dX8_draw_22 lpX8_26 rfl rfl (by first | rfl | assumption) rfl ?_
    rw [show I 102 8 * 1103515245 + 12345 = dr_z (I 102 8) from rfl]
    refine g_aload_n (pc := 25) (i := 0) (j := 0) C dX8_draw_25 rfl rfl ?_
    refine g_getR (pc := 26) C dX8_draw_26 lfX8_7 (by first | rfl | assumption) rfl ?_
    refine g_iload_n (pc := 29) (i := 1) (j := 1) C dX8_draw_29 rfl rfl ?_
    refine g_aload_n (pc := 30) (i := 0) (j := 0) C dX8_draw_30 rfl rfl ?_
    refine g_getI (pc := 31) C dX8_draw_31 lfX8_26 (by first | rfl | assumption) rfl ?_
    rw [show pm_u I 102 8 (dr_z (I 102 8)) 102 8 = dr_z (I 102 8) by rw [pm_u_at, pk_us]]
    refine g_bipush (pc := 34) (v := 16) C dX8_draw_34 (by decide) ?_
    refine g_iushr (pc := 36) C dX8_draw_36 ?_
    refine g_bipush (pc := 37) (v := 61) C dX8_draw_37 (by decide) ?_
    refine g_irem (pc := 39) C dX8_draw_39 (by first | decide | assumption) ?_
    refine g_bipush (pc := 40) (v := 20) C dX8_draw_40 (by decide) ?_
    refine g_isub (pc := 42) C dX8_draw_42 ?_
    refine pm_Geq (st := [.int (dr_v (dr_z (I 102 8))), .int (nI a), .ref 103]) ?_ rfl (by rw [dr_vd]; rfl) rfl rfl
    refine g_iast (pc := 43) C dX8_draw_43 (by first | rfl | assumption) (by decide) (by first | rfl | assumption) (by first | assumption | decide | omega) ?_
    refine g_bipush (pc := 44) (v := 100) C dX8_draw_44 (by decide) ?_
    refine g_aload_n (pc := 46) (i := 0) (j := 0) C dX8_draw_46 rfl rfl ?_
    refine g_getR (pc := 47) C dX8_draw_47 lfX8_7 (by first | rfl | assumption) rfl ?_
    refine g_iload_n (pc := 50) (i := 1) (j := 1) C dX8_draw_50 rfl rfl ?_
    refine g_iald (pc := 51) C dX8_draw_51 (by first | rfl | assumption) (by decide) (by first | rfl | assumption) (by first | assumption | decide | omega) ?_
    rw [pm_u_at, pk_us]
    refine g_iadd (pc := 52) C dX8_draw_52 ?_
    refine g_iret (pc := 53) C C2 dX8_draw_53 rfl (Nat.le_refl _) (Nat.le_refl _) ?_
    first | exact ⟨by rw [if_pos v4], rfl, by rw [if_pos v4, nI_clamp (by omega)], rfl⟩ | exact ⟨by rw [if_neg h4], rfl, by rw [if_neg h4], rfl⟩
  · refine g_iconst (pc := 7) (v := (-1)) C dX8_draw_7 (by decide) ?_
    refine g_iret (pc := 8) C C2 dX8_draw_8 rfl (Nat.le_refl _) (Nat.le_refl _) ?_
    first | exact ⟨by rw [if_pos v4], rfl, by rw [if_pos v4, nI_clamp (by omega)], rfl⟩ | exact ⟨by rw [if_neg h4], rfl, by rw [if_neg h4], rfl⟩

set_option maxHeartbeats 4000000 in
set_option maxRecDepth 100000 in
theorem c_X8_balloon {d : Nat} {k a c : Int32} {I : pm_I} {J : pm_J} {n : Nat} (hn : I 102 2 = nI n) (h6 : n ≤ 6) (hat : I 102 6 = nI 0) : pm_M (d + 2) 0 0 yX8_balloon cX8_balloon 5 (some .int) [.ref 102, .int k, .int a, .int c] SHP I J (pm_D (some (.int (if (0 ≤ k ∧ k ≤ 5) ∧ (0 ≤ a ∧ a ≤ 9) ∧ 0 ≤ c ∧ c ≤ 5 then (if n = 6 then -2 else nI n) else -1))) SHP (if ((0 ≤ k ∧ k ≤ 5) ∧ (0 ≤ a ∧ a ≤ 9) ∧ 0 ≤ c ∧ c ≤ 5) ∧ n ≠ 6 then mo_new I n k a c else I) J) := by
  refine pm_start (own := RX8) (nm := "balloon") (by decide) rfl rfl (L := [(0, .ref 102), (1, .int k), (2, .int a), (3, .int c)]) rfl (Nat.le_of_ble_eq_true rfl) (fun Γ C C2 => ?_)
  refine g_iload_n (pc := 0) (i := 1) (j := 1) C dX8_balloon_0 rfl rfl ?_
  refine g_iload_n (pc := 1) (i := 2) (j := 2) C dX8_balloon_1 rfl rfl ?_
  refine g_callS (pc := 2) C dX8_balloon_2 lmX8_211 kcX8_isKind (by decide) (c_X8_isKind) rfl rfl (Nat.le_of_ble_eq_true rfl) ?_
  intro r9 sh9 I9 J9 hD9; obtain ⟨rfl, rfl, rfl, rfl⟩ := pm_Dq hD9; clear hD9
  try simp only [Option.toList_some, Option.toList_none, List.cons_append, List.nil_append]
  refine g_if_eqB (pc := 5) (tgt := 17) C dX8_balloon_5 (by decide) (fun h5 => ?_) (fun h5 => ?_)
  · refine g_iconst (pc := 17) (v := (-1)) C dX8_balloon_17 (by decide) ?_
    refine g_iret (pc := 18) C C2 dX8_balloon_18 rfl (Nat.le_refl _) (Nat.le_refl _) ?_
    first | exact ⟨by rw [if_neg (fun q => h5 ⟨q.1, q.2.1⟩)], rfl, by rw [if_neg (fun q => h5 ⟨q.1.1, q.1.2.1⟩)], rfl⟩ | exact ⟨by rw [if_neg (fun q => h14 q.2.2)], rfl, by rw [if_neg (fun q => h14 q.1.2.2)], rfl⟩
  · refine g_iload_n (pc := 8) (i := 3) (j := 3) C dX8_balloon_8 rfl rfl ?_
    refine g_iconst (pc := 9) (v := 0) C dX8_balloon_9 (by decide) ?_
    refine g_iconst (pc := 10) (v := 5) C dX8_balloon_10 (by decide) ?_
    refine g_callS (pc := 11) C dX8_balloon_11 lmX8_78 kcX8_in (by decide) (c_X8_in) rfl rfl (Nat.le_of_ble_eq_true rfl) ?_
    intro r9 sh9 I9 J9 hD9; obtain ⟨rfl, rfl, rfl, rfl⟩ := pm_Dq hD9; clear hD9
    try simp only [Option.toList_some, Option.toList_none, List.cons_append, List.nil_append]
    refine g_if_neB (pc := 14) (tgt := 19) C dX8_balloon_14 (by decide) (fun h14 => ?_) (fun h14 => ?_)
    · refine g_aload_n (pc := 19) (i := 0) (j := 0) C dX8_balloon_19 rfl rfl ?_
      refine g_getI (pc := 20) C dX8_balloon_20 lfX8_82 (by first | rfl | assumption) rfl ?_
      refine g_bipush (pc := 23) (v := 6) C dX8_balloon_23 (by decide) ?_
      refine g_icmp_ne (pc := 25) (tgt := 31) C dX8_balloon_25 (by decide) (fun h25 => ?_) (fun h25 => ?_)
      · refine g_aload_n (pc := 31) (i := 0) (j := 0) C dX8_balloon_31 rfl rfl ?_
        refine g_getI (pc := 32) C dX8_balloon_32 lfX8_82 (by first | rfl | assumption) rfl ?_
        refine g_istore (pc := 35) (L2 := [(0, _), (1, _), (2, _), (3, _), (4, _)]) C dX8_balloon_35 (by decide) rfl ?_
        have hn6 : n < 6 := by have : ¬ n = 6 := fun q => h25 (by rw [hn, q]; rfl); omega
        rw [hn]
        refine g_aload_n (pc := 37) (i := 0) (j := 0) C dX8_balloon_37 rfl rfl ?_
        refine g_getR (pc := 38) C dX8_balloon_38 lfX8_17 (by first | rfl | assumption) rfl ?_
        refine g_iload (pc := 41) (j := 4) C dX8_balloon_41 rfl ?_
        refine g_iload_n (pc := 43) (i := 1) (j := 1) C dX8_balloon_43 rfl rfl ?_
        refine g_iast (pc := 44) C dX8_balloon_44 (by first | rfl | assumption) (by decide) (by first | rfl | assumption) (by first | assumption | decide | omega) ?_
        refine g_aload_n (pc := 45) (i := 0) (j := 0) C dX8_balloon_45 rfl rfl ?_
        refine g_getR (pc := 46) C dX8_balloon_46 lfX8_20 (by first | rfl | assumption) rfl ?_
        refine g_iload (pc := 49) (j := 4) C dX8_balloon_49 rfl ?_
        refine g_iload_n (pc := 51) (i := 2) (j := 2) C dX8_balloon_51 rfl rfl ?_
        refine g_iast (pc := 52) C dX8_balloon_52 (by first | rfl | assumption) (by decide) (by first | rfl | assumption) (by first | assumption | decide | omega) ?_
        have q0 : pm_u (pm_u I 104 n k) 105 n a 102 6 = nI 0 := by rw [pm_u_off (by decide), pm_u_off (by decide)]; exact hat
        refine g_aload_n (pc := 53) (i := 0) (j := 0) C dX8_balloon_53 rfl rfl ?_
        refine g_iload (pc := 54) (j := 4) C dX8_balloon_54 rfl ?_
        refine g_iconst (pc := 56) (v := 1) C dX8_balloon_56 (by decide) ?_
        refine g_iload_n (pc := 57) (i := 3) (j := 3) C dX8_balloon_57 rfl rfl ?_
        refine g_callV (pc := 58) C dX8_balloon_58 lmX8_215 kcX8_sets (by decide) (by first | rfl | assumption) (c_X8_sets (a := 0) (p := 1) q0 (by decide) (by omega) (by decide)) rfl rfl (Nat.le_of_ble_eq_true rfl) ?_
        intro r9 sh9 I9 J9 hD9; obtain ⟨rfl, rfl, rfl, rfl⟩ := pm_Dq hD9; clear hD9
        try simp only [Option.toList_some, Option.toList_none, List.cons_append, List.nil_append]
        have q1 : (pm_u (pm_u (pm_u I 104 n k) 105 n a) 106 (0 + 7 * n + 1) c) 102 6 = nI 0 := by rw [pm_u_off (by decide)]; exact q0
        refine g_aload_n (pc := 61) (i := 0) (j := 0) C dX8_balloon_61 rfl rfl ?_
        refine g_iload (pc := 62) (j := 4) C dX8_balloon_62 rfl ?_
        refine g_iconst (pc := 64) (v := 2) C dX8_balloon_64 (by decide) ?_
        refine g_iconst (pc := 65) (v := 0) C dX8_balloon_65 (by decide) ?_
        refine g_callV (pc := 66) C dX8_balloon_66 lmX8_215 kcX8_sets (by decide) (by first | rfl | assumption) (c_X8_sets (a := 0) (p := 2) q1 (by decide) (by omega) (by decide)) rfl rfl (Nat.le_of_ble_eq_true rfl) ?_
        intro r9 sh9 I9 J9 hD9; obtain ⟨rfl, rfl, rfl, rfl⟩ := pm_Dq hD9; clear hD9
        try simp only [Option.toList_some, Option.toList_none, List.cons_append, List.nil_append]
        have q2 : (pm_u (pm_u (pm_u (pm_u I 104 n k) 105 n a) 106 (0 + 7 * n + 1) c) 106 (0 + 7 * n + 2) 0) 102 6 = nI 0 := by rw [pm_u_off (by decide)]; exact q1
        refine g_aload_n (pc := 69) (i := 0) (j := 0) C dX8_balloon_69 rfl rfl ?_
        refine g_iload (pc := 70) (j := 4) C dX8_balloon_70 rfl ?_
        refine g_iconst (pc := 72) (v := 3) C dX8_balloon_72 (by decide) ?_
        refine g_bipush (pc := 73) (v := 50) C dX8_balloon_73 (by decide) ?_
        refine g_callV (pc := 75) C dX8_balloon_75 lmX8_215 kcX8_sets (by decide) (by first | rfl | assumption) (c_X8_sets (a := 0) (p := 3) q2 (by decide) (by omega) (by decide)) rfl rfl (Nat.le_of_ble_eq_true rfl) ?_
        intro r9 sh9 I9 J9 hD9; obtain ⟨rfl, rfl, rfl, rfl⟩ := pm_Dq hD9; clear hD9
        try simp only [Option.toList_some, Option.toList_none, List.cons_append, List.nil_append]
        have q3 : (pm_u (pm_u (pm_u (pm_u (pm_u I 104 n k) 105 n a) 106 (0 + 7 * n + 1) c) 106 (0 + 7 * n + 2) 0) 106 (0 + 7 * n + 3) 50) 102 6 = nI 0 := by rw [pm_u_off (by decide)]; exact q2
        refine g_aload_n (pc := 78) (i := 0) (j := 0) C dX8_balloon_78 rfl rfl ?_
        refine g_iload (pc := 79) (j := 4) C dX8_balloon_79 rfl ?_
        refine g_iconst (pc := 81) (v := 4) C dX8_balloon_81 (by decide) ?_
        refine g_bipush (pc := 82) (v := 100) C dX8_balloon_82 (by decide) ?_
        refine g_callV (pc := 84) C dX8_balloon_84 lmX8_215 kcX8_sets (by decide) (by first | rfl | assumption) (c_X8_sets (a := 0) (p := 4) q3 (by decide) (by omega) (by decide)) rfl rfl (Nat.le_of_ble_eq_true rfl) ?_
        intro r9 sh9 I9 J9 hD9; obtain ⟨rfl, rfl, rfl, rfl⟩ := pm_Dq hD9; clear hD9
        try simp only [Option.toList_some, Option.toList_none, List.cons_append, List.nil_append]
        have q4 : (pm_u (pm_u (pm_u (pm_u (pm_u (pm_u I 104 n k) 105 n a) 106 (0 + 7 * n + 1) c) 106 (0 + 7 * n + 2) 0) 106 (0 + 7 * n + 3) 50) 106 (0 + 7 * n + 4) 100) 102 6 = nI 0 := by rw [pm_u_off (by decide)]; exact q3
        refine g_aload_n (pc := 87) (i := 0) (j := 0) C dX8_balloon_87 rfl rfl ?_
        refine g_iload (pc := 88) (j := 4) C dX8_balloon_88 rfl ?_
        refine g_iconst (pc := 90) (v := 5) C dX8_balloon_90 (by decide) ?_
        refine g_bipush (pc := 91) (v := 50) C dX8_balloon_91 (by decide) ?_
        refine g_callV (pc := 93) C dX8_balloon_93 lmX8_215 kcX8_sets (by decide) (by first | rfl | assumption) (c_X8_sets (a := 0) (p := 5) q4 (by decide) (by omega) (by decide)) rfl rfl (Nat.le_of_ble_eq_true rfl) ?_
        intro r9 sh9 I9 J9 hD9; obtain ⟨rfl, rfl, rfl, rfl⟩ := pm_Dq hD9; clear hD9
        try simp only [Option.toList_some, Option.toList_none, List.cons_append, List.nil_append]
        have q5 : (pm_u (pm_u (pm_u (pm_u (pm_u (pm_u (pm_u I 104 n k) 105 n a) 106 (0 + 7 * n + 1) c) 106 (0 + 7 * n + 2) 0) 106 (0 + 7 * n + 3) 50) 106 (0 + 7 * n + 4) 100) 106 (0 + 7 * n + 5) 50) 102 6 = nI 0 := by rw [pm_u_off (by decide)]; exact q4
        refine g_aload_n (pc := 96) (i := 0) (j := 0) C dX8_balloon_96 rfl rfl ?_
        refine g_iload (pc := 97) (j := 4) C dX8_balloon_97 rfl ?_
        refine g_bipush (pc := 99) (v := 6) C dX8_balloon_99 (by decide) ?_
        refine g_bipush (pc := 101) (v := 20) C dX8_balloon_101 (by decide) ?_
        refine g_callV (pc := 103) C dX8_balloon_103 lmX8_215 kcX8_sets (by decide) (by first | rfl | assumption) (c_X8_sets (a := 0) (p := 6) q5 (by decide) (by omega) (by decide)) rfl rfl (Nat.le_of_ble_eq_true rfl) ?_
        intro r9 sh9 I9 J9 hD9; obtain ⟨rfl, rfl, rfl, rfl⟩ := pm_Dq hD9; clear hD9
        try simp only [Option.toList_some, Option.toList_none, List.cons_append, List.nil_append]
        have q6 : (pm_u (pm_u (pm_u (pm_u (pm_u (pm_u (pm_u (pm_u I 104 n k) 105 n a) 106 (0 + 7 * n + 1) c) 106 (0 + 7 * n + 2) 0) 106 (0 + 7 * n + 3) 50) 106 (0 + 7 * n + 4) 100) 106 (0 + 7 * n + 5) 50) 106 (0 + 7 * n + 6) 20) 102 6 = nI 0 := by rw [pm_u_off (by decide)]; exact q5
        refine g_aload_n (pc := 106) (i := 0) (j := 0) C dX8_balloon_106 rfl rfl ?_
        refine g_iload (pc := 107) (j := 4) C dX8_balloon_107 rfl ?_
        refine g_bipush (pc := 109) (v := 7) C dX8_balloon_109 (by decide) ?_
        refine g_iconst (pc := 111) (v := 1) C dX8_balloon_111 (by decide) ?_
        refine g_callV (pc := 112) C dX8_balloon_112 lmX8_215 kcX8_sets (by decide) (by first | rfl | assumption) (c_X8_sets (a := 0) (p := 7) q6 (by decide) (by omega) (by decide)) rfl rfl (Nat.le_of_ble_eq_true rfl) ?_
        intro r9 sh9 I9 J9 hD9; obtain ⟨rfl, rfl, rfl, rfl⟩ := pm_Dq hD9; clear hD9
        try simp only [Option.toList_some, Option.toList_none, List.cons_append, List.nil_append]
        have q7 : (pm_u (pm_u (pm_u (pm_u (pm_u (pm_u (pm_u (pm_u (pm_u I 104 n k) 105 n a) 106 (0 + 7 * n + 1) c) 106 (0 + 7 * n + 2) 0) 106 (0 + 7 * n + 3) 50) 106 (0 + 7 * n + 4) 100) 106 (0 + 7 * n + 5) 50) 106 (0 + 7 * n + 6) 20) 106 (0 + 7 * n + 7) 1) 102 6 = nI 0 := by rw [pm_u_off (by decide)]; exact q6
        refine g_aload_n (pc := 115) (i := 0) (j := 0) C dX8_balloon_115 rfl rfl ?_
        refine g_dup (pc := 116) C dX8_balloon_116 rfl ?_
        refine g_getI (pc := 117) C dX8_balloon_117 lfX8_82 (by first | rfl | assumption) rfl ?_
        refine g_iconst (pc := 120) (v := 1) C dX8_balloon_120 (by decide) ?_
        refine g_iadd (pc := 121) C dX8_balloon_121 ?_
        rw [show (pm_u (pm_u (pm_u (pm_u (pm_u (pm_u (pm_u (pm_u (pm_u I 104 n k) 105 n a) 106 (0 + 7 * n + 1) c) 106 (0 + 7 * n + 2) 0) 106 (0 + 7 * n + 3) 50) 106 (0 + 7 * n + 4) 100) 106 (0 + 7 * n + 5) 50) 106 (0 + 7 * n + 6) 20) 106 (0 + 7 * n + 7) 1) 102 2 = nI n by rw [pm_u_off (by decide), pm_u_off (by decide), pm_u_off (by decide), pm_u_off (by decide), pm_u_off (by decide), pm_u_off (by decide), pm_u_off (by decide), pm_u_off (by decide), pm_u_off (by decide)]; exact hn, nI_1]
        refine g_putI (pc := 122) C dX8_balloon_122 lpX8_82 rfl rfl (by first | rfl | assumption) rfl ?_
        refine g_iload (pc := 125) (j := 4) C dX8_balloon_125 rfl ?_
        refine g_iret (pc := 127) C C2 dX8_balloon_127 rfl (Nat.le_refl _) (Nat.le_refl _) ?_
        exact ⟨by rw [if_pos ⟨h5.1, h5.2, h14⟩, if_neg (by omega)], rfl, by rw [if_pos ⟨⟨h5.1, h5.2, h14⟩, by omega⟩]; rfl, rfl⟩
      · refine g_bipush (pc := 28) (v := (-2)) C dX8_balloon_28 (by decide) ?_
        refine g_iret (pc := 30) C C2 dX8_balloon_30 rfl (Nat.le_refl _) (Nat.le_refl _) ?_
        have e6 : n = 6 := (nI_eq (b := 6) (by omega) (by decide)).mp (hn.symm.trans h25)
        exact ⟨by rw [if_pos ⟨h5.1, h5.2, h14⟩, if_pos e6], rfl, by rw [if_neg (fun q => q.2 e6)], rfl⟩
    · refine g_iconst (pc := 17) (v := (-1)) C dX8_balloon_17 (by decide) ?_
      refine g_iret (pc := 18) C C2 dX8_balloon_18 rfl (Nat.le_refl _) (Nat.le_refl _) ?_
      first | exact ⟨by rw [if_neg (fun q => h5 ⟨q.1, q.2.1⟩)], rfl, by rw [if_neg (fun q => h5 ⟨q.1.1, q.1.2.1⟩)], rfl⟩ | exact ⟨by rw [if_neg (fun q => h14 q.2.2)], rfl, by rw [if_neg (fun q => h14 q.1.2.2)], rfl⟩

set_option maxHeartbeats 4000000 in
set_option maxRecDepth 100000 in
theorem c_X8_balloonOf {d : Nat} {I : pm_I} {J : pm_J} {w : Nat → Int32} {g : Int32} {n t : Nat} {B : Nat → Nat → Int32} (hF : mo_F I w g 0 n) (ht : t ≤ 96) (hok : ∀ b, b < n → mo_ok (B b)) (hW : mo_W I 0 t n B I) {b : Nat} {x : Int32} (hb : b < n) (hx : 0 ≤ x ∧ x ≤ 11) : pm_M (d + 3) 0 0 yX8_balloonOf cX8_balloonOf 3 (some .int) [.ref 102, .int (nI b), .int x] SHP I J (pm_D (some (.int (bl_of (B b) x (w (t % 24)) (nI (t % 24))))) SHP I J) := by
  refine pm_start (own := RX8) (nm := "balloonOf") (by decide) rfl rfl (L := [(0, .ref 102), (1, .int (nI b)), (2, .int x)]) rfl (Nat.le_of_ble_eq_true rfl) (fun Γ C C2 => ?_)
  have h6 := hF.2.1
  have e0 := hW.2.2.2.2.2 b hb 0 (by decide)
  have e1 := hW.2.2.2.2.2 b hb 1 (by decide)
  rw [md_0] at e0
  rw [md_1] at e1
  obtain ⟨z, hz, ez⟩ := pm_ix (N := 12) hx.1 hx.2 (by decide)
  refine g_aload_n (pc := 0) (i := 0) (j := 0) C dX8_balloonOf_0 rfl rfl ?_
  refine g_iload_n (pc := 1) (i := 1) (j := 1) C dX8_balloonOf_1 rfl rfl ?_
  refine g_callV (pc := 2) C dX8_balloonOf_2 lmX8_234 kcX8_isBalloon (by decide) (by first | rfl | assumption) (c_X8_isBalloon) rfl rfl (Nat.le_of_ble_eq_true rfl) ?_
  intro r9 sh9 I9 J9 hD9; obtain ⟨rfl, rfl, rfl, rfl⟩ := pm_Dq hD9; clear hD9
  try simp only [Option.toList_some, Option.toList_none, List.cons_append, List.nil_append]
  refine g_if_eqB (pc := 5) (tgt := 18) C dX8_balloonOf_5 (by decide) (fun h5 => absurd ⟨by exact nI_pos' (by omega), by rw [hF.1]; exact pm_leP hb (by omega)⟩ h5) (fun h5 => ?_)
  refine g_iload_n (pc := 8) (i := 2) (j := 2) C dX8_balloonOf_8 rfl rfl ?_
  refine g_iconst (pc := 9) (v := 0) C dX8_balloonOf_9 (by decide) ?_
  refine g_bipush (pc := 10) (v := 11) C dX8_balloonOf_10 (by decide) ?_
  refine g_callS (pc := 12) C dX8_balloonOf_12 lmX8_78 kcX8_in (by decide) (c_X8_in) rfl rfl (Nat.le_of_ble_eq_true rfl) ?_
  intro r9 sh9 I9 J9 hD9; obtain ⟨rfl, rfl, rfl, rfl⟩ := pm_Dq hD9; clear hD9
  try simp only [Option.toList_some, Option.toList_none, List.cons_append, List.nil_append]
  refine g_if_neB (pc := 15) (tgt := 20) C dX8_balloonOf_15 (by decide) (fun h15 => ?_) (fun h15 => absurd hx h15)
  refine g_iload_n (pc := 20) (i := 2) (j := 2) C dX8_balloonOf_20 rfl rfl ?_
  refine pm_sw (0) (fun h21_0 => ?_) (fun h21_0 => ?_)
  · refine g_tsIn (pc := 21) (tgt := 84) (0) C dX8_balloonOf_21 (by rw [h21_0]; decide) (by decide) (by decide) rfl (by decide) ?_
    refine g_aload_n (pc := 84) (i := 0) (j := 0) C dX8_balloonOf_84 rfl rfl ?_
    refine g_getR (pc := 85) C dX8_balloonOf_85 lfX8_17 (by first | rfl | assumption) rfl ?_
    refine g_iload_n (pc := 88) (i := 1) (j := 1) C dX8_balloonOf_88 rfl rfl ?_
    refine g_iald (pc := 89) C dX8_balloonOf_89 (by first | rfl | assumption) (by decide) (by first | rfl | assumption) (by first | assumption | decide | omega) ?_
    refine g_iret (pc := 90) C C2 dX8_balloonOf_90 rfl (Nat.le_refl _) (Nat.le_refl _) ?_
    refine ⟨?_, rfl, rfl, rfl⟩
    rw [bl_of, h21_0, if_neg (by decide), if_neg (by decide), if_neg (by decide), e0]
    rfl
  refine pm_sw (1) (fun h21_1 => ?_) (fun h21_1 => ?_)
  · refine g_tsIn (pc := 21) (tgt := 91) (1) C dX8_balloonOf_21 (by rw [h21_1]; decide) (by decide) (by decide) rfl (by decide) ?_
    refine g_aload_n (pc := 91) (i := 0) (j := 0) C dX8_balloonOf_91 rfl rfl ?_
    refine g_getR (pc := 92) C dX8_balloonOf_92 lfX8_20 (by first | rfl | assumption) rfl ?_
    refine g_iload_n (pc := 95) (i := 1) (j := 1) C dX8_balloonOf_95 rfl rfl ?_
    refine g_iald (pc := 96) C dX8_balloonOf_96 (by first | rfl | assumption) (by decide) (by first | rfl | assumption) (by first | assumption | decide | omega) ?_
    refine g_iret (pc := 97) C C2 dX8_balloonOf_97 rfl (Nat.le_refl _) (Nat.le_refl _) ?_
    refine ⟨?_, rfl, rfl, rfl⟩
    rw [bl_of, h21_1, if_neg (by decide), if_neg (by decide), if_neg (by decide), e1]
    rfl
  refine pm_sw (2) (fun h21_2 => ?_) (fun h21_2 => ?_)
  · refine g_tsIn (pc := 21) (tgt := 116) (2) C dX8_balloonOf_21 (by rw [h21_2]; decide) (by decide) (by decide) rfl (by decide) ?_
    have hk : ∃ k, 2 ≤ k ∧ k ≤ 8 ∧ x = nI k := by
      first | exact ⟨2, by decide, by decide, h21_2⟩ | exact ⟨3, by decide, by decide, h21_3⟩ | exact ⟨4, by decide, by decide, h21_4⟩ | exact ⟨5, by decide, by decide, h21_5⟩ | exact ⟨6, by decide, by decide, h21_6⟩ | exact ⟨7, by decide, by decide, h21_7⟩ | exact ⟨8, by decide, by decide, h21_8⟩ | exfalso
      all_goals rcases (show z = 0 ∨ z = 1 ∨ z = 2 ∨ z = 3 ∨ z = 4 ∨ z = 5 ∨ z = 6 ∨ z = 7 ∨ z = 8 ∨ z = 9 ∨ z = 10 ∨ z = 11 by omega) with rfl | rfl | rfl | rfl | rfl | rfl | rfl | rfl | rfl | rfl | rfl | rfl
      all_goals first | exact h21_0 ez | exact h21_1 ez | exact h21_2 ez | exact h21_3 ez | exact h21_4 ez | exact h21_5 ez | exact h21_6 ez | exact h21_7 ez | exact h21_8 ez | exact h21_9 ez | exact h21_10 ez | exact h21_11 ez
    obtain ⟨k, k1, k2, k3⟩ := hk
    have hzk : z = k := (nI_eq (by omega) (by omega)).mp (ez.symm.trans k3)
    refine g_aload_n (pc := 116) (i := 0) (j := 0) C dX8_balloonOf_116 rfl rfl ?_
    refine g_iload_n (pc := 117) (i := 1) (j := 1) C dX8_balloonOf_117 rfl rfl ?_
    refine g_iload_n (pc := 118) (i := 2) (j := 2) C dX8_balloonOf_118 rfl rfl ?_
    refine g_iconst (pc := 119) (v := 1) C dX8_balloonOf_119 (by decide) ?_
    refine g_isub (pc := 120) C dX8_balloonOf_120 ?_
    rw [ez, nI_m1 (by omega)]
    refine g_callV (pc := 121) C dX8_balloonOf_121 lmX8_219 kcX8_its (by decide) (by first | rfl | assumption) (c_mo_its hF (by decide) (by omega) hW hb (p := z - 1) (by omega) (by omega)) rfl rfl (Nat.le_of_ble_eq_true rfl) ?_
    intro r9 sh9 I9 J9 hD9; obtain ⟨rfl, rfl, rfl, rfl⟩ := pm_Dq hD9; clear hD9
    try simp only [Option.toList_some, Option.toList_none, List.cons_append, List.nil_append]
    refine g_iret (pc := 124) C C2 dX8_balloonOf_124 rfl (Nat.le_refl _) (Nat.le_refl _) ?_
    refine ⟨?_, rfl, rfl, rfl⟩
    rw [bl_of, ez, if_neg (show ¬ nI z = 9 from fun q => by have := (nI_eq (a := z) (b := 9) (by omega) (by decide)).mp q; omega), if_neg (show ¬ nI z = 10 from fun q => by have := (nI_eq (a := z) (b := 10) (by omega) (by decide)).mp q; omega), if_neg (show ¬ nI z = 11 from fun q => by have := (nI_eq (a := z) (b := 11) (by omega) (by decide)).mp q; omega), nI_clamp (by omega), show z - 1 + 1 = z by omega]
  refine pm_sw (3) (fun h21_3 => ?_) (fun h21_3 => ?_)
  · refine g_tsIn (pc := 21) (tgt := 116) (3) C dX8_balloonOf_21 (by rw [h21_3]; decide) (by decide) (by decide) rfl (by decide) ?_
    have hk : ∃ k, 2 ≤ k ∧ k ≤ 8 ∧ x = nI k := by
      first | exact ⟨2, by decide, by decide, h21_2⟩ | exact ⟨3, by decide, by decide, h21_3⟩ | exact ⟨4, by decide, by decide, h21_4⟩ | exact ⟨5, by decide, by decide, h21_5⟩ | exact ⟨6, by decide, by decide, h21_6⟩ | exact ⟨7, by decide, by decide, h21_7⟩ | exact ⟨8, by decide, by decide, h21_8⟩ | exfalso
      all_goals rcases (show z = 0 ∨ z = 1 ∨ z = 2 ∨ z = 3 ∨ z = 4 ∨ z = 5 ∨ z = 6 ∨ z = 7 ∨ z = 8 ∨ z = 9 ∨ z = 10 ∨ z = 11 by omega) with rfl | rfl | rfl | rfl | rfl | rfl | rfl | rfl | rfl | rfl | rfl | rfl
      all_goals first | exact h21_0 ez | exact h21_1 ez | exact h21_2 ez | exact h21_3 ez | exact h21_4 ez | exact h21_5 ez | exact h21_6 ez | exact h21_7 ez | exact h21_8 ez | exact h21_9 ez | exact h21_10 ez | exact h21_11 ez
    obtain ⟨k, k1, k2, k3⟩ := hk
    have hzk : z = k := (nI_eq (by omega) (by omega)).mp (ez.symm.trans k3)
    refine g_aload_n (pc := 116) (i := 0) (j := 0) C dX8_balloonOf_116 rfl rfl ?_
    refine g_iload_n (pc := 117) (i := 1) (j := 1) C dX8_balloonOf_117 rfl rfl ?_
    refine g_iload_n (pc := 118) (i := 2) (j := 2) C dX8_balloonOf_118 rfl rfl ?_
    refine g_iconst (pc := 119) (v := 1) C dX8_balloonOf_119 (by decide) ?_
    refine g_isub (pc := 120) C dX8_balloonOf_120 ?_
    rw [ez, nI_m1 (by omega)]
    refine g_callV (pc := 121) C dX8_balloonOf_121 lmX8_219 kcX8_its (by decide) (by first | rfl | assumption) (c_mo_its hF (by decide) (by omega) hW hb (p := z - 1) (by omega) (by omega)) rfl rfl (Nat.le_of_ble_eq_true rfl) ?_
    intro r9 sh9 I9 J9 hD9; obtain ⟨rfl, rfl, rfl, rfl⟩ := pm_Dq hD9; clear hD9
    try simp only [Option.toList_some, Option.toList_none, List.cons_append, List.nil_append]
    refine g_iret (pc := 124) C C2 dX8_balloonOf_124 rfl (Nat.le_refl _) (Nat.le_refl _) ?_
    refine ⟨?_, rfl, rfl, rfl⟩
    rw [bl_of, ez, if_neg (show ¬ nI z = 9 from fun q => by have := (nI_eq (a := z) (b := 9) (by omega) (by decide)).mp q; omega), if_neg (show ¬ nI z = 10 from fun q => by have := (nI_eq (a := z) (b := 10) (by omega) (by decide)).mp q; omega), if_neg (show ¬ nI z = 11 from fun q => by have := (nI_eq (a := z) (b := 11) (by omega) (by decide)).mp q; omega), nI_clamp (by omega), show z - 1 + 1 = z by omega]
  refine pm_sw (4) (fun h21_4 => ?_) (fun h21_4 => ?_)
  · refine g_tsIn (pc := 21) (tgt := 116) (4) C dX8_balloonOf_21 (by rw [h21_4]; decide) (by decide) (by decide) rfl (by decide) ?_
    have hk : ∃ k, 2 ≤ k ∧ k ≤ 8 ∧ x = nI k := by
      first | exact ⟨2, by decide, by decide, h21_2⟩ | exact ⟨3, by decide, by decide, h21_3⟩ | exact ⟨4, by decide, by decide, h21_4⟩ | exact ⟨5, by decide, by decide, h21_5⟩ | exact ⟨6, by decide, by decide, h21_6⟩ | exact ⟨7, by decide, by decide, h21_7⟩ | exact ⟨8, by decide, by decide, h21_8⟩ | exfalso
      all_goals rcases (show z = 0 ∨ z = 1 ∨ z = 2 ∨ z = 3 ∨ z = 4 ∨ z = 5 ∨ z = 6 ∨ z = 7 ∨ z = 8 ∨ z = 9 ∨ z = 10 ∨ z = 11 by omega) with rfl | rfl | rfl | rfl | rfl | rfl | rfl | rfl | rfl | rfl | rfl | rfl
      all_goals first | exact h21_0 ez | exact h21_1 ez | exact h21_2 ez | exact h21_3 ez | exact h21_4 ez | exact h21_5 ez | exact h21_6 ez | exact h21_7 ez | exact h21_8 ez | exact h21_9 ez | exact h21_10 ez | exact h21_11 ez
    obtain ⟨k, k1, k2, k3⟩ := hk
    have hzk : z = k := (nI_eq (by omega) (by omega)).mp (ez.symm.trans k3)
    refine g_aload_n (pc := 116) (i := 0) (j := 0) C dX8_balloonOf_116 rfl rfl ?_
    refine g_iload_n (pc := 117) (i := 1) (j := 1) C dX8_balloonOf_117 rfl rfl ?_
    refine g_iload_n (pc := 118) (i := 2) (j := 2) C dX8_balloonOf_118 rfl rfl ?_
    refine g_iconst (pc := 119) (v := 1) C dX8_balloonOf_119 (by decide) ?_
    refine g_isub (pc := 120) C dX8_balloonOf_120 ?_
    rw [ez, nI_m1 (by omega)]
    refine g_callV (pc := 121) C dX8_balloonOf_121 lmX8_219 kcX8_its (by decide) (by first | rfl | assumption) (c_mo_its hF (by decide) (by omega) hW hb (p := z - 1) (by omega) (by omega)) rfl rfl (Nat.le_of_ble_eq_true rfl) ?_
    intro r9 sh9 I9 J9 hD9; obtain ⟨rfl, rfl, rfl, rfl⟩ := pm_Dq hD9; clear hD9
    try simp only [Option.toList_some, Option.toList_none, List.cons_append, List.nil_append]
    refine g_iret (pc := 124) C C2 dX8_balloonOf_124 rfl (Nat.le_refl _) (Nat.le_refl _) ?_
    refine ⟨?_, rfl, rfl, rfl⟩
    rw [bl_of, ez, if_neg (show ¬ nI z = 9 from fun q => by have := (nI_eq (a := z) (b := 9) (by omega) (by decide)).mp q; omega), if_neg (show ¬ nI z = 10 from fun q => by have := (nI_eq (a := z) (b := 10) (by omega) (by decide)).mp q; omega), if_neg (show ¬ nI z = 11 from fun q => by have := (nI_eq (a := z) (b := 11) (by omega) (by decide)).mp q; omega), nI_clamp (by omega), show z - 1 + 1 = z by omega]
  refine pm_sw (5) (fun h21_5 => ?_) (fun h21_5 => ?_)
  · refine g_tsIn (pc := 21) (tgt := 116) (5) C dX8_balloonOf_21 (by rw [h21_5]; decide) (by decide) (by decide) rfl (by decide) ?_
    have hk : ∃ k, 2 ≤ k ∧ k ≤ 8 ∧ x = nI k := by
      first | exact ⟨2, by decide, by decide, h21_2⟩ | exact ⟨3, by decide, by decide, h21_3⟩ | exact ⟨4, by decide, by decide, h21_4⟩ | exact ⟨5, by decide, by decide, h21_5⟩ | exact ⟨6, by decide, by decide, h21_6⟩ | exact ⟨7, by decide, by decide, h21_7⟩ | exact ⟨8, by decide, by decide, h21_8⟩ | exfalso
      all_goals rcases (show z = 0 ∨ z = 1 ∨ z = 2 ∨ z = 3 ∨ z = 4 ∨ z = 5 ∨ z = 6 ∨ z = 7 ∨ z = 8 ∨ z = 9 ∨ z = 10 ∨ z = 11 by omega) with rfl | rfl | rfl | rfl | rfl | rfl | rfl | rfl | rfl | rfl | rfl | rfl
      all_goals first | exact h21_0 ez | exact h21_1 ez | exact h21_2 ez | exact h21_3 ez | exact h21_4 ez | exact h21_5 ez | exact h21_6 ez | exact h21_7 ez | exact h21_8 ez | exact h21_9 ez | exact h21_10 ez | exact h21_11 ez
    obtain ⟨k, k1, k2, k3⟩ := hk
    have hzk : z = k := (nI_eq (by omega) (by omega)).mp (ez.symm.trans k3)
    refine g_aload_n (pc := 116) (i := 0) (j := 0) C dX8_balloonOf_116 rfl rfl ?_
    refine g_iload_n (pc := 117) (i := 1) (j := 1) C dX8_balloonOf_117 rfl rfl ?_
    refine g_iload_n (pc := 118) (i := 2) (j := 2) C dX8_balloonOf_118 rfl rfl ?_
    refine g_iconst (pc := 119) (v := 1) C dX8_balloonOf_119 (by decide) ?_
    refine g_isub (pc := 120) C dX8_balloonOf_120 ?_
    rw [ez, nI_m1 (by omega)]
    refine g_callV (pc := 121) C dX8_balloonOf_121 lmX8_219 kcX8_its (by decide) (by first | rfl | assumption) (c_mo_its hF (by decide) (by omega) hW hb (p := z - 1) (by omega) (by omega)) rfl rfl (Nat.le_of_ble_eq_true rfl) ?_
    intro r9 sh9 I9 J9 hD9; obtain ⟨rfl, rfl, rfl, rfl⟩ := pm_Dq hD9; clear hD9
    try simp only [Option.toList_some, Option.toList_none, List.cons_append, List.nil_append]
    refine g_iret (pc := 124) C C2 dX8_balloonOf_124 rfl (Nat.le_refl _) (Nat.le_refl _) ?_
    refine ⟨?_, rfl, rfl, rfl⟩
    rw [bl_of, ez, if_neg (show ¬ nI z = 9 from fun q => by have := (nI_eq (a := z) (b := 9) (by omega) (by decide)).mp q; omega), if_neg (show ¬ nI z = 10 from fun q => by have := (nI_eq (a := z) (b := 10) (by omega) (by decide)).mp q; omega), if_neg (show ¬ nI z = 11 from fun q => by have := (nI_eq (a := z) (b := 11) (by omega) (by decide)).mp q; omega), nI_clamp (by omega), show z - 1 + 1 = z by omega]
  refine pm_sw (6) (fun h21_6 => ?_) (fun h21_6 => ?_)
  · refine g_tsIn (pc := 21) (tgt := 116) (6) C dX8_balloonOf_21 (by rw [h21_6]; decide) (by decide) (by decide) rfl (by decide) ?_
    have hk : ∃ k, 2 ≤ k ∧ k ≤ 8 ∧ x = nI k := by
      first | exact ⟨2, by decide, by decide, h21_2⟩ | exact ⟨3, by decide, by decide, h21_3⟩ | exact ⟨4, by decide, by decide, h21_4⟩ | exact ⟨5, by decide, by decide, h21_5⟩ | exact ⟨6, by decide, by decide, h21_6⟩ | exact ⟨7, by decide, by decide, h21_7⟩ | exact ⟨8, by decide, by decide, h21_8⟩ | exfalso
      all_goals rcases (show z = 0 ∨ z = 1 ∨ z = 2 ∨ z = 3 ∨ z = 4 ∨ z = 5 ∨ z = 6 ∨ z = 7 ∨ z = 8 ∨ z = 9 ∨ z = 10 ∨ z = 11 by omega) with rfl | rfl | rfl | rfl | rfl | rfl | rfl | rfl | rfl | rfl | rfl | rfl
      all_goals first | exact h21_0 ez | exact h21_1 ez | exact h21_2 ez | exact h21_3 ez | exact h21_4 ez | exact h21_5 ez | exact h21_6 ez | exact h21_7 ez | exact h21_8 ez | exact h21_9 ez | exact h21_10 ez | exact h21_11 ez
    obtain ⟨k, k1, k2, k3⟩ := hk
    have hzk : z = k := (nI_eq (by omega) (by omega)).mp (ez.symm.trans k3)
    refine g_aload_n (pc := 116) (i := 0) (j := 0) C dX8_balloonOf_116 rfl rfl ?_
    refine g_iload_n (pc := 117) (i := 1) (j := 1) C dX8_balloonOf_117 rfl rfl ?_
    refine g_iload_n (pc := 118) (i := 2) (j := 2) C dX8_balloonOf_118 rfl rfl ?_
    refine g_iconst (pc := 119) (v := 1) C dX8_balloonOf_119 (by decide) ?_
    refine g_isub (pc := 120) C dX8_balloonOf_120 ?_
    rw [ez, nI_m1 (by omega)]
    refine g_callV (pc := 121) C dX8_balloonOf_121 lmX8_219 kcX8_its (by decide) (by first | rfl | assumption) (c_mo_its hF (by decide) (by omega) hW hb (p := z - 1) (by omega) (by omega)) rfl rfl (Nat.le_of_ble_eq_true rfl) ?_
    intro r9 sh9 I9 J9 hD9; obtain ⟨rfl, rfl, rfl, rfl⟩ := pm_Dq hD9; clear hD9
    try simp only [Option.toList_some, Option.toList_none, List.cons_append, List.nil_append]
    refine g_iret (pc := 124) C C2 dX8_balloonOf_124 rfl (Nat.le_refl _) (Nat.le_refl _) ?_
    refine ⟨?_, rfl, rfl, rfl⟩
    rw [bl_of, ez, if_neg (show ¬ nI z = 9 from fun q => by have := (nI_eq (a := z) (b := 9) (by omega) (by decide)).mp q; omega), if_neg (show ¬ nI z = 10 from fun q => by have := (nI_eq (a := z) (b := 10) (by omega) (by decide)).mp q; omega), if_neg (show ¬ nI z = 11 from fun q => by have := (nI_eq (a := z) (b := 11) (by omega) (by decide)).mp q; omega), nI_clamp (by omega), show z - 1 + 1 = z by omega]
  refine pm_sw (7) (fun h21_7 => ?_) (fun h21_7 => ?_)
  · refine g_tsIn (pc := 21) (tgt := 116) (7) C dX8_balloonOf_21 (by rw [h21_7]; decide) (by decide) (by decide) rfl (by decide) ?_
    have hk : ∃ k, 2 ≤ k ∧ k ≤ 8 ∧ x = nI k := by
      first | exact ⟨2, by decide, by decide, h21_2⟩ | exact ⟨3, by decide, by decide, h21_3⟩ | exact ⟨4, by decide, by decide, h21_4⟩ | exact ⟨5, by decide, by decide, h21_5⟩ | exact ⟨6, by decide, by decide, h21_6⟩ | exact ⟨7, by decide, by decide, h21_7⟩ | exact ⟨8, by decide, by decide, h21_8⟩ | exfalso
      all_goals rcases (show z = 0 ∨ z = 1 ∨ z = 2 ∨ z = 3 ∨ z = 4 ∨ z = 5 ∨ z = 6 ∨ z = 7 ∨ z = 8 ∨ z = 9 ∨ z = 10 ∨ z = 11 by omega) with rfl | rfl | rfl | rfl | rfl | rfl | rfl | rfl | rfl | rfl | rfl | rfl
      all_goals first | exact h21_0 ez | exact h21_1 ez | exact h21_2 ez | exact h21_3 ez | exact h21_4 ez | exact h21_5 ez | exact h21_6 ez | exact h21_7 ez | exact h21_8 ez | exact h21_9 ez | exact h21_10 ez | exact h21_11 ez
    obtain ⟨k, k1, k2, k3⟩ := hk
    have hzk : z = k := (nI_eq (by omega) (by omega)).mp (ez.symm.trans k3)
    refine g_aload_n (pc := 116) (i := 0) (j := 0) C dX8_balloonOf_116 rfl rfl ?_
    refine g_iload_n (pc := 117) (i := 1) (j := 1) C dX8_balloonOf_117 rfl rfl ?_
    refine g_iload_n (pc := 118) (i := 2) (j := 2) C dX8_balloonOf_118 rfl rfl ?_
    refine g_iconst (pc := 119) (v := 1) C dX8_balloonOf_119 (by decide) ?_
    refine g_isub (pc := 120) C dX8_balloonOf_120 ?_
    rw [ez, nI_m1 (by omega)]
    refine g_callV (pc := 121) C dX8_balloonOf_121 lmX8_219 kcX8_its (by decide) (by first | rfl | assumption) (c_mo_its hF (by decide) (by omega) hW hb (p := z - 1) (by omega) (by omega)) rfl rfl (Nat.le_of_ble_eq_true rfl) ?_
    intro r9 sh9 I9 J9 hD9; obtain ⟨rfl, rfl, rfl, rfl⟩ := pm_Dq hD9; clear hD9
    try simp only [Option.toList_some, Option.toList_none, List.cons_append, List.nil_append]
    refine g_iret (pc := 124) C C2 dX8_balloonOf_124 rfl (Nat.le_refl _) (Nat.le_refl _) ?_
    refine ⟨?_, rfl, rfl, rfl⟩
    rw [bl_of, ez, if_neg (show ¬ nI z = 9 from fun q => by have := (nI_eq (a := z) (b := 9) (by omega) (by decide)).mp q; omega), if_neg (show ¬ nI z = 10 from fun q => by have := (nI_eq (a := z) (b := 10) (by omega) (by decide)).mp q; omega), if_neg (show ¬ nI z = 11 from fun q => by have := (nI_eq (a := z) (b := 11) (by omega) (by decide)).mp q; omega), nI_clamp (by omega), show z - 1 + 1 = z by omega]
  refine pm_sw (8) (fun h21_8 => ?_) (fun h21_8 => ?_)
  · refine g_tsIn (pc := 21) (tgt := 116) (8) C dX8_balloonOf_21 (by rw [h21_8]; decide) (by decide) (by decide) rfl (by decide) ?_
    have hk : ∃ k, 2 ≤ k ∧ k ≤ 8 ∧ x = nI k := by
      first | exact ⟨2, by decide, by decide, h21_2⟩ | exact ⟨3, by decide, by decide, h21_3⟩ | exact ⟨4, by decide, by decide, h21_4⟩ | exact ⟨5, by decide, by decide, h21_5⟩ | exact ⟨6, by decide, by decide, h21_6⟩ | exact ⟨7, by decide, by decide, h21_7⟩ | exact ⟨8, by decide, by decide, h21_8⟩ | exfalso
      all_goals rcases (show z = 0 ∨ z = 1 ∨ z = 2 ∨ z = 3 ∨ z = 4 ∨ z = 5 ∨ z = 6 ∨ z = 7 ∨ z = 8 ∨ z = 9 ∨ z = 10 ∨ z = 11 by omega) with rfl | rfl | rfl | rfl | rfl | rfl | rfl | rfl | rfl | rfl | rfl | rfl
      all_goals first | exact h21_0 ez | exact h21_1 ez | exact h21_2 ez | exact h21_3 ez | exact h21_4 ez | exact h21_5 ez | exact h21_6 ez | exact h21_7 ez | exact h21_8 ez | exact h21_9 ez | exact h21_10 ez | exact h21_11 ez
    obtain ⟨k, k1, k2, k3⟩ := hk
    have hzk : z = k := (nI_eq (by omega) (by omega)).mp (ez.symm.trans k3)
    refine g_aload_n (pc := 116) (i := 0) (j := 0) C dX8_balloonOf_116 rfl rfl ?_
    refine g_iload_n (pc := 117) (i := 1) (j := 1) C dX8_balloonOf_117 rfl rfl ?_
    refine g_iload_n (pc := 118) (i := 2) (j := 2) C dX8_balloonOf_118 rfl rfl ?_
    refine g_iconst (pc := 119) (v := 1) C dX8_balloonOf_119 (by decide) ?_
    refine g_isub (pc := 120) C dX8_balloonOf_120 ?_
    rw [ez, nI_m1 (by omega)]
    refine g_callV (pc := 121) C dX8_balloonOf_121 lmX8_219 kcX8_its (by decide) (by first | rfl | assumption) (c_mo_its hF (by decide) (by omega) hW hb (p := z - 1) (by omega) (by omega)) rfl rfl (Nat.le_of_ble_eq_true rfl) ?_
    intro r9 sh9 I9 J9 hD9; obtain ⟨rfl, rfl, rfl, rfl⟩ := pm_Dq hD9; clear hD9
    try simp only [Option.toList_some, Option.toList_none, List.cons_append, List.nil_append]
    refine g_iret (pc := 124) C C2 dX8_balloonOf_124 rfl (Nat.le_refl _) (Nat.le_refl _) ?_
    refine ⟨?_, rfl, rfl, rfl⟩
    rw [bl_of, ez, if_neg (show ¬ nI z = 9 from fun q => by have := (nI_eq (a := z) (b := 9) (by omega) (by decide)).mp q; omega), if_neg (show ¬ nI z = 10 from fun q => by have := (nI_eq (a := z) (b := 10) (by omega) (by decide)).mp q; omega), if_neg (show ¬ nI z = 11 from fun q => by have := (nI_eq (a := z) (b := 11) (by omega) (by decide)).mp q; omega), nI_clamp (by omega), show z - 1 + 1 = z by omega]
  refine pm_sw (9) (fun h21_9 => ?_) (fun h21_9 => ?_)
  · refine g_tsIn (pc := 21) (tgt := 98) (9) C dX8_balloonOf_21 (by rw [h21_9]; decide) (by decide) (by decide) rfl (by decide) ?_
    refine g_aload_n (pc := 98) (i := 0) (j := 0) C dX8_balloonOf_98 rfl rfl ?_
    refine g_iload_n (pc := 99) (i := 1) (j := 1) C dX8_balloonOf_99 rfl rfl ?_
    refine g_callV (pc := 100) C dX8_balloonOf_100 lmX8_231 kcX8_weight (by decide) (by first | rfl | assumption) (c_mo_weight hF (by decide) (by omega) hW hb) rfl rfl (Nat.le_of_ble_eq_true rfl) ?_
    intro r9 sh9 I9 J9 hD9; obtain ⟨rfl, rfl, rfl, rfl⟩ := pm_Dq hD9; clear hD9
    try simp only [Option.toList_some, Option.toList_none, List.cons_append, List.nil_append]
    refine g_iret (pc := 103) C C2 dX8_balloonOf_103 rfl (Nat.le_refl _) (Nat.le_refl _) ?_
    exact ⟨by rw [bl_of, h21_9, if_pos rfl], rfl, rfl, rfl⟩
  refine pm_sw (10) (fun h21_10 => ?_) (fun h21_10 => ?_)
  · refine g_tsIn (pc := 21) (tgt := 104) (10) C dX8_balloonOf_21 (by rw [h21_10]; decide) (by decide) (by decide) rfl (by decide) ?_
    refine g_aload_n (pc := 104) (i := 0) (j := 0) C dX8_balloonOf_104 rfl rfl ?_
    refine g_iload_n (pc := 105) (i := 1) (j := 1) C dX8_balloonOf_105 rfl rfl ?_
    refine g_callV (pc := 106) C dX8_balloonOf_106 lmX8_237 kcX8_target (by decide) (by first | rfl | assumption) (c_mo_target hF (by decide) (by omega) hW hb) rfl rfl (Nat.le_of_ble_eq_true rfl) ?_
    intro r9 sh9 I9 J9 hD9; obtain ⟨rfl, rfl, rfl, rfl⟩ := pm_Dq hD9; clear hD9
    try simp only [Option.toList_some, Option.toList_none, List.cons_append, List.nil_append]
    refine g_iret (pc := 109) C C2 dX8_balloonOf_109 rfl (Nat.le_refl _) (Nat.le_refl _) ?_
    exact ⟨by rw [bl_of, h21_10, if_neg (by decide), if_pos rfl, Int32.sub_zero], rfl, rfl, rfl⟩
  refine pm_sw (11) (fun h21_11 => ?_) (fun h21_11 => ?_)
  · refine g_tsIn (pc := 21) (tgt := 110) (11) C dX8_balloonOf_21 (by rw [h21_11]; decide) (by decide) (by decide) rfl (by decide) ?_
    refine g_aload_n (pc := 110) (i := 0) (j := 0) C dX8_balloonOf_110 rfl rfl ?_
    refine g_iload_n (pc := 111) (i := 1) (j := 1) C dX8_balloonOf_111 rfl rfl ?_
    refine g_callV (pc := 112) C dX8_balloonOf_112 lmX8_240 kcX8_leaks (by decide) (by first | rfl | assumption) (c_mo_leaks hF (by decide) (by omega) hW hb) rfl rfl (Nat.le_of_ble_eq_true rfl) ?_
    intro r9 sh9 I9 J9 hD9; obtain ⟨rfl, rfl, rfl, rfl⟩ := pm_Dq hD9; clear hD9
    try simp only [Option.toList_some, Option.toList_none, List.cons_append, List.nil_append]
    refine g_iret (pc := 115) C C2 dX8_balloonOf_115 rfl (Nat.le_refl _) (Nat.le_refl _) ?_
    exact ⟨by rw [bl_of, h21_11, if_neg (by decide), if_neg (by decide), if_pos rfl], rfl, rfl, rfl⟩
  refine g_tsOut (pc := 21) (tgt := 116) C dX8_balloonOf_21 (by have q0 := lv_neT (a := 0) h21_0 (by decide); have q1 := lv_neT (a := 1) h21_1 (by decide); have q2 := lv_neT (a := 2) h21_2 (by decide); have q3 := lv_neT (a := 3) h21_3 (by decide); have q4 := lv_neT (a := 4) h21_4 (by decide); have q5 := lv_neT (a := 5) h21_5 (by decide); have q6 := lv_neT (a := 6) h21_6 (by decide); have q7 := lv_neT (a := 7) h21_7 (by decide); have q8 := lv_neT (a := 8) h21_8 (by decide); have q9 := lv_neT (a := 9) h21_9 (by decide); have q10 := lv_neT (a := 10) h21_10 (by decide); have q11 := lv_neT (a := 11) h21_11 (by decide); omega) (by decide) ?_
  have hk : ∃ k, 2 ≤ k ∧ k ≤ 8 ∧ x = nI k := by
    first | exact ⟨2, by decide, by decide, h21_2⟩ | exact ⟨3, by decide, by decide, h21_3⟩ | exact ⟨4, by decide, by decide, h21_4⟩ | exact ⟨5, by decide, by decide, h21_5⟩ | exact ⟨6, by decide, by decide, h21_6⟩ | exact ⟨7, by decide, by decide, h21_7⟩ | exact ⟨8, by decide, by decide, h21_8⟩ | exfalso
    all_goals rcases (show z = 0 ∨ z = 1 ∨ z = 2 ∨ z = 3 ∨ z = 4 ∨ z = 5 ∨ z = 6 ∨ z = 7 ∨ z = 8 ∨ z = 9 ∨ z = 10 ∨ z = 11 by omega) with rfl | rfl | rfl | rfl | rfl | rfl | rfl | rfl | rfl | rfl | rfl | rfl
    all_goals first | exact h21_0 ez | exact h21_1 ez | exact h21_2 ez | exact h21_3 ez | exact h21_4 ez | exact h21_5 ez | exact h21_6 ez | exact h21_7 ez | exact h21_8 ez | exact h21_9 ez | exact h21_10 ez | exact h21_11 ez
  obtain ⟨k, k1, k2, k3⟩ := hk
  have hzk : z = k := (nI_eq (by omega) (by omega)).mp (ez.symm.trans k3)
  refine g_aload_n (pc := 116) (i := 0) (j := 0) C dX8_balloonOf_116 rfl rfl ?_
  refine g_iload_n (pc := 117) (i := 1) (j := 1) C dX8_balloonOf_117 rfl rfl ?_
  refine g_iload_n (pc := 118) (i := 2) (j := 2) C dX8_balloonOf_118 rfl rfl ?_
  refine g_iconst (pc := 119) (v := 1) C dX8_balloonOf_119 (by decide) ?_
  refine g_isub (pc := 120) C dX8_balloonOf_120 ?_
  rw [ez, nI_m1 (by omega)]
  refine g_callV (pc := 121) C dX8_balloonOf_121 lmX8_219 kcX8_its (by decide) (by first | rfl | assumption) (c_mo_its hF (by decide) (by omega) hW hb (p := z - 1) (by omega) (by omega)) rfl rfl (Nat.le_of_ble_eq_true rfl) ?_
  intro r9 sh9 I9 J9 hD9; obtain ⟨rfl, rfl, rfl, rfl⟩ := pm_Dq hD9; clear hD9
  try simp only [Option.toList_some, Option.toList_none, List.cons_append, List.nil_append]
  refine g_iret (pc := 124) C C2 dX8_balloonOf_124 rfl (Nat.le_refl _) (Nat.le_refl _) ?_
  refine ⟨?_, rfl, rfl, rfl⟩
  rw [bl_of, ez, if_neg (show ¬ nI z = 9 from fun q => by have := (nI_eq (a := z) (b := 9) (by omega) (by decide)).mp q; omega), if_neg (show ¬ nI z = 10 from fun q => by have := (nI_eq (a := z) (b := 10) (by omega) (by decide)).mp q; omega), if_neg (show ¬ nI z = 11 from fun q => by have := (nI_eq (a := z) (b := 11) (by omega) (by decide)).mp q; omega), nI_clamp (by omega), show z - 1 + 1 = z by omega]

set_option maxHeartbeats 4000000 in
set_option maxRecDepth 100000 in
theorem c_X8_balloonOf0 {d : Nat} {x y : Int32} {I : pm_I} {J : pm_J} (hv : ¬ ((0 ≤ x ∧ x ≤ I 102 2 - 1) ∧ 0 ≤ y ∧ y ≤ 11)) : pm_M (d + 2) 0 0 yX8_balloonOf cX8_balloonOf 3 (some .int) [.ref 102, .int x, .int y] SHP I J (pm_D (some (.int (-1))) SHP I J) := by
  refine pm_start (own := RX8) (nm := "balloonOf") (by decide) rfl rfl (L := [(0, .ref 102), (1, .int x), (2, .int y)]) rfl (Nat.le_of_ble_eq_true rfl) (fun Γ C C2 => ?_)
  refine g_aload_n (pc := 0) (i := 0) (j := 0) C dX8_balloonOf_0 rfl rfl ?_
  refine g_iload_n (pc := 1) (i := 1) (j := 1) C dX8_balloonOf_1 rfl rfl ?_
  refine g_callV (pc := 2) C dX8_balloonOf_2 lmX8_234 kcX8_isBalloon (by decide) (by first | rfl | assumption) (c_X8_isBalloon) rfl rfl (Nat.le_of_ble_eq_true rfl) ?_
  intro r9 sh9 I9 J9 hD9; obtain ⟨rfl, rfl, rfl, rfl⟩ := pm_Dq hD9; clear hD9
  try simp only [Option.toList_some, Option.toList_none, List.cons_append, List.nil_append]
  refine g_if_eqB (pc := 5) (tgt := 18) C dX8_balloonOf_5 (by decide) (fun h5 => ?_) (fun h5 => ?_)
  · refine g_iconst (pc := 18) (v := (-1)) C dX8_balloonOf_18 (by decide) ?_
    refine g_iret (pc := 19) C C2 dX8_balloonOf_19 rfl (Nat.le_refl _) (Nat.le_refl _) ?_
    exact ⟨rfl, rfl, rfl, rfl⟩
  · refine g_iload_n (pc := 8) (i := 2) (j := 2) C dX8_balloonOf_8 rfl rfl ?_
    refine g_iconst (pc := 9) (v := 0) C dX8_balloonOf_9 (by decide) ?_
    refine g_bipush (pc := 10) (v := 11) C dX8_balloonOf_10 (by decide) ?_
    refine g_callS (pc := 12) C dX8_balloonOf_12 lmX8_78 kcX8_in (by decide) (c_X8_in) rfl rfl (Nat.le_of_ble_eq_true rfl) ?_
    intro r9 sh9 I9 J9 hD9; obtain ⟨rfl, rfl, rfl, rfl⟩ := pm_Dq hD9; clear hD9
    try simp only [Option.toList_some, Option.toList_none, List.cons_append, List.nil_append]
    refine g_if_neB (pc := 15) (tgt := 20) C dX8_balloonOf_15 (by decide) (fun h15 => ?_) (fun h15 => ?_)
    · exact absurd ⟨h5, h15⟩ hv
    · refine g_iconst (pc := 18) (v := (-1)) C dX8_balloonOf_18 (by decide) ?_
      refine g_iret (pc := 19) C C2 dX8_balloonOf_19 rfl (Nat.le_refl _) (Nat.le_refl _) ?_
      exact ⟨rfl, rfl, rfl, rfl⟩

set_option maxHeartbeats 4000000 in
set_option maxRecDepth 100000 in
theorem c_X8_isPart {d : Nat} {x v : Int32} {sh : List pm_S} {I : pm_I} {J : pm_J} : pm_M (d + 1) 0 0 yX8_isPart cX8_isPart 2 (some .boolean) [.int x, .int v] sh I J (pm_D (some (.int (pm_b ((2 ≤ x ∧ x ≤ 8) ∧ (pm_tv 1).getD x.toNatClampNeg 0 ≤ v ∧ v ≤ (pm_tv 2).getD x.toNatClampNeg 0)))) sh I J) := by
  refine pm_start (own := RX8) (nm := "isPart") (by decide) rfl rfl (L := [(0, .int x), (1, .int v)]) rfl (Nat.le_of_ble_eq_true rfl) (fun Γ C C2 => ?_)
  refine g_iload_n (pc := 0) (i := 0) (j := 0) C dX8_isPart_0 rfl rfl ?_
  refine pm_sw (2) (fun h1_0 => ?_) (fun h1_0 => ?_)
  · refine g_tsIn (pc := 1) (tgt := 44) (2) C dX8_isPart_1 (by rw [h1_0]; decide) (by decide) (by decide) rfl (by decide) ?_
    refine g_iload_n (pc := 44) (i := 1) (j := 1) C dX8_isPart_44 rfl rfl ?_
    refine g_iconst (pc := 45) (v := 0) C dX8_isPart_45 (by decide) ?_
    refine g_iconst (pc := 46) (v := 5) C dX8_isPart_46 (by decide) ?_
    refine g_callS (pc := 47) C dX8_isPart_47 lmX8_78 kcX8_in (by decide) (c_X8_in) rfl rfl (Nat.le_of_ble_eq_true rfl) ?_
    intro r9 sh9 I9 J9 hD9; obtain ⟨rfl, rfl, rfl, rfl⟩ := pm_Dq hD9; clear hD9
    try simp only [Option.toList_some, Option.toList_none, List.cons_append, List.nil_append]
    refine g_iret (pc := 50) C C2 dX8_isPart_50 (by first | rfl | exact pm_nz) (Nat.le_refl _) (Nat.le_refl _) ?_
    refine ⟨?_, rfl, rfl, rfl⟩
    refine congrArg (fun z => some (Value.int z)) (pm_b_iff ?_)
    first | (rw [h1_0]; exact ⟨fun q => ⟨by decide, q⟩, fun q => q.2⟩) | (rw [h1_1]; exact ⟨fun q => ⟨by decide, q⟩, fun q => q.2⟩) | (rw [h1_2]; exact ⟨fun q => ⟨by decide, q⟩, fun q => q.2⟩) | (rw [h1_3]; exact ⟨fun q => ⟨by decide, q⟩, fun q => q.2⟩) | (rw [h1_4]; exact ⟨fun q => ⟨by decide, q⟩, fun q => q.2⟩) | (rw [h1_5]; exact ⟨fun q => ⟨by decide, q⟩, fun q => q.2⟩) | (rw [h1_6]; exact ⟨fun q => ⟨by decide, q⟩, fun q => q.2⟩)
  refine pm_sw (3) (fun h1_1 => ?_) (fun h1_1 => ?_)
  · refine g_tsIn (pc := 1) (tgt := 51) (3) C dX8_isPart_1 (by rw [h1_1]; decide) (by decide) (by decide) rfl (by decide) ?_
    refine g_iload_n (pc := 51) (i := 1) (j := 1) C dX8_isPart_51 rfl rfl ?_
    refine g_iconst (pc := 52) (v := 0) C dX8_isPart_52 (by decide) ?_
    refine g_bipush (pc := 53) (v := 99) C dX8_isPart_53 (by decide) ?_
    refine g_callS (pc := 55) C dX8_isPart_55 lmX8_78 kcX8_in (by decide) (c_X8_in) rfl rfl (Nat.le_of_ble_eq_true rfl) ?_
    intro r9 sh9 I9 J9 hD9; obtain ⟨rfl, rfl, rfl, rfl⟩ := pm_Dq hD9; clear hD9
    try simp only [Option.toList_some, Option.toList_none, List.cons_append, List.nil_append]
    refine g_iret (pc := 58) C C2 dX8_isPart_58 (by first | rfl | exact pm_nz) (Nat.le_refl _) (Nat.le_refl _) ?_
    refine ⟨?_, rfl, rfl, rfl⟩
    refine congrArg (fun z => some (Value.int z)) (pm_b_iff ?_)
    first | (rw [h1_0]; exact ⟨fun q => ⟨by decide, q⟩, fun q => q.2⟩) | (rw [h1_1]; exact ⟨fun q => ⟨by decide, q⟩, fun q => q.2⟩) | (rw [h1_2]; exact ⟨fun q => ⟨by decide, q⟩, fun q => q.2⟩) | (rw [h1_3]; exact ⟨fun q => ⟨by decide, q⟩, fun q => q.2⟩) | (rw [h1_4]; exact ⟨fun q => ⟨by decide, q⟩, fun q => q.2⟩) | (rw [h1_5]; exact ⟨fun q => ⟨by decide, q⟩, fun q => q.2⟩) | (rw [h1_6]; exact ⟨fun q => ⟨by decide, q⟩, fun q => q.2⟩)
  refine pm_sw (4) (fun h1_2 => ?_) (fun h1_2 => ?_)
  · refine g_tsIn (pc := 1) (tgt := 59) (4) C dX8_isPart_1 (by rw [h1_2]; decide) (by decide) (by decide) rfl (by decide) ?_
    refine g_iload_n (pc := 59) (i := 1) (j := 1) C dX8_isPart_59 rfl rfl ?_
    refine g_iconst (pc := 60) (v := 1) C dX8_isPart_60 (by decide) ?_
    refine g_bipush (pc := 61) (v := 99) C dX8_isPart_61 (by decide) ?_
    refine g_callS (pc := 63) C dX8_isPart_63 lmX8_78 kcX8_in (by decide) (c_X8_in) rfl rfl (Nat.le_of_ble_eq_true rfl) ?_
    intro r9 sh9 I9 J9 hD9; obtain ⟨rfl, rfl, rfl, rfl⟩ := pm_Dq hD9; clear hD9
    try simp only [Option.toList_some, Option.toList_none, List.cons_append, List.nil_append]
    refine g_iret (pc := 66) C C2 dX8_isPart_66 (by first | rfl | exact pm_nz) (Nat.le_refl _) (Nat.le_refl _) ?_
    refine ⟨?_, rfl, rfl, rfl⟩
    refine congrArg (fun z => some (Value.int z)) (pm_b_iff ?_)
    first | (rw [h1_0]; exact ⟨fun q => ⟨by decide, q⟩, fun q => q.2⟩) | (rw [h1_1]; exact ⟨fun q => ⟨by decide, q⟩, fun q => q.2⟩) | (rw [h1_2]; exact ⟨fun q => ⟨by decide, q⟩, fun q => q.2⟩) | (rw [h1_3]; exact ⟨fun q => ⟨by decide, q⟩, fun q => q.2⟩) | (rw [h1_4]; exact ⟨fun q => ⟨by decide, q⟩, fun q => q.2⟩) | (rw [h1_5]; exact ⟨fun q => ⟨by decide, q⟩, fun q => q.2⟩) | (rw [h1_6]; exact ⟨fun q => ⟨by decide, q⟩, fun q => q.2⟩)
  refine pm_sw (5) (fun h1_3 => ?_) (fun h1_3 => ?_)
  · refine g_tsIn (pc := 1) (tgt := 67) (5) C dX8_isPart_1 (by rw [h1_3]; decide) (by decide) (by decide) rfl (by decide) ?_
    refine g_iload_n (pc := 67) (i := 1) (j := 1) C dX8_isPart_67 rfl rfl ?_
    refine g_iconst (pc := 68) (v := 0) C dX8_isPart_68 (by decide) ?_
    refine g_sipush (pc := 69) (v := 999) C dX8_isPart_69 (by decide) ?_
    refine g_callS (pc := 72) C dX8_isPart_72 lmX8_78 kcX8_in (by decide) (c_X8_in) rfl rfl (Nat.le_of_ble_eq_true rfl) ?_
    intro r9 sh9 I9 J9 hD9; obtain ⟨rfl, rfl, rfl, rfl⟩ := pm_Dq hD9; clear hD9
    try simp only [Option.toList_some, Option.toList_none, List.cons_append, List.nil_append]
    refine g_iret (pc := 75) C C2 dX8_isPart_75 (by first | rfl | exact pm_nz) (Nat.le_refl _) (Nat.le_refl _) ?_
    refine ⟨?_, rfl, rfl, rfl⟩
    refine congrArg (fun z => some (Value.int z)) (pm_b_iff ?_)
    first | (rw [h1_0]; exact ⟨fun q => ⟨by decide, q⟩, fun q => q.2⟩) | (rw [h1_1]; exact ⟨fun q => ⟨by decide, q⟩, fun q => q.2⟩) | (rw [h1_2]; exact ⟨fun q => ⟨by decide, q⟩, fun q => q.2⟩) | (rw [h1_3]; exact ⟨fun q => ⟨by decide, q⟩, fun q => q.2⟩) | (rw [h1_4]; exact ⟨fun q => ⟨by decide, q⟩, fun q => q.2⟩) | (rw [h1_5]; exact ⟨fun q => ⟨by decide, q⟩, fun q => q.2⟩) | (rw [h1_6]; exact ⟨fun q => ⟨by decide, q⟩, fun q => q.2⟩)
  refine pm_sw (6) (fun h1_4 => ?_) (fun h1_4 => ?_)
  · refine g_tsIn (pc := 1) (tgt := 67) (6) C dX8_isPart_1 (by rw [h1_4]; decide) (by decide) (by decide) rfl (by decide) ?_
    refine g_iload_n (pc := 67) (i := 1) (j := 1) C dX8_isPart_67 rfl rfl ?_
    refine g_iconst (pc := 68) (v := 0) C dX8_isPart_68 (by decide) ?_
    refine g_sipush (pc := 69) (v := 999) C dX8_isPart_69 (by decide) ?_
    refine g_callS (pc := 72) C dX8_isPart_72 lmX8_78 kcX8_in (by decide) (c_X8_in) rfl rfl (Nat.le_of_ble_eq_true rfl) ?_
    intro r9 sh9 I9 J9 hD9; obtain ⟨rfl, rfl, rfl, rfl⟩ := pm_Dq hD9; clear hD9
    try simp only [Option.toList_some, Option.toList_none, List.cons_append, List.nil_append]
    refine g_iret (pc := 75) C C2 dX8_isPart_75 (by first | rfl | exact pm_nz) (Nat.le_refl _) (Nat.le_refl _) ?_
    refine ⟨?_, rfl, rfl, rfl⟩
    refine congrArg (fun z => some (Value.int z)) (pm_b_iff ?_)
    first | (rw [h1_0]; exact ⟨fun q => ⟨by decide, q⟩, fun q => q.2⟩) | (rw [h1_1]; exact ⟨fun q => ⟨by decide, q⟩, fun q => q.2⟩) | (rw [h1_2]; exact ⟨fun q => ⟨by decide, q⟩, fun q => q.2⟩) | (rw [h1_3]; exact ⟨fun q => ⟨by decide, q⟩, fun q => q.2⟩) | (rw [h1_4]; exact ⟨fun q => ⟨by decide, q⟩, fun q => q.2⟩) | (rw [h1_5]; exact ⟨fun q => ⟨by decide, q⟩, fun q => q.2⟩) | (rw [h1_6]; exact ⟨fun q => ⟨by decide, q⟩, fun q => q.2⟩)
  refine pm_sw (7) (fun h1_5 => ?_) (fun h1_5 => ?_)
  · refine g_tsIn (pc := 1) (tgt := 51) (7) C dX8_isPart_1 (by rw [h1_5]; decide) (by decide) (by decide) rfl (by decide) ?_
    refine g_iload_n (pc := 51) (i := 1) (j := 1) C dX8_isPart_51 rfl rfl ?_
    refine g_iconst (pc := 52) (v := 0) C dX8_isPart_52 (by decide) ?_
    refine g_bipush (pc := 53) (v := 99) C dX8_isPart_53 (by decide) ?_
    refine g_callS (pc := 55) C dX8_isPart_55 lmX8_78 kcX8_in (by decide) (c_X8_in) rfl rfl (Nat.le_of_ble_eq_true rfl) ?_
    intro r9 sh9 I9 J9 hD9; obtain ⟨rfl, rfl, rfl, rfl⟩ := pm_Dq hD9; clear hD9
    try simp only [Option.toList_some, Option.toList_none, List.cons_append, List.nil_append]
    refine g_iret (pc := 58) C C2 dX8_isPart_58 (by first | rfl | exact pm_nz) (Nat.le_refl _) (Nat.le_refl _) ?_
    refine ⟨?_, rfl, rfl, rfl⟩
    refine congrArg (fun z => some (Value.int z)) (pm_b_iff ?_)
    first | (rw [h1_0]; exact ⟨fun q => ⟨by decide, q⟩, fun q => q.2⟩) | (rw [h1_1]; exact ⟨fun q => ⟨by decide, q⟩, fun q => q.2⟩) | (rw [h1_2]; exact ⟨fun q => ⟨by decide, q⟩, fun q => q.2⟩) | (rw [h1_3]; exact ⟨fun q => ⟨by decide, q⟩, fun q => q.2⟩) | (rw [h1_4]; exact ⟨fun q => ⟨by decide, q⟩, fun q => q.2⟩) | (rw [h1_5]; exact ⟨fun q => ⟨by decide, q⟩, fun q => q.2⟩) | (rw [h1_6]; exact ⟨fun q => ⟨by decide, q⟩, fun q => q.2⟩)
  refine pm_sw (8) (fun h1_6 => ?_) (fun h1_6 => ?_)
  · refine g_tsIn (pc := 1) (tgt := 76) (8) C dX8_isPart_1 (by rw [h1_6]; decide) (by decide) (by decide) rfl (by decide) ?_
    refine g_iload_n (pc := 76) (i := 1) (j := 1) C dX8_isPart_76 rfl rfl ?_
    refine g_iconst (pc := 77) (v := 0) C dX8_isPart_77 (by decide) ?_
    refine g_bipush (pc := 78) (v := 9) C dX8_isPart_78 (by decide) ?_
    refine g_callS (pc := 80) C dX8_isPart_80 lmX8_78 kcX8_in (by decide) (c_X8_in) rfl rfl (Nat.le_of_ble_eq_true rfl) ?_
    intro r9 sh9 I9 J9 hD9; obtain ⟨rfl, rfl, rfl, rfl⟩ := pm_Dq hD9; clear hD9
    try simp only [Option.toList_some, Option.toList_none, List.cons_append, List.nil_append]
    refine g_iret (pc := 83) C C2 dX8_isPart_83 (by first | rfl | exact pm_nz) (Nat.le_refl _) (Nat.le_refl _) ?_
    refine ⟨?_, rfl, rfl, rfl⟩
    refine congrArg (fun z => some (Value.int z)) (pm_b_iff ?_)
    first | (rw [h1_0]; exact ⟨fun q => ⟨by decide, q⟩, fun q => q.2⟩) | (rw [h1_1]; exact ⟨fun q => ⟨by decide, q⟩, fun q => q.2⟩) | (rw [h1_2]; exact ⟨fun q => ⟨by decide, q⟩, fun q => q.2⟩) | (rw [h1_3]; exact ⟨fun q => ⟨by decide, q⟩, fun q => q.2⟩) | (rw [h1_4]; exact ⟨fun q => ⟨by decide, q⟩, fun q => q.2⟩) | (rw [h1_5]; exact ⟨fun q => ⟨by decide, q⟩, fun q => q.2⟩) | (rw [h1_6]; exact ⟨fun q => ⟨by decide, q⟩, fun q => q.2⟩)
  refine g_tsOut (pc := 1) (tgt := 84) C dX8_isPart_1 (by have q0 := lv_neT (a := 2) h1_0 (by decide); have q1 := lv_neT (a := 3) h1_1 (by decide); have q2 := lv_neT (a := 4) h1_2 (by decide); have q3 := lv_neT (a := 5) h1_3 (by decide); have q4 := lv_neT (a := 6) h1_4 (by decide); have q5 := lv_neT (a := 7) h1_5 (by decide); have q6 := lv_neT (a := 8) h1_6 (by decide); omega) (by decide) ?_
  refine g_iconst (pc := 84) (v := 0) C dX8_isPart_84 (by decide) ?_
  refine g_iret (pc := 85) C C2 dX8_isPart_85 (by first | rfl | exact pm_nz) (Nat.le_refl _) (Nat.le_refl _) ?_
  refine ⟨?_, rfl, rfl, rfl⟩
  rw [pm_b, if_neg]
  rintro ⟨⟨q1, q2⟩, -⟩
  obtain ⟨z, hz, ez⟩ := pm_ix (N := 9) (x := x) (Int32.le_trans (by decide) q1) q2 (by decide)
  have z2 : 2 ≤ z := (nI_leI (a := 2) (b := z) (by decide) (by omega)).mp (by rw [← ez]; exact q1)
  rcases (show z = 2 ∨ z = 3 ∨ z = 4 ∨ z = 5 ∨ z = 6 ∨ z = 7 ∨ z = 8 by omega) with rfl | rfl | rfl | rfl | rfl | rfl | rfl
  all_goals first | exact h1_0 ez | exact h1_1 ez | exact h1_2 ez | exact h1_3 ez | exact h1_4 ez | exact h1_5 ez | exact h1_6 ez

set_option maxHeartbeats 4000000 in
set_option maxRecDepth 100000 in
theorem c_X8_becomes {d : Nat} {b x v : Int32} {I : pm_I} {J : pm_J} {n : Nat} (hn : I 102 2 = nI n) (h6 : n ≤ 6) (hat : I 102 6 = nI 0)  : pm_M (d + 2) 0 0 yX8_becomes cX8_becomes 5 (some .int) [.ref 102, .int b, .int x, .int v] SHP I J (pm_D (some (.int (if (0 ≤ b ∧ b ≤ I 102 2 - 1) ∧ ((2 ≤ x ∧ x ≤ 8) ∧ (pm_tv 1).getD x.toNatClampNeg 0 ≤ v ∧ v ≤ (pm_tv 2).getD x.toNatClampNeg 0) then I 106 (0 + 7 * b.toNatClampNeg + (x.toNatClampNeg - 1)) else -1))) SHP (if (0 ≤ b ∧ b ≤ I 102 2 - 1) ∧ ((2 ≤ x ∧ x ≤ 8) ∧ (pm_tv 1).getD x.toNatClampNeg 0 ≤ v ∧ v ≤ (pm_tv 2).getD x.toNatClampNeg 0) then pm_u I 106 (0 + 7 * b.toNatClampNeg + (x.toNatClampNeg - 1)) v else I) J) := by
  refine pm_start (own := RX8) (nm := "becomes") (by decide) rfl rfl (L := [(0, .ref 102), (1, .int b), (2, .int x), (3, .int v)]) rfl (Nat.le_of_ble_eq_true rfl) (fun Γ C C2 => ?_)
  refine g_aload_n (pc := 0) (i := 0) (j := 0) C dX8_becomes_0 rfl rfl ?_
  refine g_iload_n (pc := 1) (i := 1) (j := 1) C dX8_becomes_1 rfl rfl ?_
  refine g_callV (pc := 2) C dX8_becomes_2 lmX8_234 kcX8_isBalloon (by decide) (by first | rfl | assumption) (c_X8_isBalloon) rfl rfl (Nat.le_of_ble_eq_true rfl) ?_
  intro r9 sh9 I9 J9 hD9; obtain ⟨rfl, rfl, rfl, rfl⟩ := pm_Dq hD9; clear hD9
  try simp only [Option.toList_some, Option.toList_none, List.cons_append, List.nil_append]
  refine g_if_eqB (pc := 5) (tgt := 16) C dX8_becomes_5 (by decide) (fun h5 => ?_) (fun h5 => ?_)
  · refine g_iconst (pc := 16) (v := (-1)) C dX8_becomes_16 (by decide) ?_
    refine g_iret (pc := 17) C C2 dX8_becomes_17 rfl (Nat.le_refl _) (Nat.le_refl _) ?_
    first | exact ⟨by rw [if_pos ⟨v5, v13⟩, nI_clamp (by omega), nI_clamp (by omega)], rfl, by rw [if_pos ⟨v5, v13⟩, nI_clamp (by omega), nI_clamp (by omega)], rfl⟩ | exact ⟨by rw [if_neg (fun q => h5 q.1)], rfl, by rw [if_neg (fun q => h5 q.1)], rfl⟩ | exact ⟨by rw [if_neg (fun q => h13 q.2)], rfl, by rw [if_neg (fun q => h13 q.2)], rfl⟩
  · refine g_iload_n (pc := 8) (i := 2) (j := 2) C dX8_becomes_8 rfl rfl ?_
    refine g_iload_n (pc := 9) (i := 3) (j := 3) C dX8_becomes_9 rfl rfl ?_
    refine g_callS (pc := 10) C dX8_becomes_10 lmX8_243 kcX8_isPart (by decide) (c_X8_isPart) rfl rfl (Nat.le_of_ble_eq_true rfl) ?_
    intro r9 sh9 I9 J9 hD9; obtain ⟨rfl, rfl, rfl, rfl⟩ := pm_Dq hD9; clear hD9
    try simp only [Option.toList_some, Option.toList_none, List.cons_append, List.nil_append]
    refine g_if_neB (pc := 13) (tgt := 18) C dX8_becomes_13 (by decide) (fun h13 => ?_) (fun h13 => ?_)
    · have v5 := h5
      have v13 := h13
      obtain ⟨c, hc, rfl⟩ := pm_hasN (x := b) (n := n) (by omega) (by rw [← hn]; exact h5)
      obtain ⟨z, hz, rfl⟩ := pm_ix (N := 9) (x := x) (Int32.le_trans (by decide) h13.1.1) h13.1.2 (by decide)
      have z2 : 2 ≤ z := (nI_leI (a := 2) (b := z) (by decide) (by omega)).mp h13.1.1
      refine g_aload_n (pc := 18) (i := 0) (j := 0) C dX8_becomes_18 rfl rfl ?_
      refine g_iload_n (pc := 19) (i := 1) (j := 1) C dX8_becomes_19 rfl rfl ?_
      refine g_iload_n (pc := 20) (i := 2) (j := 2) C dX8_becomes_20 rfl rfl ?_
      refine g_iconst (pc := 21) (v := 1) C dX8_becomes_21 (by decide) ?_
      refine g_isub (pc := 22) C dX8_becomes_22 ?_
      rw [nI_m1 (by omega)]
      refine g_callV (pc := 23) C dX8_becomes_23 lmX8_219 kcX8_its (by decide) (by first | rfl | assumption) (c_X8_its (a := 0) (p := z - 1) hat (by decide) (by omega) (by omega)) rfl rfl (Nat.le_of_ble_eq_true rfl) ?_
      intro r9 sh9 I9 J9 hD9; obtain ⟨rfl, rfl, rfl, rfl⟩ := pm_Dq hD9; clear hD9
      try simp only [Option.toList_some, Option.toList_none, List.cons_append, List.nil_append]
      refine g_istore (pc := 26) (L2 := [(0, _), (1, _), (2, _), (3, _), (4, _)]) C dX8_becomes_26 (by decide) rfl ?_
      refine g_aload_n (pc := 28) (i := 0) (j := 0) C dX8_becomes_28 rfl rfl ?_
      refine g_iload_n (pc := 29) (i := 1) (j := 1) C dX8_becomes_29 rfl rfl ?_
      refine g_iload_n (pc := 30) (i := 2) (j := 2) C dX8_becomes_30 rfl rfl ?_
      refine g_iconst (pc := 31) (v := 1) C dX8_becomes_31 (by decide) ?_
      refine g_isub (pc := 32) C dX8_becomes_32 ?_
      rw [nI_m1 (by omega)]
      refine g_iload_n (pc := 33) (i := 3) (j := 3) C dX8_becomes_33 rfl rfl ?_
      refine g_callV (pc := 34) C dX8_becomes_34 lmX8_215 kcX8_sets (by decide) (by first | rfl | assumption) (c_X8_sets (a := 0) (p := z - 1) hat (by decide) (by omega) (by omega)) rfl rfl (Nat.le_of_ble_eq_true rfl) ?_
      intro r9 sh9 I9 J9 hD9; obtain ⟨rfl, rfl, rfl, rfl⟩ := pm_Dq hD9; clear hD9
      try simp only [Option.toList_some, Option.toList_none, List.cons_append, List.nil_append]
      refine g_iload (pc := 37) (j := 4) C dX8_becomes_37 rfl ?_
      refine g_iret (pc := 39) C C2 dX8_becomes_39 rfl (Nat.le_refl _) (Nat.le_refl _) ?_
      first | exact ⟨by rw [if_pos ⟨v5, v13⟩, nI_clamp (by omega), nI_clamp (by omega)], rfl, by rw [if_pos ⟨v5, v13⟩, nI_clamp (by omega), nI_clamp (by omega)], rfl⟩ | exact ⟨by rw [if_neg (fun q => h5 q.1)], rfl, by rw [if_neg (fun q => h5 q.1)], rfl⟩ | exact ⟨by rw [if_neg (fun q => h13 q.2)], rfl, by rw [if_neg (fun q => h13 q.2)], rfl⟩
    · refine g_iconst (pc := 16) (v := (-1)) C dX8_becomes_16 (by decide) ?_
      refine g_iret (pc := 17) C C2 dX8_becomes_17 rfl (Nat.le_refl _) (Nat.le_refl _) ?_
      first | exact ⟨by rw [if_pos ⟨v5, v13⟩, nI_clamp (by omega), nI_clamp (by omega)], rfl, by rw [if_pos ⟨v5, v13⟩, nI_clamp (by omega), nI_clamp (by omega)], rfl⟩ | exact ⟨by rw [if_neg (fun q => h5 q.1)], rfl, by rw [if_neg (fun q => h5 q.1)], rfl⟩ | exact ⟨by rw [if_neg (fun q => h13 q.2)], rfl, by rw [if_neg (fun q => h13 q.2)], rfl⟩

set_option maxHeartbeats 4000000 in
set_option maxRecDepth 100000 in
theorem c_X8_mind {d : Nat} {b k a : Int32} {I : pm_I} {J : pm_J} {n : Nat} (hn : I 102 2 = nI n) (h6 : n ≤ 6)  : pm_M (d + 2) 0 0 yX8_mind cX8_mind 5 (some .int) [.ref 102, .int b, .int k, .int a] SHP I J (pm_D (some (.int (if (0 ≤ b ∧ b ≤ I 102 2 - 1) ∧ (0 ≤ k ∧ k ≤ 5) ∧ 0 ≤ a ∧ a ≤ 9 then I 104 b.toNatClampNeg else -1))) SHP (if (0 ≤ b ∧ b ≤ I 102 2 - 1) ∧ (0 ≤ k ∧ k ≤ 5) ∧ 0 ≤ a ∧ a ≤ 9 then pm_u (pm_u I 104 b.toNatClampNeg k) 105 b.toNatClampNeg a else I) J) := by
  refine pm_start (own := RX8) (nm := "mind") (by decide) rfl rfl (L := [(0, .ref 102), (1, .int b), (2, .int k), (3, .int a)]) rfl (Nat.le_of_ble_eq_true rfl) (fun Γ C C2 => ?_)
  refine g_aload_n (pc := 0) (i := 0) (j := 0) C dX8_mind_0 rfl rfl ?_
  refine g_iload_n (pc := 1) (i := 1) (j := 1) C dX8_mind_1 rfl rfl ?_
  refine g_callV (pc := 2) C dX8_mind_2 lmX8_234 kcX8_isBalloon (by decide) (by first | rfl | assumption) (c_X8_isBalloon) rfl rfl (Nat.le_of_ble_eq_true rfl) ?_
  intro r9 sh9 I9 J9 hD9; obtain ⟨rfl, rfl, rfl, rfl⟩ := pm_Dq hD9; clear hD9
  try simp only [Option.toList_some, Option.toList_none, List.cons_append, List.nil_append]
  refine g_if_eqB (pc := 5) (tgt := 16) C dX8_mind_5 (by decide) (fun h5 => ?_) (fun h5 => ?_)
  · refine g_iconst (pc := 16) (v := (-1)) C dX8_mind_16 (by decide) ?_
    refine g_iret (pc := 17) C C2 dX8_mind_17 rfl (Nat.le_refl _) (Nat.le_refl _) ?_
    first | exact ⟨by rw [if_pos ⟨v5, h13⟩, nI_clamp (by omega)], rfl, by rw [if_pos ⟨v5, h13⟩, nI_clamp (by omega)], rfl⟩ | exact ⟨by rw [if_neg (fun q => h5 q.1)], rfl, by rw [if_neg (fun q => h5 q.1)], rfl⟩ | exact ⟨by rw [if_neg (fun q => h13 q.2)], rfl, by rw [if_neg (fun q => h13 q.2)], rfl⟩
  · refine g_iload_n (pc := 8) (i := 2) (j := 2) C dX8_mind_8 rfl rfl ?_
    refine g_iload_n (pc := 9) (i := 3) (j := 3) C dX8_mind_9 rfl rfl ?_
    refine g_callS (pc := 10) C dX8_mind_10 lmX8_211 kcX8_isKind (by decide) (c_X8_isKind) rfl rfl (Nat.le_of_ble_eq_true rfl) ?_
    intro r9 sh9 I9 J9 hD9; obtain ⟨rfl, rfl, rfl, rfl⟩ := pm_Dq hD9; clear hD9
    try simp only [Option.toList_some, Option.toList_none, List.cons_append, List.nil_append]
    refine g_if_neB (pc := 13) (tgt := 18) C dX8_mind_13 (by decide) (fun h13 => ?_) (fun h13 => ?_)
    · have v5 := h5
      obtain ⟨c, hc, rfl⟩ := pm_hasN (x := b) (n := n) (by omega) (by rw [← hn]; exact h5)
      refine g_aload_n (pc := 18) (i := 0) (j := 0) C dX8_mind_18 rfl rfl ?_
      refine g_getR (pc := 19) C dX8_mind_19 lfX8_17 (by first | rfl | assumption) rfl ?_
      refine g_iload_n (pc := 22) (i := 1) (j := 1) C dX8_mind_22 rfl rfl ?_
      refine g_iald (pc := 23) C dX8_mind_23 (by first | rfl | assumption) (by decide) (by first | rfl | assumption) (by first | assumption | decide | omega) ?_
      refine g_istore (pc := 24) (L2 := [(0, _), (1, _), (2, _), (3, _), (4, _)]) C dX8_mind_24 (by decide) rfl ?_
      refine g_aload_n (pc := 26) (i := 0) (j := 0) C dX8_mind_26 rfl rfl ?_
      refine g_getR (pc := 27) C dX8_mind_27 lfX8_17 (by first | rfl | assumption) rfl ?_
      refine g_iload_n (pc := 30) (i := 1) (j := 1) C dX8_mind_30 rfl rfl ?_
      refine g_iload_n (pc := 31) (i := 2) (j := 2) C dX8_mind_31 rfl rfl ?_
      refine g_iast (pc := 32) C dX8_mind_32 (by first | rfl | assumption) (by decide) (by first | rfl | assumption) (by first | assumption | decide | omega) ?_
      refine g_aload_n (pc := 33) (i := 0) (j := 0) C dX8_mind_33 rfl rfl ?_
      refine g_getR (pc := 34) C dX8_mind_34 lfX8_20 (by first | rfl | assumption) rfl ?_
      refine g_iload_n (pc := 37) (i := 1) (j := 1) C dX8_mind_37 rfl rfl ?_
      refine g_iload_n (pc := 38) (i := 3) (j := 3) C dX8_mind_38 rfl rfl ?_
      refine g_iast (pc := 39) C dX8_mind_39 (by first | rfl | assumption) (by decide) (by first | rfl | assumption) (by first | assumption | decide | omega) ?_
      refine g_iload (pc := 40) (j := 4) C dX8_mind_40 rfl ?_
      refine g_iret (pc := 42) C C2 dX8_mind_42 rfl (Nat.le_refl _) (Nat.le_refl _) ?_
      first | exact ⟨by rw [if_pos ⟨v5, h13⟩, nI_clamp (by omega)], rfl, by rw [if_pos ⟨v5, h13⟩, nI_clamp (by omega)], rfl⟩ | exact ⟨by rw [if_neg (fun q => h5 q.1)], rfl, by rw [if_neg (fun q => h5 q.1)], rfl⟩ | exact ⟨by rw [if_neg (fun q => h13 q.2)], rfl, by rw [if_neg (fun q => h13 q.2)], rfl⟩
    · refine g_iconst (pc := 16) (v := (-1)) C dX8_mind_16 (by decide) ?_
      refine g_iret (pc := 17) C C2 dX8_mind_17 rfl (Nat.le_refl _) (Nat.le_refl _) ?_
      first | exact ⟨by rw [if_pos ⟨v5, h13⟩, nI_clamp (by omega)], rfl, by rw [if_pos ⟨v5, h13⟩, nI_clamp (by omega)], rfl⟩ | exact ⟨by rw [if_neg (fun q => h5 q.1)], rfl, by rw [if_neg (fun q => h5 q.1)], rfl⟩ | exact ⟨by rw [if_neg (fun q => h13 q.2)], rfl, by rw [if_neg (fun q => h13 q.2)], rfl⟩

set_option maxHeartbeats 4000000 in
set_option maxRecDepth 100000 in
theorem c_X8_pour {d : Nat} {b v : Int32} {I : pm_I} {J : pm_J} {n : Nat} (hn : I 102 2 = nI n) (h6 : n ≤ 6) (hat : I 102 6 = nI 0)  : pm_M (d + 2) 0 0 yX8_pour cX8_pour 3 (some .int) [.ref 102, .int b, .int v] SHP I J (pm_D (some (.int (if (0 ≤ b ∧ b ≤ I 102 2 - 1) ∧ 1 ≤ v ∧ v ≤ 999 then (if v ≤ I 106 (0 + 7 * b.toNatClampNeg + 5) then I 106 (0 + 7 * b.toNatClampNeg + 5) - v else -4) else -1))) SHP (if ((0 ≤ b ∧ b ≤ I 102 2 - 1) ∧ 1 ≤ v ∧ v ≤ 999) ∧ v ≤ I 106 (0 + 7 * b.toNatClampNeg + 5) then pm_u I 106 (0 + 7 * b.toNatClampNeg + 5) (I 106 (0 + 7 * b.toNatClampNeg + 5) - v) else I) J) := by
  refine pm_start (own := RX8) (nm := "pour") (by decide) rfl rfl (L := [(0, .ref 102), (1, .int b), (2, .int v)]) rfl (Nat.le_of_ble_eq_true rfl) (fun Γ C C2 => ?_)
  refine g_aload_n (pc := 0) (i := 0) (j := 0) C dX8_pour_0 rfl rfl ?_
  refine g_iload_n (pc := 1) (i := 1) (j := 1) C dX8_pour_1 rfl rfl ?_
  refine g_callV (pc := 2) C dX8_pour_2 lmX8_234 kcX8_isBalloon (by decide) (by first | rfl | assumption) (c_X8_isBalloon) rfl rfl (Nat.le_of_ble_eq_true rfl) ?_
  intro r9 sh9 I9 J9 hD9; obtain ⟨rfl, rfl, rfl, rfl⟩ := pm_Dq hD9; clear hD9
  try simp only [Option.toList_some, Option.toList_none, List.cons_append, List.nil_append]
  refine g_if_eqB (pc := 5) (tgt := 19) C dX8_pour_5 (by decide) (fun h5 => ?_) (fun h5 => ?_)
  · refine g_iconst (pc := 19) (v := (-1)) C dX8_pour_19 (by decide) ?_
    refine g_iret (pc := 20) C C2 dX8_pour_20 rfl (Nat.le_refl _) (Nat.le_refl _) ?_
    first | exact ⟨by rw [if_pos ⟨v5, h16⟩, nI_clamp (by omega), if_pos h28, pm_u_at, pk_us], rfl, by rw [nI_clamp (by omega), if_pos ⟨⟨v5, h16⟩, h28⟩], rfl⟩ | exact ⟨by rw [if_pos ⟨v5, h16⟩, nI_clamp (by omega), if_neg h28], rfl, by rw [nI_clamp (by omega), if_neg (fun q => h28 q.2)], rfl⟩ | exact ⟨by rw [if_neg (fun q => h5 q.1)], rfl, by rw [if_neg (fun q => h5 q.1.1)], rfl⟩ | exact ⟨by rw [if_neg (fun q => h16 q.2)], rfl, by rw [if_neg (fun q => h16 q.1.2)], rfl⟩
  · refine g_iload_n (pc := 8) (i := 2) (j := 2) C dX8_pour_8 rfl rfl ?_
    refine g_iconst (pc := 9) (v := 1) C dX8_pour_9 (by decide) ?_
    refine g_sipush (pc := 10) (v := 999) C dX8_pour_10 (by decide) ?_
    refine g_callS (pc := 13) C dX8_pour_13 lmX8_78 kcX8_in (by decide) (c_X8_in) rfl rfl (Nat.le_of_ble_eq_true rfl) ?_
    intro r9 sh9 I9 J9 hD9; obtain ⟨rfl, rfl, rfl, rfl⟩ := pm_Dq hD9; clear hD9
    try simp only [Option.toList_some, Option.toList_none, List.cons_append, List.nil_append]
    refine g_if_neB (pc := 16) (tgt := 21) C dX8_pour_16 (by decide) (fun h16 => ?_) (fun h16 => ?_)
    · have v5 := h5
      obtain ⟨c, hc, rfl⟩ := pm_hasN (x := b) (n := n) (by omega) (by rw [← hn]; exact h5)
      refine g_aload_n (pc := 21) (i := 0) (j := 0) C dX8_pour_21 rfl rfl ?_
      refine g_iload_n (pc := 22) (i := 1) (j := 1) C dX8_pour_22 rfl rfl ?_
      refine g_iconst (pc := 23) (v := 5) C dX8_pour_23 (by decide) ?_
      refine g_callV (pc := 24) C dX8_pour_24 lmX8_219 kcX8_its (by decide) (by first | rfl | assumption) (c_X8_its (a := 0) (p := 5) hat (by decide) (by omega) (by omega)) rfl rfl (Nat.le_of_ble_eq_true rfl) ?_
      intro r9 sh9 I9 J9 hD9; obtain ⟨rfl, rfl, rfl, rfl⟩ := pm_Dq hD9; clear hD9
      try simp only [Option.toList_some, Option.toList_none, List.cons_append, List.nil_append]
      refine g_iload_n (pc := 27) (i := 2) (j := 2) C dX8_pour_27 rfl rfl ?_
      refine g_icmp_ge (pc := 28) (tgt := 34) C dX8_pour_28 (by decide) (fun h28 => ?_) (fun h28 => ?_)
      · refine g_aload_n (pc := 34) (i := 0) (j := 0) C dX8_pour_34 rfl rfl ?_
        refine g_iload_n (pc := 35) (i := 1) (j := 1) C dX8_pour_35 rfl rfl ?_
        refine g_iconst (pc := 36) (v := 5) C dX8_pour_36 (by decide) ?_
        refine g_aload_n (pc := 37) (i := 0) (j := 0) C dX8_pour_37 rfl rfl ?_
        refine g_iload_n (pc := 38) (i := 1) (j := 1) C dX8_pour_38 rfl rfl ?_
        refine g_iconst (pc := 39) (v := 5) C dX8_pour_39 (by decide) ?_
        refine g_callV (pc := 40) C dX8_pour_40 lmX8_219 kcX8_its (by decide) (by first | rfl | assumption) (c_X8_its (a := 0) (p := 5) hat (by decide) (by omega) (by omega)) rfl rfl (Nat.le_of_ble_eq_true rfl) ?_
        intro r9 sh9 I9 J9 hD9; obtain ⟨rfl, rfl, rfl, rfl⟩ := pm_Dq hD9; clear hD9
        try simp only [Option.toList_some, Option.toList_none, List.cons_append, List.nil_append]
        refine g_iload_n (pc := 43) (i := 2) (j := 2) C dX8_pour_43 rfl rfl ?_
        refine g_isub (pc := 44) C dX8_pour_44 ?_
        refine g_callV (pc := 45) C dX8_pour_45 lmX8_215 kcX8_sets (by decide) (by first | rfl | assumption) (c_X8_sets (a := 0) (p := 5) hat (by decide) (by omega) (by omega)) rfl rfl (Nat.le_of_ble_eq_true rfl) ?_
        intro r9 sh9 I9 J9 hD9; obtain ⟨rfl, rfl, rfl, rfl⟩ := pm_Dq hD9; clear hD9
        try simp only [Option.toList_some, Option.toList_none, List.cons_append, List.nil_append]
        refine g_aload_n (pc := 48) (i := 0) (j := 0) C dX8_pour_48 rfl rfl ?_
        refine g_iload_n (pc := 49) (i := 1) (j := 1) C dX8_pour_49 rfl rfl ?_
        refine g_iconst (pc := 50) (v := 5) C dX8_pour_50 (by decide) ?_
        refine g_callV (pc := 51) C dX8_pour_51 lmX8_219 kcX8_its (by decide) (by first | rfl | assumption) (c_X8_its (a := 0) (p := 5) (show pm_u I 106 _ _ 102 6 = nI 0 by rw [pm_u_off (by decide)]; exact hat) (by decide) (by omega) (by omega)) rfl rfl (Nat.le_of_ble_eq_true rfl) ?_
        intro r9 sh9 I9 J9 hD9; obtain ⟨rfl, rfl, rfl, rfl⟩ := pm_Dq hD9; clear hD9
        try simp only [Option.toList_some, Option.toList_none, List.cons_append, List.nil_append]
        refine g_iret (pc := 54) C C2 dX8_pour_54 rfl (Nat.le_refl _) (Nat.le_refl _) ?_
        first | exact ⟨by rw [if_pos ⟨v5, h16⟩, nI_clamp (by omega), if_pos h28, pm_u_at, pk_us], rfl, by rw [nI_clamp (by omega), if_pos ⟨⟨v5, h16⟩, h28⟩], rfl⟩ | exact ⟨by rw [if_pos ⟨v5, h16⟩, nI_clamp (by omega), if_neg h28], rfl, by rw [nI_clamp (by omega), if_neg (fun q => h28 q.2)], rfl⟩ | exact ⟨by rw [if_neg (fun q => h5 q.1)], rfl, by rw [if_neg (fun q => h5 q.1.1)], rfl⟩ | exact ⟨by rw [if_neg (fun q => h16 q.2)], rfl, by rw [if_neg (fun q => h16 q.1.2)], rfl⟩
      · refine g_bipush (pc := 31) (v := (-4)) C dX8_pour_31 (by decide) ?_
        refine g_iret (pc := 33) C C2 dX8_pour_33 rfl (Nat.le_refl _) (Nat.le_refl _) ?_
        first | exact ⟨by rw [if_pos ⟨v5, h16⟩, nI_clamp (by omega), if_pos h28, pm_u_at, pk_us], rfl, by rw [nI_clamp (by omega), if_pos ⟨⟨v5, h16⟩, h28⟩], rfl⟩ | exact ⟨by rw [if_pos ⟨v5, h16⟩, nI_clamp (by omega), if_neg h28], rfl, by rw [nI_clamp (by omega), if_neg (fun q => h28 q.2)], rfl⟩ | exact ⟨by rw [if_neg (fun q => h5 q.1)], rfl, by rw [if_neg (fun q => h5 q.1.1)], rfl⟩ | exact ⟨by rw [if_neg (fun q => h16 q.2)], rfl, by rw [if_neg (fun q => h16 q.1.2)], rfl⟩
    · refine g_iconst (pc := 19) (v := (-1)) C dX8_pour_19 (by decide) ?_
      refine g_iret (pc := 20) C C2 dX8_pour_20 rfl (Nat.le_refl _) (Nat.le_refl _) ?_
      first | exact ⟨by rw [if_pos ⟨v5, h16⟩, nI_clamp (by omega), if_pos h28, pm_u_at, pk_us], rfl, by rw [nI_clamp (by omega), if_pos ⟨⟨v5, h16⟩, h28⟩], rfl⟩ | exact ⟨by rw [if_pos ⟨v5, h16⟩, nI_clamp (by omega), if_neg h28], rfl, by rw [nI_clamp (by omega), if_neg (fun q => h28 q.2)], rfl⟩ | exact ⟨by rw [if_neg (fun q => h5 q.1)], rfl, by rw [if_neg (fun q => h5 q.1.1)], rfl⟩ | exact ⟨by rw [if_neg (fun q => h16 q.2)], rfl, by rw [if_neg (fun q => h16 q.1.2)], rfl⟩

set_option maxHeartbeats 4000000 in
set_option maxRecDepth 100000 in
theorem c_X8_touches {d : Nat} {I : pm_I} {J : pm_J} {w : Nat → Int32} {g : Int32} {n t : Nat} {B : Nat → Nat → Int32} (hF : mo_F I w g 0 n) (ht : t ≤ 96) (hok : ∀ b, b < n → mo_ok (B b)) (hW : mo_W I 0 t n B I) {b : Nat} (hb : b < n)  : pm_M (d + 4) 0 0 yX8_touches cX8_touches 2 (some .int) [.ref 102, .int (nI b)] SHP I J (pm_D (some (.int (bl_tset B g b n))) SHP I J) := by
  refine pm_start (own := RX8) (nm := "touches") (by decide) rfl rfl (L := [(0, .ref 102), (1, .int (nI b))]) rfl (Nat.le_of_ble_eq_true rfl) (fun Γ C C2 => ?_)
  have h6 := hF.2.1
  refine g_aload_n (pc := 0) (i := 0) (j := 0) C dX8_touches_0 rfl rfl ?_
  refine g_iload_n (pc := 1) (i := 1) (j := 1) C dX8_touches_1 rfl rfl ?_
  refine g_callV (pc := 2) C dX8_touches_2 lmX8_234 kcX8_isBalloon (by decide) (by first | rfl | assumption) (c_X8_isBalloon) rfl rfl (Nat.le_of_ble_eq_true rfl) ?_
  intro r9 sh9 I9 J9 hD9; obtain ⟨rfl, rfl, rfl, rfl⟩ := pm_Dq hD9; clear hD9
  try simp only [Option.toList_some, Option.toList_none, List.cons_append, List.nil_append]
  refine g_if_eqB (pc := 5) (tgt := 16) C dX8_touches_5 (by decide) (fun h5 => absurd ⟨by exact nI_pos' (by omega), by rw [hF.1]; exact pm_leP hb (by omega)⟩ h5) (fun h5 => ?_)
  refine g_aload_n (pc := 8) (i := 0) (j := 0) C dX8_touches_8 rfl rfl ?_
  refine g_iload_n (pc := 9) (i := 1) (j := 1) C dX8_touches_9 rfl rfl ?_
  refine g_callV (pc := 10) C dX8_touches_10 lmX8_270 kcX8_touchSet (by decide) (by first | rfl | assumption) (c_mo_tset hF (by decide) (by omega) hW hb) rfl rfl (Nat.le_of_ble_eq_true rfl) ?_
  intro r9 sh9 I9 J9 hD9; obtain ⟨rfl, rfl, rfl, rfl⟩ := pm_Dq hD9; clear hD9
  try simp only [Option.toList_some, Option.toList_none, List.cons_append, List.nil_append]
  refine g_goto (pc := 13) (tgt := 17) C dX8_touches_13 (by decide) ?_
  refine g_iret (pc := 17) C C2 dX8_touches_17 rfl (Nat.le_refl _) (Nat.le_refl _) ?_
  exact ⟨rfl, rfl, rfl, rfl⟩

set_option maxHeartbeats 4000000 in
set_option maxRecDepth 100000 in
theorem c_X8_touches0 {d : Nat} {x : Int32} {I : pm_I} {J : pm_J} (hv : ¬ (0 ≤ x ∧ x ≤ I 102 2 - 1)) : pm_M (d + 2) 0 0 yX8_touches cX8_touches 2 (some .int) [.ref 102, .int x] SHP I J (pm_D (some (.int (-1))) SHP I J) := by
  refine pm_start (own := RX8) (nm := "touches") (by decide) rfl rfl (L := [(0, .ref 102), (1, .int x)]) rfl (Nat.le_of_ble_eq_true rfl) (fun Γ C C2 => ?_)
  refine g_aload_n (pc := 0) (i := 0) (j := 0) C dX8_touches_0 rfl rfl ?_
  refine g_iload_n (pc := 1) (i := 1) (j := 1) C dX8_touches_1 rfl rfl ?_
  refine g_callV (pc := 2) C dX8_touches_2 lmX8_234 kcX8_isBalloon (by decide) (by first | rfl | assumption) (c_X8_isBalloon) rfl rfl (Nat.le_of_ble_eq_true rfl) ?_
  intro r9 sh9 I9 J9 hD9; obtain ⟨rfl, rfl, rfl, rfl⟩ := pm_Dq hD9; clear hD9
  try simp only [Option.toList_some, Option.toList_none, List.cons_append, List.nil_append]
  refine g_if_eqB (pc := 5) (tgt := 16) C dX8_touches_5 (by decide) (fun h5 => ?_) (fun h5 => ?_)
  · refine g_iconst (pc := 16) (v := (-1)) C dX8_touches_16 (by decide) ?_
    refine g_iret (pc := 17) C C2 dX8_touches_17 rfl (Nat.le_refl _) (Nat.le_refl _) ?_
    exact ⟨rfl, rfl, rfl, rfl⟩
  · exact absurd h5 hv

set_option maxHeartbeats 4000000 in
set_option maxRecDepth 100000 in
theorem c_X8_reached {d : Nat} {I : pm_I} {J : pm_J} {w : Nat → Int32} {g : Int32} {n t : Nat} {B : Nat → Nat → Int32} (hF : mo_F I w g 0 n) (ht : t ≤ 96) (hok : ∀ b, b < n → mo_ok (B b)) (hW : mo_W I 0 t n B I) {b : Nat} (hb : b < n)  : pm_M (d + 4) 0 0 yX8_reached cX8_reached 2 (some .int) [.ref 102, .int (nI b)] SHP I J (pm_D (some (.int (bl_reach B b n))) SHP I J) := by
  refine pm_start (own := RX8) (nm := "reached") (by decide) rfl rfl (L := [(0, .ref 102), (1, .int (nI b))]) rfl (Nat.le_of_ble_eq_true rfl) (fun Γ C C2 => ?_)
  have h6 := hF.2.1
  refine g_aload_n (pc := 0) (i := 0) (j := 0) C dX8_reached_0 rfl rfl ?_
  refine g_iload_n (pc := 1) (i := 1) (j := 1) C dX8_reached_1 rfl rfl ?_
  refine g_callV (pc := 2) C dX8_reached_2 lmX8_234 kcX8_isBalloon (by decide) (by first | rfl | assumption) (c_X8_isBalloon) rfl rfl (Nat.le_of_ble_eq_true rfl) ?_
  intro r9 sh9 I9 J9 hD9; obtain ⟨rfl, rfl, rfl, rfl⟩ := pm_Dq hD9; clear hD9
  try simp only [Option.toList_some, Option.toList_none, List.cons_append, List.nil_append]
  refine g_if_eqB (pc := 5) (tgt := 16) C dX8_reached_5 (by decide) (fun h5 => absurd ⟨by exact nI_pos' (by omega), by rw [hF.1]; exact pm_leP hb (by omega)⟩ h5) (fun h5 => ?_)
  refine g_aload_n (pc := 8) (i := 0) (j := 0) C dX8_reached_8 rfl rfl ?_
  refine g_iload_n (pc := 9) (i := 1) (j := 1) C dX8_reached_9 rfl rfl ?_
  refine g_callV (pc := 10) C dX8_reached_10 lmX8_256 kcX8_reach (by decide) (by first | rfl | assumption) (c_mo_reach hF (by decide) (by omega) hW hb) rfl rfl (Nat.le_of_ble_eq_true rfl) ?_
  intro r9 sh9 I9 J9 hD9; obtain ⟨rfl, rfl, rfl, rfl⟩ := pm_Dq hD9; clear hD9
  try simp only [Option.toList_some, Option.toList_none, List.cons_append, List.nil_append]
  refine g_goto (pc := 13) (tgt := 17) C dX8_reached_13 (by decide) ?_
  refine g_iret (pc := 17) C C2 dX8_reached_17 rfl (Nat.le_refl _) (Nat.le_refl _) ?_
  exact ⟨rfl, rfl, rfl, rfl⟩

set_option maxHeartbeats 4000000 in
set_option maxRecDepth 100000 in
theorem c_X8_reached0 {d : Nat} {x : Int32} {I : pm_I} {J : pm_J} (hv : ¬ (0 ≤ x ∧ x ≤ I 102 2 - 1)) : pm_M (d + 2) 0 0 yX8_reached cX8_reached 2 (some .int) [.ref 102, .int x] SHP I J (pm_D (some (.int (-1))) SHP I J) := by
  refine pm_start (own := RX8) (nm := "reached") (by decide) rfl rfl (L := [(0, .ref 102), (1, .int x)]) rfl (Nat.le_of_ble_eq_true rfl) (fun Γ C C2 => ?_)
  refine g_aload_n (pc := 0) (i := 0) (j := 0) C dX8_reached_0 rfl rfl ?_
  refine g_iload_n (pc := 1) (i := 1) (j := 1) C dX8_reached_1 rfl rfl ?_
  refine g_callV (pc := 2) C dX8_reached_2 lmX8_234 kcX8_isBalloon (by decide) (by first | rfl | assumption) (c_X8_isBalloon) rfl rfl (Nat.le_of_ble_eq_true rfl) ?_
  intro r9 sh9 I9 J9 hD9; obtain ⟨rfl, rfl, rfl, rfl⟩ := pm_Dq hD9; clear hD9
  try simp only [Option.toList_some, Option.toList_none, List.cons_append, List.nil_append]
  refine g_if_eqB (pc := 5) (tgt := 16) C dX8_reached_5 (by decide) (fun h5 => ?_) (fun h5 => ?_)
  · refine g_iconst (pc := 16) (v := (-1)) C dX8_reached_16 (by decide) ?_
    refine g_iret (pc := 17) C C2 dX8_reached_17 rfl (Nat.le_refl _) (Nat.le_refl _) ?_
    exact ⟨rfl, rfl, rfl, rfl⟩
  · exact absurd h5 hv

set_option maxHeartbeats 4000000 in
set_option maxRecDepth 100000 in
theorem c_X8_aboveA {d : Nat} {I : pm_I} {J : pm_J} {w : Nat → Int32} {g : Int32} {n t : Nat} {B : Nat → Nat → Int32} (hF : mo_F I w g 0 n) (ht : t ≤ 96) (hok : ∀ b, b < n → mo_ok (B b)) (hW : mo_W I 0 t n B I) {b : Nat} (hb : b < n)  : pm_M (d + 3) 0 0 yX8_above cX8_above 3 (some .int) [.ref 102, .int (nI b), .int 0] SHP I J (pm_D (some (.int (bl_enc (bl_nextA B b n)))) SHP I J) := by
  refine pm_start (own := RX8) (nm := "above") (by decide) rfl rfl (L := [(0, .ref 102), (1, .int (nI b)), (2, .int 0)]) rfl (Nat.le_of_ble_eq_true rfl) (fun Γ C C2 => ?_)
  have h6 := hF.2.1
  refine g_aload_n (pc := 0) (i := 0) (j := 0) C dX8_above_0 rfl rfl ?_
  refine g_iload_n (pc := 1) (i := 1) (j := 1) C dX8_above_1 rfl rfl ?_
  refine g_callV (pc := 2) C dX8_above_2 lmX8_234 kcX8_isBalloon (by decide) (by first | rfl | assumption) (c_X8_isBalloon) rfl rfl (Nat.le_of_ble_eq_true rfl) ?_
  intro r9 sh9 I9 J9 hD9; obtain ⟨rfl, rfl, rfl, rfl⟩ := pm_Dq hD9; clear hD9
  try simp only [Option.toList_some, Option.toList_none, List.cons_append, List.nil_append]
  refine g_if_eqB (pc := 5) (tgt := 34) C dX8_above_5 (by decide) (fun h5 => absurd ⟨by exact nI_pos' (by omega), by rw [hF.1]; exact pm_leP hb (by omega)⟩ h5) (fun h5 => ?_)
  refine g_iload_n (pc := 8) (i := 2) (j := 2) C dX8_above_8 rfl rfl ?_
  refine g_iconst (pc := 9) (v := 0) C dX8_above_9 (by decide) ?_
  refine g_iconst (pc := 10) (v := 1) C dX8_above_10 (by decide) ?_
  refine g_callS (pc := 11) C dX8_above_11 lmX8_78 kcX8_in (by decide) (c_X8_in) rfl rfl (Nat.le_of_ble_eq_true rfl) ?_
  intro r9 sh9 I9 J9 hD9; obtain ⟨rfl, rfl, rfl, rfl⟩ := pm_Dq hD9; clear hD9
  try simp only [Option.toList_some, Option.toList_none, List.cons_append, List.nil_append]
  refine g_if_eqB (pc := 14) (tgt := 34) C dX8_above_14 (by decide) (fun h14 => absurd (by decide : (0 : Int32) ≤ 0 ∧ (0 : Int32) ≤ 1) h14) (fun h14 => ?_)
  refine g_aload_n (pc := 17) (i := 0) (j := 0) C dX8_above_17 rfl rfl ?_
  refine g_iload_n (pc := 18) (i := 1) (j := 1) C dX8_above_18 rfl rfl ?_
  refine g_iload_n (pc := 19) (i := 2) (j := 2) C dX8_above_19 rfl rfl ?_
  refine g_if_ne (pc := 20) (tgt := 27) C dX8_above_20 (by decide) (fun h20 => absurd h20 (by decide)) (fun h20 => ?_)
  refine g_iconst (pc := 23) (v := 1) C dX8_above_23 (by decide) ?_
  refine g_goto (pc := 24) (tgt := 28) C dX8_above_24 (by decide) ?_
  refine g_callV (pc := 28) C dX8_above_28 lmX8_249 kcX8_nextTo (by decide) (by first | rfl | assumption) (c_mo_nextA hF (by decide) (by omega) hW hb) rfl rfl (Nat.le_of_ble_eq_true rfl) ?_
  intro r9 sh9 I9 J9 hD9; obtain ⟨rfl, rfl, rfl, rfl⟩ := pm_Dq hD9; clear hD9
  try simp only [Option.toList_some, Option.toList_none, List.cons_append, List.nil_append]
  refine g_goto (pc := 31) (tgt := 35) C dX8_above_31 (by decide) ?_
  refine g_iret (pc := 35) C C2 dX8_above_35 rfl (Nat.le_refl _) (Nat.le_refl _) ?_
  exact ⟨rfl, rfl, rfl, rfl⟩

set_option maxHeartbeats 4000000 in
set_option maxRecDepth 100000 in
theorem c_X8_aboveB {d : Nat} {I : pm_I} {J : pm_J} {w : Nat → Int32} {g : Int32} {n t : Nat} {B : Nat → Nat → Int32} (hF : mo_F I w g 0 n) (ht : t ≤ 96) (hok : ∀ b, b < n → mo_ok (B b)) (hW : mo_W I 0 t n B I) {b : Nat} (hb : b < n)  : pm_M (d + 3) 0 0 yX8_above cX8_above 3 (some .int) [.ref 102, .int (nI b), .int 1] SHP I J (pm_D (some (.int (bl_enc (bl_nextB B b n)))) SHP I J) := by
  refine pm_start (own := RX8) (nm := "above") (by decide) rfl rfl (L := [(0, .ref 102), (1, .int (nI b)), (2, .int 1)]) rfl (Nat.le_of_ble_eq_true rfl) (fun Γ C C2 => ?_)
  have h6 := hF.2.1
  refine g_aload_n (pc := 0) (i := 0) (j := 0) C dX8_above_0 rfl rfl ?_
  refine g_iload_n (pc := 1) (i := 1) (j := 1) C dX8_above_1 rfl rfl ?_
  refine g_callV (pc := 2) C dX8_above_2 lmX8_234 kcX8_isBalloon (by decide) (by first | rfl | assumption) (c_X8_isBalloon) rfl rfl (Nat.le_of_ble_eq_true rfl) ?_
  intro r9 sh9 I9 J9 hD9; obtain ⟨rfl, rfl, rfl, rfl⟩ := pm_Dq hD9; clear hD9
  try simp only [Option.toList_some, Option.toList_none, List.cons_append, List.nil_append]
  refine g_if_eqB (pc := 5) (tgt := 34) C dX8_above_5 (by decide) (fun h5 => absurd ⟨by exact nI_pos' (by omega), by rw [hF.1]; exact pm_leP hb (by omega)⟩ h5) (fun h5 => ?_)
  refine g_iload_n (pc := 8) (i := 2) (j := 2) C dX8_above_8 rfl rfl ?_
  refine g_iconst (pc := 9) (v := 0) C dX8_above_9 (by decide) ?_
  refine g_iconst (pc := 10) (v := 1) C dX8_above_10 (by decide) ?_
  refine g_callS (pc := 11) C dX8_above_11 lmX8_78 kcX8_in (by decide) (c_X8_in) rfl rfl (Nat.le_of_ble_eq_true rfl) ?_
  intro r9 sh9 I9 J9 hD9; obtain ⟨rfl, rfl, rfl, rfl⟩ := pm_Dq hD9; clear hD9
  try simp only [Option.toList_some, Option.toList_none, List.cons_append, List.nil_append]
  refine g_if_eqB (pc := 14) (tgt := 34) C dX8_above_14 (by decide) (fun h14 => absurd (by decide : (0 : Int32) ≤ 1 ∧ (1 : Int32) ≤ 1) h14) (fun h14 => ?_)
  refine g_aload_n (pc := 17) (i := 0) (j := 0) C dX8_above_17 rfl rfl ?_
  refine g_iload_n (pc := 18) (i := 1) (j := 1) C dX8_above_18 rfl rfl ?_
  refine g_iload_n (pc := 19) (i := 2) (j := 2) C dX8_above_19 rfl rfl ?_
  refine g_if_ne (pc := 20) (tgt := 27) C dX8_above_20 (by decide) (fun h20 => ?_) (fun h20 => absurd h20 (by decide))
  refine g_iconst (pc := 27) (v := 0) C dX8_above_27 (by decide) ?_
  refine g_callV (pc := 28) C dX8_above_28 lmX8_249 kcX8_nextTo (by decide) (by first | rfl | assumption) (c_mo_nextB hF (by decide) (by omega) hW hb) rfl rfl (Nat.le_of_ble_eq_true rfl) ?_
  intro r9 sh9 I9 J9 hD9; obtain ⟨rfl, rfl, rfl, rfl⟩ := pm_Dq hD9; clear hD9
  try simp only [Option.toList_some, Option.toList_none, List.cons_append, List.nil_append]
  refine g_goto (pc := 31) (tgt := 35) C dX8_above_31 (by decide) ?_
  refine g_iret (pc := 35) C C2 dX8_above_35 rfl (Nat.le_refl _) (Nat.le_refl _) ?_
  exact ⟨rfl, rfl, rfl, rfl⟩

set_option maxHeartbeats 4000000 in
set_option maxRecDepth 100000 in
theorem c_X8_above0 {d : Nat} {x y : Int32} {I : pm_I} {J : pm_J} (hv : ¬ ((0 ≤ x ∧ x ≤ I 102 2 - 1) ∧ 0 ≤ y ∧ y ≤ 1)) : pm_M (d + 2) 0 0 yX8_above cX8_above 3 (some .int) [.ref 102, .int x, .int y] SHP I J (pm_D (some (.int (-1))) SHP I J) := by
  refine pm_start (own := RX8) (nm := "above") (by decide) rfl rfl (L := [(0, .ref 102), (1, .int x), (2, .int y)]) rfl (Nat.le_of_ble_eq_true rfl) (fun Γ C C2 => ?_)
  refine g_aload_n (pc := 0) (i := 0) (j := 0) C dX8_above_0 rfl rfl ?_
  refine g_iload_n (pc := 1) (i := 1) (j := 1) C dX8_above_1 rfl rfl ?_
  refine g_callV (pc := 2) C dX8_above_2 lmX8_234 kcX8_isBalloon (by decide) (by first | rfl | assumption) (c_X8_isBalloon) rfl rfl (Nat.le_of_ble_eq_true rfl) ?_
  intro r9 sh9 I9 J9 hD9; obtain ⟨rfl, rfl, rfl, rfl⟩ := pm_Dq hD9; clear hD9
  try simp only [Option.toList_some, Option.toList_none, List.cons_append, List.nil_append]
  refine g_if_eqB (pc := 5) (tgt := 34) C dX8_above_5 (by decide) (fun h5 => ?_) (fun h5 => ?_)
  · refine g_iconst (pc := 34) (v := (-1)) C dX8_above_34 (by decide) ?_
    refine g_iret (pc := 35) C C2 dX8_above_35 rfl (Nat.le_refl _) (Nat.le_refl _) ?_
    exact ⟨rfl, rfl, rfl, rfl⟩
  · refine g_iload_n (pc := 8) (i := 2) (j := 2) C dX8_above_8 rfl rfl ?_
    refine g_iconst (pc := 9) (v := 0) C dX8_above_9 (by decide) ?_
    refine g_iconst (pc := 10) (v := 1) C dX8_above_10 (by decide) ?_
    refine g_callS (pc := 11) C dX8_above_11 lmX8_78 kcX8_in (by decide) (c_X8_in) rfl rfl (Nat.le_of_ble_eq_true rfl) ?_
    intro r9 sh9 I9 J9 hD9; obtain ⟨rfl, rfl, rfl, rfl⟩ := pm_Dq hD9; clear hD9
    try simp only [Option.toList_some, Option.toList_none, List.cons_append, List.nil_append]
    refine g_if_eqB (pc := 14) (tgt := 34) C dX8_above_14 (by decide) (fun h14 => ?_) (fun h14 => ?_)
    · refine g_iconst (pc := 34) (v := (-1)) C dX8_above_34 (by decide) ?_
      refine g_iret (pc := 35) C C2 dX8_above_35 rfl (Nat.le_refl _) (Nat.le_refl _) ?_
      exact ⟨rfl, rfl, rfl, rfl⟩
    · exact absurd ⟨h5, h14⟩ hv

set_option maxHeartbeats 4000000 in
set_option maxRecDepth 100000 in
theorem c_X8_give0 {d : Nat} {I : pm_I} {J : pm_J} {w : Nat → Int32} {g : Int32} {n t : Nat} {B : Nat → Nat → Int32} (hF : mo_F I w g 0 n) (ht : t ≤ 96) (hok : ∀ b, b < n → mo_ok (B b)) (hW : mo_W I 0 t n B I) {i j : Nat} {v : Int32} (hi : i < n) (hj : j < n) (hij : i ≠ j) (hv : 1 ≤ v ∧ v ≤ 99) : pm_M (d + 5) 0 0 yX8_give cX8_give 6 (some .int) [.ref 102, .int (nI i), .int (nI j), .int 0, .int v] SHP I J (fun r sh2 I2 J2 => r = some (.int (if bl_can B i j 6 n v then B j 6 + v else -4)) ∧ sh2 = SHP ∧ J2 = J ∧ (bl_can B i j 6 n v → mo_W I 0 t n (mo_B1 (mo_B1 B i 6 (B i 6 - v)) j 6 (B j 6 + v)) I2) ∧ (¬ bl_can B i j 6 n v → I2 = I)) := by
  refine pm_start (own := RX8) (nm := "give") (by decide) rfl rfl (L := [(0, .ref 102), (1, .int (nI i)), (2, .int (nI j)), (3, .int 0), (4, .int v)]) rfl (Nat.le_of_ble_eq_true rfl) (fun Γ C C2 => ?_)
  have h6 := hF.2.1
  refine g_aload_n (pc := 0) (i := 0) (j := 0) C dX8_give_0 rfl rfl ?_
  refine g_iload_n (pc := 1) (i := 1) (j := 1) C dX8_give_1 rfl rfl ?_
  refine g_callV (pc := 2) C dX8_give_2 lmX8_234 kcX8_isBalloon (by decide) (by first | rfl | assumption) (c_X8_isBalloon) rfl rfl (Nat.le_of_ble_eq_true rfl) ?_
  intro r9 sh9 I9 J9 hD9; obtain ⟨rfl, rfl, rfl, rfl⟩ := pm_Dq hD9; clear hD9
  try simp only [Option.toList_some, Option.toList_none, List.cons_append, List.nil_append]
  refine g_if_eqB (pc := 5) (tgt := 41) C dX8_give_5 (by decide) (fun h5 => absurd ⟨by exact nI_pos' (by omega), by rw [hF.1]; exact pm_leP hi (by omega)⟩ h5) (fun h5 => ?_)
  refine g_aload_n (pc := 8) (i := 0) (j := 0) C dX8_give_8 rfl rfl ?_
  refine g_iload_n (pc := 9) (i := 2) (j := 2) C dX8_give_9 rfl rfl ?_
  refine g_callV (pc := 10) C dX8_give_10 lmX8_234 kcX8_isBalloon (by decide) (by first | rfl | assumption) (c_X8_isBalloon) rfl rfl (Nat.le_of_ble_eq_true rfl) ?_
  intro r9 sh9 I9 J9 hD9; obtain ⟨rfl, rfl, rfl, rfl⟩ := pm_Dq hD9; clear hD9
  try simp only [Option.toList_some, Option.toList_none, List.cons_append, List.nil_append]
  refine g_if_eqB (pc := 13) (tgt := 41) C dX8_give_13 (by decide) (fun h13 => absurd ⟨by exact nI_pos' (by omega), by rw [hF.1]; exact pm_leP hj (by omega)⟩ h13) (fun h13 => ?_)
  refine g_iload_n (pc := 16) (i := 1) (j := 1) C dX8_give_16 rfl rfl ?_
  refine g_iload_n (pc := 17) (i := 2) (j := 2) C dX8_give_17 rfl rfl ?_
  refine g_icmp_eq (pc := 18) (tgt := 41) C dX8_give_18 (by decide) (fun h18 => absurd ((nI_eq (by omega) (by omega)).mp h18) hij) (fun h18 => ?_)
  refine g_iload_n (pc := 21) (i := 3) (j := 3) C dX8_give_21 rfl rfl ?_
  refine g_iconst (pc := 22) (v := 0) C dX8_give_22 (by decide) ?_
  refine g_iconst (pc := 23) (v := 1) C dX8_give_23 (by decide) ?_
  refine g_callS (pc := 24) C dX8_give_24 lmX8_78 kcX8_in (by decide) (c_X8_in) rfl rfl (Nat.le_of_ble_eq_true rfl) ?_
  intro r9 sh9 I9 J9 hD9; obtain ⟨rfl, rfl, rfl, rfl⟩ := pm_Dq hD9; clear hD9
  try simp only [Option.toList_some, Option.toList_none, List.cons_append, List.nil_append]
  refine g_if_eqB (pc := 27) (tgt := 41) C dX8_give_27 (by decide) (fun h27 => absurd (by decide : (0 : Int32) ≤ 0 ∧ (0 : Int32) ≤ 1) h27) (fun h27 => ?_)
  refine g_iload (pc := 30) (j := 4) C dX8_give_30 rfl ?_
  refine g_iconst (pc := 32) (v := 1) C dX8_give_32 (by decide) ?_
  refine g_bipush (pc := 33) (v := 99) C dX8_give_33 (by decide) ?_
  refine g_callS (pc := 35) C dX8_give_35 lmX8_78 kcX8_in (by decide) (c_X8_in) rfl rfl (Nat.le_of_ble_eq_true rfl) ?_
  intro r9 sh9 I9 J9 hD9; obtain ⟨rfl, rfl, rfl, rfl⟩ := pm_Dq hD9; clear hD9
  try simp only [Option.toList_some, Option.toList_none, List.cons_append, List.nil_append]
  refine g_if_neB (pc := 38) (tgt := 43) C dX8_give_38 (by decide) (fun h38 => ?_) (fun h38 => absurd hv h38)
  refine g_iload_n (pc := 43) (i := 3) (j := 3) C dX8_give_43 rfl rfl ?_
  refine g_if_ne (pc := 44) (tgt := 51) C dX8_give_44 (by decide) (fun h44 => absurd h44 (by decide)) (fun h44 => ?_)
  refine g_iconst (pc := 47) (v := 5) C dX8_give_47 (by decide) ?_
  refine g_goto (pc := 48) (tgt := 53) C dX8_give_48 (by decide) ?_
  refine g_istore (pc := 53) (L2 := [(0, _), (1, _), (2, _), (3, _), (4, _), (5, _)]) C dX8_give_53 (by decide) rfl ?_
  refine g_aload_n (pc := 55) (i := 0) (j := 0) C dX8_give_55 rfl rfl ?_
  refine g_iload_n (pc := 56) (i := 1) (j := 1) C dX8_give_56 rfl rfl ?_
  refine g_iload_n (pc := 57) (i := 2) (j := 2) C dX8_give_57 rfl rfl ?_
  refine g_iload (pc := 58) (j := 5) C dX8_give_58 rfl ?_
  refine g_iload (pc := 60) (j := 4) C dX8_give_60 rfl ?_
  refine g_callV (pc := 62) C dX8_give_62 lmX8_259 kcX8_canGive (by decide) (by first | rfl | assumption) (c_X8_canGive (a := 0) (p := 5) hF (by decide) (by omega) hW hi hj (by decide)) rfl rfl (Nat.le_of_ble_eq_true rfl) ?_
  intro r9 sh9 I9 J9 hD9; obtain ⟨rfl, rfl, rfl, rfl⟩ := pm_Dq hD9; clear hD9
  try simp only [Option.toList_some, Option.toList_none, List.cons_append, List.nil_append]
  refine g_if_neB (pc := 65) (tgt := 71) C dX8_give_65 (by decide) (fun h65 => ?_) (fun h65 => ?_)
  · refine g_aload_n (pc := 71) (i := 0) (j := 0) C dX8_give_71 rfl rfl ?_
    refine g_iload_n (pc := 72) (i := 1) (j := 1) C dX8_give_72 rfl rfl ?_
    refine g_iload_n (pc := 73) (i := 2) (j := 2) C dX8_give_73 rfl rfl ?_
    refine g_iload (pc := 74) (j := 5) C dX8_give_74 rfl ?_
    refine g_iload (pc := 76) (j := 4) C dX8_give_76 rfl ?_
    refine g_callV (pc := 78) C dX8_give_78 lmX8_263 kcX8_gives (by decide) (by first | rfl | assumption) (c_X8_gives (a := 0) (p := 5) hF (by decide) (by omega) hW hi hj (by decide)) rfl rfl (Nat.le_of_ble_eq_true rfl) ?_
    intro r9 sh9 I9 J9 hD9; obtain ⟨rfl, rfl, rfl, hG⟩ := hD9
    try simp only [Option.toList_some, Option.toList_none, List.cons_append, List.nil_append]
    rw [show mo_B1 B i (5 + 1) (B i (5 + 1) - v) j = B j from if_neg (Ne.symm hij)] at hG
    refine g_aload_n (pc := 81) (i := 0) (j := 0) C dX8_give_81 rfl rfl ?_
    refine g_iload_n (pc := 82) (i := 2) (j := 2) C dX8_give_82 rfl rfl ?_
    refine g_iload (pc := 83) (j := 5) C dX8_give_83 rfl ?_
    refine g_callV (pc := 85) C dX8_give_85 lmX8_219 kcX8_its (by decide) (by first | rfl | assumption) (c_mo_its hF (by decide) (by omega) hG hj (p := 5) (by decide) (by decide)) rfl rfl (Nat.le_of_ble_eq_true rfl) ?_
    intro r9 sh9 I9 J9 hD9; obtain ⟨rfl, rfl, rfl, rfl⟩ := pm_Dq hD9; clear hD9
    try simp only [Option.toList_some, Option.toList_none, List.cons_append, List.nil_append]
    refine g_iret (pc := 88) C C2 dX8_give_88 rfl (Nat.le_refl _) (Nat.le_refl _) ?_
    first | exact ⟨by rw [if_neg h65], rfl, rfl, fun q => absurd q h65, fun _ => rfl⟩ | exact ⟨by rw [if_pos h65, mo_B1_at, pk_us], rfl, rfl, fun _ => hG, fun q => absurd h65 q⟩
  · refine g_bipush (pc := 68) (v := (-4)) C dX8_give_68 (by decide) ?_
    refine g_iret (pc := 70) C C2 dX8_give_70 rfl (Nat.le_refl _) (Nat.le_refl _) ?_
    first | exact ⟨by rw [if_neg h65], rfl, rfl, fun q => absurd q h65, fun _ => rfl⟩ | exact ⟨by rw [if_pos h65, mo_B1_at, pk_us], rfl, rfl, fun _ => hG, fun q => absurd h65 q⟩

set_option maxHeartbeats 4000000 in
set_option maxRecDepth 100000 in
theorem c_X8_give1 {d : Nat} {I : pm_I} {J : pm_J} {w : Nat → Int32} {g : Int32} {n t : Nat} {B : Nat → Nat → Int32} (hF : mo_F I w g 0 n) (ht : t ≤ 96) (hok : ∀ b, b < n → mo_ok (B b)) (hW : mo_W I 0 t n B I) {i j : Nat} {v : Int32} (hi : i < n) (hj : j < n) (hij : i ≠ j) (hv : 1 ≤ v ∧ v ≤ 99) : pm_M (d + 5) 0 0 yX8_give cX8_give 6 (some .int) [.ref 102, .int (nI i), .int (nI j), .int 1, .int v] SHP I J (fun r sh2 I2 J2 => r = some (.int (if bl_can B i j 7 n v then B j 7 + v else -4)) ∧ sh2 = SHP ∧ J2 = J ∧ (bl_can B i j 7 n v → mo_W I 0 t n (mo_B1 (mo_B1 B i 7 (B i 7 - v)) j 7 (B j 7 + v)) I2) ∧ (¬ bl_can B i j 7 n v → I2 = I)) := by
  refine pm_start (own := RX8) (nm := "give") (by decide) rfl rfl (L := [(0, .ref 102), (1, .int (nI i)), (2, .int (nI j)), (3, .int 1), (4, .int v)]) rfl (Nat.le_of_ble_eq_true rfl) (fun Γ C C2 => ?_)
  have h6 := hF.2.1
  refine g_aload_n (pc := 0) (i := 0) (j := 0) C dX8_give_0 rfl rfl ?_
  refine g_iload_n (pc := 1) (i := 1) (j := 1) C dX8_give_1 rfl rfl ?_
  refine g_callV (pc := 2) C dX8_give_2 lmX8_234 kcX8_isBalloon (by decide) (by first | rfl | assumption) (c_X8_isBalloon) rfl rfl (Nat.le_of_ble_eq_true rfl) ?_
  intro r9 sh9 I9 J9 hD9; obtain ⟨rfl, rfl, rfl, rfl⟩ := pm_Dq hD9; clear hD9
  try simp only [Option.toList_some, Option.toList_none, List.cons_append, List.nil_append]
  refine g_if_eqB (pc := 5) (tgt := 41) C dX8_give_5 (by decide) (fun h5 => absurd ⟨by exact nI_pos' (by omega), by rw [hF.1]; exact pm_leP hi (by omega)⟩ h5) (fun h5 => ?_)
  refine g_aload_n (pc := 8) (i := 0) (j := 0) C dX8_give_8 rfl rfl ?_
  refine g_iload_n (pc := 9) (i := 2) (j := 2) C dX8_give_9 rfl rfl ?_
  refine g_callV (pc := 10) C dX8_give_10 lmX8_234 kcX8_isBalloon (by decide) (by first | rfl | assumption) (c_X8_isBalloon) rfl rfl (Nat.le_of_ble_eq_true rfl) ?_
  intro r9 sh9 I9 J9 hD9; obtain ⟨rfl, rfl, rfl, rfl⟩ := pm_Dq hD9; clear hD9
  try simp only [Option.toList_some, Option.toList_none, List.cons_append, List.nil_append]
  refine g_if_eqB (pc := 13) (tgt := 41) C dX8_give_13 (by decide) (fun h13 => absurd ⟨by exact nI_pos' (by omega), by rw [hF.1]; exact pm_leP hj (by omega)⟩ h13) (fun h13 => ?_)
  refine g_iload_n (pc := 16) (i := 1) (j := 1) C dX8_give_16 rfl rfl ?_
  refine g_iload_n (pc := 17) (i := 2) (j := 2) C dX8_give_17 rfl rfl ?_
  refine g_icmp_eq (pc := 18) (tgt := 41) C dX8_give_18 (by decide) (fun h18 => absurd ((nI_eq (by omega) (by omega)).mp h18) hij) (fun h18 => ?_)
  refine g_iload_n (pc := 21) (i := 3) (j := 3) C dX8_give_21 rfl rfl ?_
  refine g_iconst (pc := 22) (v := 0) C dX8_give_22 (by decide) ?_
  refine g_iconst (pc := 23) (v := 1) C dX8_give_23 (by decide) ?_
  refine g_callS (pc := 24) C dX8_give_24 lmX8_78 kcX8_in (by decide) (c_X8_in) rfl rfl (Nat.le_of_ble_eq_true rfl) ?_
  intro r9 sh9 I9 J9 hD9; obtain ⟨rfl, rfl, rfl, rfl⟩ := pm_Dq hD9; clear hD9
  try simp only [Option.toList_some, Option.toList_none, List.cons_append, List.nil_append]
  refine g_if_eqB (pc := 27) (tgt := 41) C dX8_give_27 (by decide) (fun h27 => absurd (by decide : (0 : Int32) ≤ 1 ∧ (1 : Int32) ≤ 1) h27) (fun h27 => ?_)
  refine g_iload (pc := 30) (j := 4) C dX8_give_30 rfl ?_
  refine g_iconst (pc := 32) (v := 1) C dX8_give_32 (by decide) ?_
  refine g_bipush (pc := 33) (v := 99) C dX8_give_33 (by decide) ?_
  refine g_callS (pc := 35) C dX8_give_35 lmX8_78 kcX8_in (by decide) (c_X8_in) rfl rfl (Nat.le_of_ble_eq_true rfl) ?_
  intro r9 sh9 I9 J9 hD9; obtain ⟨rfl, rfl, rfl, rfl⟩ := pm_Dq hD9; clear hD9
  try simp only [Option.toList_some, Option.toList_none, List.cons_append, List.nil_append]
  refine g_if_neB (pc := 38) (tgt := 43) C dX8_give_38 (by decide) (fun h38 => ?_) (fun h38 => absurd hv h38)
  refine g_iload_n (pc := 43) (i := 3) (j := 3) C dX8_give_43 rfl rfl ?_
  refine g_if_ne (pc := 44) (tgt := 51) C dX8_give_44 (by decide) (fun h44 => ?_) (fun h44 => absurd h44 (by decide))
  refine g_bipush (pc := 51) (v := 6) C dX8_give_51 (by decide) ?_
  refine g_istore (pc := 53) (L2 := [(0, _), (1, _), (2, _), (3, _), (4, _), (5, _)]) C dX8_give_53 (by decide) rfl ?_
  refine g_aload_n (pc := 55) (i := 0) (j := 0) C dX8_give_55 rfl rfl ?_
  refine g_iload_n (pc := 56) (i := 1) (j := 1) C dX8_give_56 rfl rfl ?_
  refine g_iload_n (pc := 57) (i := 2) (j := 2) C dX8_give_57 rfl rfl ?_
  refine g_iload (pc := 58) (j := 5) C dX8_give_58 rfl ?_
  refine g_iload (pc := 60) (j := 4) C dX8_give_60 rfl ?_
  refine g_callV (pc := 62) C dX8_give_62 lmX8_259 kcX8_canGive (by decide) (by first | rfl | assumption) (c_X8_canGive (a := 0) (p := 6) hF (by decide) (by omega) hW hi hj (by decide)) rfl rfl (Nat.le_of_ble_eq_true rfl) ?_
  intro r9 sh9 I9 J9 hD9; obtain ⟨rfl, rfl, rfl, rfl⟩ := pm_Dq hD9; clear hD9
  try simp only [Option.toList_some, Option.toList_none, List.cons_append, List.nil_append]
  refine g_if_neB (pc := 65) (tgt := 71) C dX8_give_65 (by decide) (fun h65 => ?_) (fun h65 => ?_)
  · refine g_aload_n (pc := 71) (i := 0) (j := 0) C dX8_give_71 rfl rfl ?_
    refine g_iload_n (pc := 72) (i := 1) (j := 1) C dX8_give_72 rfl rfl ?_
    refine g_iload_n (pc := 73) (i := 2) (j := 2) C dX8_give_73 rfl rfl ?_
    refine g_iload (pc := 74) (j := 5) C dX8_give_74 rfl ?_
    refine g_iload (pc := 76) (j := 4) C dX8_give_76 rfl ?_
    refine g_callV (pc := 78) C dX8_give_78 lmX8_263 kcX8_gives (by decide) (by first | rfl | assumption) (c_X8_gives (a := 0) (p := 6) hF (by decide) (by omega) hW hi hj (by decide)) rfl rfl (Nat.le_of_ble_eq_true rfl) ?_
    intro r9 sh9 I9 J9 hD9; obtain ⟨rfl, rfl, rfl, hG⟩ := hD9
    try simp only [Option.toList_some, Option.toList_none, List.cons_append, List.nil_append]
    rw [show mo_B1 B i (6 + 1) (B i (6 + 1) - v) j = B j from if_neg (Ne.symm hij)] at hG
    refine g_aload_n (pc := 81) (i := 0) (j := 0) C dX8_give_81 rfl rfl ?_
    refine g_iload_n (pc := 82) (i := 2) (j := 2) C dX8_give_82 rfl rfl ?_
    refine g_iload (pc := 83) (j := 5) C dX8_give_83 rfl ?_
    refine g_callV (pc := 85) C dX8_give_85 lmX8_219 kcX8_its (by decide) (by first | rfl | assumption) (c_mo_its hF (by decide) (by omega) hG hj (p := 6) (by decide) (by decide)) rfl rfl (Nat.le_of_ble_eq_true rfl) ?_
    intro r9 sh9 I9 J9 hD9; obtain ⟨rfl, rfl, rfl, rfl⟩ := pm_Dq hD9; clear hD9
    try simp only [Option.toList_some, Option.toList_none, List.cons_append, List.nil_append]
    refine g_iret (pc := 88) C C2 dX8_give_88 rfl (Nat.le_refl _) (Nat.le_refl _) ?_
    first | exact ⟨by rw [if_neg h65], rfl, rfl, fun q => absurd q h65, fun _ => rfl⟩ | exact ⟨by rw [if_pos h65, mo_B1_at, pk_us], rfl, rfl, fun _ => hG, fun q => absurd h65 q⟩
  · refine g_bipush (pc := 68) (v := (-4)) C dX8_give_68 (by decide) ?_
    refine g_iret (pc := 70) C C2 dX8_give_70 rfl (Nat.le_refl _) (Nat.le_refl _) ?_
    first | exact ⟨by rw [if_neg h65], rfl, rfl, fun q => absurd q h65, fun _ => rfl⟩ | exact ⟨by rw [if_pos h65, mo_B1_at, pk_us], rfl, rfl, fun _ => hG, fun q => absurd h65 q⟩

set_option maxHeartbeats 4000000 in
set_option maxRecDepth 100000 in
theorem c_X8_giveX {d : Nat} {x y u v : Int32} {I : pm_I} {J : pm_J} (hv : ¬ (((0 ≤ x ∧ x ≤ I 102 2 - 1) ∧ (0 ≤ y ∧ y ≤ I 102 2 - 1) ∧ ¬ x = y) ∧ (0 ≤ u ∧ u ≤ 1) ∧ 1 ≤ v ∧ v ≤ 99)) : pm_M (d + 2) 0 0 yX8_give cX8_give 6 (some .int) [.ref 102, .int x, .int y, .int u, .int v] SHP I J (pm_D (some (.int (-1))) SHP I J) := by
  refine pm_start (own := RX8) (nm := "give") (by decide) rfl rfl (L := [(0, .ref 102), (1, .int x), (2, .int y), (3, .int u), (4, .int v)]) rfl (Nat.le_of_ble_eq_true rfl) (fun Γ C C2 => ?_)
  refine g_aload_n (pc := 0) (i := 0) (j := 0) C dX8_give_0 rfl rfl ?_
  refine g_iload_n (pc := 1) (i := 1) (j := 1) C dX8_give_1 rfl rfl ?_
  refine g_callV (pc := 2) C dX8_give_2 lmX8_234 kcX8_isBalloon (by decide) (by first | rfl | assumption) (c_X8_isBalloon) rfl rfl (Nat.le_of_ble_eq_true rfl) ?_
  intro r9 sh9 I9 J9 hD9; obtain ⟨rfl, rfl, rfl, rfl⟩ := pm_Dq hD9; clear hD9
  try simp only [Option.toList_some, Option.toList_none, List.cons_append, List.nil_append]
  refine g_if_eqB (pc := 5) (tgt := 41) C dX8_give_5 (by decide) (fun h5 => ?_) (fun h5 => ?_)
  · refine g_iconst (pc := 41) (v := (-1)) C dX8_give_41 (by decide) ?_
    refine g_iret (pc := 42) C C2 dX8_give_42 rfl (Nat.le_refl _) (Nat.le_refl _) ?_
    exact ⟨rfl, rfl, rfl, rfl⟩
  · refine g_aload_n (pc := 8) (i := 0) (j := 0) C dX8_give_8 rfl rfl ?_
    refine g_iload_n (pc := 9) (i := 2) (j := 2) C dX8_give_9 rfl rfl ?_
    refine g_callV (pc := 10) C dX8_give_10 lmX8_234 kcX8_isBalloon (by decide) (by first | rfl | assumption) (c_X8_isBalloon) rfl rfl (Nat.le_of_ble_eq_true rfl) ?_
    intro r9 sh9 I9 J9 hD9; obtain ⟨rfl, rfl, rfl, rfl⟩ := pm_Dq hD9; clear hD9
    try simp only [Option.toList_some, Option.toList_none, List.cons_append, List.nil_append]
    refine g_if_eqB (pc := 13) (tgt := 41) C dX8_give_13 (by decide) (fun h13 => ?_) (fun h13 => ?_)
    · refine g_iconst (pc := 41) (v := (-1)) C dX8_give_41 (by decide) ?_
      refine g_iret (pc := 42) C C2 dX8_give_42 rfl (Nat.le_refl _) (Nat.le_refl _) ?_
      exact ⟨rfl, rfl, rfl, rfl⟩
    · refine g_iload_n (pc := 16) (i := 1) (j := 1) C dX8_give_16 rfl rfl ?_
      refine g_iload_n (pc := 17) (i := 2) (j := 2) C dX8_give_17 rfl rfl ?_
      refine g_icmp_eq (pc := 18) (tgt := 41) C dX8_give_18 (by decide) (fun h18 => ?_) (fun h18 => ?_)
      · refine g_iconst (pc := 41) (v := (-1)) C dX8_give_41 (by decide) ?_
        refine g_iret (pc := 42) C C2 dX8_give_42 rfl (Nat.le_refl _) (Nat.le_refl _) ?_
        exact ⟨rfl, rfl, rfl, rfl⟩
      · refine g_iload_n (pc := 21) (i := 3) (j := 3) C dX8_give_21 rfl rfl ?_
        refine g_iconst (pc := 22) (v := 0) C dX8_give_22 (by decide) ?_
        refine g_iconst (pc := 23) (v := 1) C dX8_give_23 (by decide) ?_
        refine g_callS (pc := 24) C dX8_give_24 lmX8_78 kcX8_in (by decide) (c_X8_in) rfl rfl (Nat.le_of_ble_eq_true rfl) ?_
        intro r9 sh9 I9 J9 hD9; obtain ⟨rfl, rfl, rfl, rfl⟩ := pm_Dq hD9; clear hD9
        try simp only [Option.toList_some, Option.toList_none, List.cons_append, List.nil_append]
        refine g_if_eqB (pc := 27) (tgt := 41) C dX8_give_27 (by decide) (fun h27 => ?_) (fun h27 => ?_)
        · refine g_iconst (pc := 41) (v := (-1)) C dX8_give_41 (by decide) ?_
          refine g_iret (pc := 42) C C2 dX8_give_42 rfl (Nat.le_refl _) (Nat.le_refl _) ?_
          exact ⟨rfl, rfl, rfl, rfl⟩
        · refine g_iload (pc := 30) (j := 4) C dX8_give_30 rfl ?_
          refine g_iconst (pc := 32) (v := 1) C dX8_give_32 (by decide) ?_
          refine g_bipush (pc := 33) (v := 99) C dX8_give_33 (by decide) ?_
          refine g_callS (pc := 35) C dX8_give_35 lmX8_78 kcX8_in (by decide) (c_X8_in) rfl rfl (Nat.le_of_ble_eq_true rfl) ?_
          intro r9 sh9 I9 J9 hD9; obtain ⟨rfl, rfl, rfl, rfl⟩ := pm_Dq hD9; clear hD9
          try simp only [Option.toList_some, Option.toList_none, List.cons_append, List.nil_append]
          refine g_if_neB (pc := 38) (tgt := 43) C dX8_give_38 (by decide) (fun h38 => ?_) (fun h38 => ?_)
          · exact absurd ⟨⟨h5, h13, h18⟩, h27, h38⟩ hv
          · refine g_iconst (pc := 41) (v := (-1)) C dX8_give_41 (by decide) ?_
            refine g_iret (pc := 42) C C2 dX8_give_42 rfl (Nat.le_refl _) (Nat.le_refl _) ?_
            exact ⟨rfl, rfl, rfl, rfl⟩
