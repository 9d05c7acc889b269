set_option maxHeartbeats 4000000 in
set_option maxRecDepth 100000 in
theorem c_X7_within {d : Nat} {v lo hi : Int32} {sh : List pm_S} {I : pm_I} {J : pm_J} : pm_M d 0 0 yX7_within cX7_within 3 (some .boolean) [.int v, .int lo, .int hi] sh I J (pm_D (some (.int (pm_b (lo ≤ v ∧ v ≤ hi)))) sh I J) := by
  refine pm_start (own := RX7) (nm := "within") (by decide) rfl rfl (L := [(0, .int v), (1, .int lo), (2, .int hi)]) rfl (Nat.le_of_ble_eq_true rfl) (fun Γ C C2 => ?_)
  refine g_iload_n (pc := 0) (i := 0) (j := 0) C dX7_within_0 rfl rfl ?_
  refine g_iload_n (pc := 1) (i := 1) (j := 1) C dX7_within_1 rfl rfl ?_
  refine g_icmp_lt (pc := 2) (tgt := 14) C dX7_within_2 (by decide) (fun h2 => ?_) (fun h2 => ?_)
  · refine g_iconst (pc := 14) (v := 0) C dX7_within_14 (by decide) ?_
    refine g_iret (pc := 15) C C2 dX7_within_15 (by first | rfl | exact pm_nz) (Nat.le_refl _) (Nat.le_refl _) ?_
    clear C C2
    exact ⟨by grind [pm_b], rfl, rfl, rfl⟩
  · refine g_iload_n (pc := 5) (i := 0) (j := 0) C dX7_within_5 rfl rfl ?_
    refine g_iload_n (pc := 6) (i := 2) (j := 2) C dX7_within_6 rfl rfl ?_
    refine g_icmp_gt (pc := 7) (tgt := 14) C dX7_within_7 (by decide) (fun h7 => ?_) (fun h7 => ?_)
    · refine g_iconst (pc := 14) (v := 0) C dX7_within_14 (by decide) ?_
      refine g_iret (pc := 15) C C2 dX7_within_15 (by first | rfl | exact pm_nz) (Nat.le_refl _) (Nat.le_refl _) ?_
      clear C C2
      exact ⟨by grind [pm_b], rfl, rfl, rfl⟩
    · refine g_iconst (pc := 10) (v := 1) C dX7_within_10 (by decide) ?_
      refine g_goto (pc := 11) (tgt := 15) C dX7_within_11 (by decide) ?_
      refine g_iret (pc := 15) C C2 dX7_within_15 (by first | rfl | exact pm_nz) (Nat.le_refl _) (Nat.le_refl _) ?_
      clear C C2
      exact ⟨by grind [pm_b], rfl, rfl, rfl⟩

set_option maxHeartbeats 4000000 in
set_option maxRecDepth 100000 in
theorem c_X7_held {d : Nat} {v lo hi : Int32} {sh : List pm_S} {I : pm_I} {J : pm_J} : pm_M d 0 0 yX7_held cX7_held 3 (some .int) [.int v, .int lo, .int hi] sh I J (pm_D (some (.int (if v < lo then lo else if hi < v then hi else v))) sh I J) := by
  refine pm_start (own := RX7) (nm := "held") (by decide) rfl rfl (L := [(0, .int v), (1, .int lo), (2, .int hi)]) rfl (Nat.le_of_ble_eq_true rfl) (fun Γ C C2 => ?_)
  refine g_iload_n (pc := 0) (i := 0) (j := 0) C dX7_held_0 rfl rfl ?_
  refine g_iload_n (pc := 1) (i := 1) (j := 1) C dX7_held_1 rfl rfl ?_
  refine g_icmp_ge (pc := 2) (tgt := 9) C dX7_held_2 (by decide) (fun h2 => ?_) (fun h2 => ?_)
  · refine g_iload_n (pc := 9) (i := 0) (j := 0) C dX7_held_9 rfl rfl ?_
    refine g_iload_n (pc := 10) (i := 2) (j := 2) C dX7_held_10 rfl rfl ?_
    refine g_icmp_le (pc := 11) (tgt := 18) C dX7_held_11 (by decide) (fun h11 => ?_) (fun h11 => ?_)
    · refine g_iload_n (pc := 18) (i := 0) (j := 0) C dX7_held_18 rfl rfl ?_
      refine g_iret (pc := 19) C C2 dX7_held_19 rfl (Nat.le_refl _) (Nat.le_refl _) ?_
      clear C C2
      exact ⟨by grind [pm_b], rfl, rfl, rfl⟩
    · refine g_iload_n (pc := 14) (i := 2) (j := 2) C dX7_held_14 rfl rfl ?_
      refine g_goto (pc := 15) (tgt := 19) C dX7_held_15 (by decide) ?_
      refine g_iret (pc := 19) C C2 dX7_held_19 rfl (Nat.le_refl _) (Nat.le_refl _) ?_
      clear C C2
      exact ⟨by grind [pm_b], rfl, rfl, rfl⟩
  · refine g_iload_n (pc := 5) (i := 1) (j := 1) C dX7_held_5 rfl rfl ?_
    refine g_goto (pc := 6) (tgt := 19) C dX7_held_6 (by decide) ?_
    refine g_iret (pc := 19) C C2 dX7_held_19 rfl (Nat.le_refl _) (Nat.le_refl _) ?_
    clear C C2
    exact ⟨by grind [pm_b], rfl, rfl, rfl⟩

set_option maxHeartbeats 4000000 in
set_option maxRecDepth 100000 in
theorem c_X7_isHour {d : Nat} {x : Int32} {sh : List pm_S} {I : pm_I} {J : pm_J} : pm_M (d + 1) 0 0 yX7_isHour cX7_isHour 1 (some .boolean) [.int x] sh I J (pm_D (some (.int (pm_b (0 ≤ x ∧ x ≤ 23)))) sh I J) := by
  refine pm_start (own := RX7) (nm := "isHour") (by decide) rfl rfl (L := [(0, .int x)]) rfl (Nat.le_of_ble_eq_true rfl) (fun Γ C C2 => ?_)
  refine g_iload_n (pc := 0) (i := 0) (j := 0) C dX7_isHour_0 rfl rfl ?_
  refine g_iconst (pc := 1) (v := 0) C dX7_isHour_1 (by decide) ?_
  refine g_bipush (pc := 2) (v := 23) C dX7_isHour_2 (by decide) ?_
  refine g_callS (pc := 4) C dX7_isHour_4 lmX7_72 kcX7_within (by decide) (c_X7_within) rfl rfl (Nat.le_of_ble_eq_true rfl) ?_
  intro r9 sh9 I9 J9 hD9; obtain ⟨rfl, rfl, rfl, rfl⟩ := pm_Dq hD9
  try simp only [Option.toList_some, Option.toList_none, List.cons_append, List.nil_append]
  refine g_iret (pc := 7) C C2 dX7_isHour_7 (by first | rfl | exact pm_nz) (Nat.le_refl _) (Nat.le_refl _) ?_
  exact ⟨rfl, rfl, rfl, rfl⟩

set_option maxHeartbeats 4000000 in
set_option maxRecDepth 100000 in
theorem c_X7_isSheet {d : Nat} {x : Int32} {sh : List pm_S} {I : pm_I} {J : pm_J} : pm_M (d + 1) 0 0 yX7_isSheet cX7_isSheet 1 (some .boolean) [.int x] sh I J (pm_D (some (.int (pm_b (0 ≤ x ∧ x ≤ 3)))) sh I J) := by
  refine pm_start (own := RX7) (nm := "isSheet") (by decide) rfl rfl (L := [(0, .int x)]) rfl (Nat.le_of_ble_eq_true rfl) (fun Γ C C2 => ?_)
  refine g_iload_n (pc := 0) (i := 0) (j := 0) C dX7_isSheet_0 rfl rfl ?_
  refine g_iconst (pc := 1) (v := 0) C dX7_isSheet_1 (by decide) ?_
  refine g_iconst (pc := 2) (v := 3) C dX7_isSheet_2 (by decide) ?_
  refine g_callS (pc := 3) C dX7_isSheet_3 lmX7_72 kcX7_within (by decide) (c_X7_within) rfl rfl (Nat.le_of_ble_eq_true rfl) ?_
  intro r9 sh9 I9 J9 hD9; obtain ⟨rfl, rfl, rfl, rfl⟩ := pm_Dq hD9
  try simp only [Option.toList_some, Option.toList_none, List.cons_append, List.nil_append]
  refine g_iret (pc := 6) C C2 dX7_isSheet_6 (by first | rfl | exact pm_nz) (Nat.le_refl _) (Nat.le_refl _) ?_
  exact ⟨rfl, rfl, rfl, rfl⟩

set_option maxHeartbeats 4000000 in
set_option maxRecDepth 100000 in
theorem c_X7_isShelf {d : Nat} {x : Int32} {sh : List pm_S} {I : pm_I} {J : pm_J} : pm_M (d + 1) 0 0 yX7_isShelf cX7_isShelf 1 (some .boolean) [.int x] sh I J (pm_D (some (.int (pm_b (0 ≤ x ∧ x ≤ 3)))) sh I J) := by
  refine pm_start (own := RX7) (nm := "isShelf") (by decide) rfl rfl (L := [(0, .int x)]) rfl (Nat.le_of_ble_eq_true rfl) (fun Γ C C2 => ?_)
  refine g_iload_n (pc := 0) (i := 0) (j := 0) C dX7_isShelf_0 rfl rfl ?_
  refine g_iconst (pc := 1) (v := 0) C dX7_isShelf_1 (by decide) ?_
  refine g_iconst (pc := 2) (v := 3) C dX7_isShelf_2 (by decide) ?_
  refine g_callS (pc := 3) C dX7_isShelf_3 lmX7_72 kcX7_within (by decide) (c_X7_within) rfl rfl (Nat.le_of_ble_eq_true rfl) ?_
  intro r9 sh9 I9 J9 hD9; obtain ⟨rfl, rfl, rfl, rfl⟩ := pm_Dq hD9
  try simp only [Option.toList_some, Option.toList_none, List.cons_append, List.nil_append]
  refine g_iret (pc := 6) C C2 dX7_isShelf_6 (by first | rfl | exact pm_nz) (Nat.le_refl _) (Nat.le_refl _) ?_
  exact ⟨rfl, rfl, rfl, rfl⟩

set_option maxHeartbeats 4000000 in
set_option maxRecDepth 100000 in
theorem c_X7_fits {d : Nat} {z : Nat} {v : Int32} (hz : z < 9) {sh : List pm_S} {I : pm_I} {J : pm_J} : pm_M (d + 1) 0 0 yX7_fits cX7_fits 2 (some .boolean) [.int (nI z), .int v] sh I J (pm_D (some (.int (pm_b ((pm_tv 1).getD z 0 ≤ v ∧ v ≤ (pm_tv 2).getD z 0)))) sh I J) := by
  refine pm_start (own := RX7) (nm := "fits") (by decide) rfl rfl (L := [(0, .int (nI z)), (1, .int v)]) rfl (Nat.le_of_ble_eq_true rfl) (fun Γ C C2 => ?_)
  refine g_iload_n (pc := 0) (i := 1) (j := 1) C dX7_fits_0 rfl rfl ?_
  refine g_gets (pc := 1) (j := 1) C dX7_fits_1 (by decide) lsX7_182 ?_
  refine g_iload_n (pc := 4) (i := 0) (j := 0) C dX7_fits_4 rfl rfl ?_
  refine g_tald (pc := 5) (j := 1) C dX7_fits_5 (by decide) (by first | rfl | assumption) (by first | assumption | decide | omega) ?_
  refine g_gets (pc := 6) (j := 2) C dX7_fits_6 (by decide) lsX7_141 ?_
  refine g_iload_n (pc := 9) (i := 0) (j := 0) C dX7_fits_9 rfl rfl ?_
  refine g_tald (pc := 10) (j := 2) C dX7_fits_10 (by decide) (by first | rfl | assumption) (by first | assumption | decide | omega) ?_
  refine g_callS (pc := 11) C dX7_fits_11 lmX7_72 kcX7_within (by decide) (c_X7_within) rfl rfl (Nat.le_of_ble_eq_true rfl) ?_
  intro r9 sh9 I9 J9 hD9; obtain ⟨rfl, rfl, rfl, rfl⟩ := pm_Dq hD9
  try simp only [Option.toList_some, Option.toList_none, List.cons_append, List.nil_append]
  refine g_iret (pc := 14) C C2 dX7_fits_14 (by first | rfl | exact pm_nz) (Nat.le_refl _) (Nat.le_refl _) ?_
  exact ⟨rfl, rfl, rfl, rfl⟩

set_option maxHeartbeats 4000000 in
set_option maxRecDepth 100000 in
theorem c_X7_warmth {d : Nat} {x : Int32} {I : pm_I} {J : pm_J} : pm_M (d + 2) 0 0 yX7_warmth cX7_warmth 2 (some .int) [.ref 0, .int x] SHP I J (pm_D (some (.int (if 0 ≤ x ∧ x ≤ 23 then I 2 x.toNatClampNeg + 100 else -1))) SHP I J) := by
  refine pm_start (own := RX7) (nm := "warmth") (by decide) rfl rfl (L := [(0, .ref 0), (1, .int x)]) rfl (Nat.le_of_ble_eq_true rfl) (fun Γ C C2 => ?_)
  refine g_iload_n (pc := 0) (i := 1) (j := 1) C dX7_warmth_0 rfl rfl ?_
  refine g_callS (pc := 1) C dX7_warmth_1 lmX7_96 kcX7_isHour (by decide) (c_X7_isHour) rfl rfl (Nat.le_of_ble_eq_true rfl) ?_
  intro r9 sh9 I9 J9 hD9; obtain ⟨rfl, rfl, rfl, rfl⟩ := pm_Dq hD9
  try simp only [Option.toList_some, Option.toList_none, List.cons_append, List.nil_append]
  refine g_if_eqB (pc := 4) (tgt := 22) C dX7_warmth_4 (by decide) (fun h4 => ?_) (fun h4 => ?_)
  · refine g_iconst (pc := 22) (v := (-1)) C dX7_warmth_22 (by decide) ?_
    refine g_iret (pc := 23) C C2 dX7_warmth_23 rfl (Nat.le_refl _) (Nat.le_refl _) ?_
    clear C C2
    exact ⟨by grind [pm_b], rfl, rfl, rfl⟩
  · refine g_aload_n (pc := 7) (i := 0) (j := 0) C dX7_warmth_7 rfl rfl ?_
    refine g_getR (pc := 8) C dX7_warmth_8 lfX7_10 (by first | rfl | assumption) rfl ?_
    refine g_getR (pc := 11) C dX7_warmth_11 lfX7_100 (by first | rfl | assumption) rfl ?_
    refine g_iload_n (pc := 14) (i := 1) (j := 1) C dX7_warmth_14 rfl rfl ?_
    have e1 := pm_nat h4.1
    have e2 : x.toNatClampNeg < 24 := pm_lt h4.1 h4.2 (by decide)
    refine g_iald (pc := 15) C dX7_warmth_15 (by first | rfl | assumption) (by decide) (by first | rfl | assumption) (by first | assumption | decide | omega) ?_
    refine g_bipush (pc := 16) (v := 100) C dX7_warmth_16 (by decide) ?_
    refine g_iadd (pc := 18) C dX7_warmth_18 ?_
    refine g_goto (pc := 19) (tgt := 23) C dX7_warmth_19 (by decide) ?_
    refine g_iret (pc := 23) C C2 dX7_warmth_23 rfl (Nat.le_refl _) (Nat.le_refl _) ?_
    clear C C2
    exact ⟨by grind [pm_b], rfl, rfl, rfl⟩

set_option maxHeartbeats 4000000 in
set_option maxRecDepth 100000 in
theorem c_X7_warm {d : Nat} {x v : Int32} {I : pm_I} {J : pm_J} : pm_M (d + 2) 0 0 yX7_warm cX7_warm 4 (some .int) [.ref 0, .int x, .int v] SHP I J (pm_D (some (.int (if (0 ≤ x ∧ x ≤ 23) ∧ -20 ≤ v ∧ v ≤ 40 then I 2 x.toNatClampNeg + 100 else -1))) SHP (if (0 ≤ x ∧ x ≤ 23) ∧ -20 ≤ v ∧ v ≤ 40 then pm_u I 2 x.toNatClampNeg v else I) J) := by
  refine pm_start (own := RX7) (nm := "warm") (by decide) rfl rfl (L := [(0, .ref 0), (1, .int x), (2, .int v)]) rfl (Nat.le_of_ble_eq_true rfl) (fun Γ C C2 => ?_)
  refine g_iload_n (pc := 0) (i := 1) (j := 1) C dX7_warm_0 rfl rfl ?_
  refine g_callS (pc := 1) C dX7_warm_1 lmX7_96 kcX7_isHour (by decide) (c_X7_isHour) rfl rfl (Nat.le_of_ble_eq_true rfl) ?_
  intro r9 sh9 I9 J9 hD9; obtain ⟨rfl, rfl, rfl, rfl⟩ := pm_Dq hD9
  try simp only [Option.toList_some, Option.toList_none, List.cons_append, List.nil_append]
  refine g_if_eqB (pc := 4) (tgt := 18) C dX7_warm_4 (by decide) (fun h4 => ?_) (fun h4 => ?_)
  · refine g_iconst (pc := 18) (v := (-1)) C dX7_warm_18 (by decide) ?_
    refine g_iret (pc := 19) C C2 dX7_warm_19 rfl (Nat.le_refl _) (Nat.le_refl _) ?_
    clear C C2
    exact ⟨by grind, rfl, by grind, rfl⟩
  · refine g_iload_n (pc := 7) (i := 2) (j := 2) C dX7_warm_7 rfl rfl ?_
    refine g_bipush (pc := 8) (v := (-20)) C dX7_warm_8 (by decide) ?_
    refine g_bipush (pc := 10) (v := 40) C dX7_warm_10 (by decide) ?_
    refine g_callS (pc := 12) C dX7_warm_12 lmX7_72 kcX7_within (by decide) (c_X7_within) rfl rfl (Nat.le_of_ble_eq_true rfl) ?_
    intro r9 sh9 I9 J9 hD9; obtain ⟨rfl, rfl, rfl, rfl⟩ := pm_Dq hD9
    try simp only [Option.toList_some, Option.toList_none, List.cons_append, List.nil_append]
    refine g_if_neB (pc := 15) (tgt := 20) C dX7_warm_15 (by decide) (fun h15 => ?_) (fun h15 => ?_)
    · have e1 := pm_nat h4.1
      have e2 : x.toNatClampNeg < 24 := pm_lt h4.1 h4.2 (by decide)
      refine g_aload_n (pc := 20) (i := 0) (j := 0) C dX7_warm_20 rfl rfl ?_
      refine g_getR (pc := 21) C dX7_warm_21 lfX7_10 (by first | rfl | assumption) rfl ?_
      refine g_getR (pc := 24) C dX7_warm_24 lfX7_100 (by first | rfl | assumption) rfl ?_
      refine g_iload_n (pc := 27) (i := 1) (j := 1) C dX7_warm_27 rfl rfl ?_
      refine g_iald (pc := 28) C dX7_warm_28 (by first | rfl | assumption) (by decide) (by first | rfl | assumption) (by first | assumption | decide | omega) ?_
      refine g_istore_n (pc := 29) (i := 3) (L2 := [(0, _), (1, _), (2, _), (3, _)]) C dX7_warm_29 rfl (by decide) rfl ?_
      refine g_aload_n (pc := 30) (i := 0) (j := 0) C dX7_warm_30 rfl rfl ?_
      refine g_getR (pc := 31) C dX7_warm_31 lfX7_10 (by first | rfl | assumption) rfl ?_
      refine g_getR (pc := 34) C dX7_warm_34 lfX7_100 (by first | rfl | assumption) rfl ?_
      refine g_iload_n (pc := 37) (i := 1) (j := 1) C dX7_warm_37 rfl rfl ?_
      refine g_iload_n (pc := 38) (i := 2) (j := 2) C dX7_warm_38 rfl rfl ?_
      refine g_iast (pc := 39) C dX7_warm_39 (by first | rfl | assumption) (by decide) (by first | rfl | assumption) (by first | assumption | decide | omega) ?_
      refine g_iload_n (pc := 40) (i := 3) (j := 3) C dX7_warm_40 rfl rfl ?_
      refine g_bipush (pc := 41) (v := 100) C dX7_warm_41 (by decide) ?_
      refine g_iadd (pc := 43) C dX7_warm_43 ?_
      refine g_iret (pc := 44) C C2 dX7_warm_44 rfl (Nat.le_refl _) (Nat.le_refl _) ?_
      clear C C2
      exact ⟨by grind, rfl, by grind, rfl⟩
    · refine g_iconst (pc := 18) (v := (-1)) C dX7_warm_18 (by decide) ?_
      refine g_iret (pc := 19) C C2 dX7_warm_19 rfl (Nat.le_refl _) (Nat.le_refl _) ?_
      clear C C2
      exact ⟨by grind, rfl, by grind, rfl⟩
