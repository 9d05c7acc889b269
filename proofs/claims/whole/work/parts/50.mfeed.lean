/-! The model: put, item, warms, feed -/
theorem mo_40 (s k : Nat) : (40 : Int32) * nI s + nI k = nI (40 * s + k) := by rw [show (40 : Int32) = nI 40 from rfl, pk_mul, nI_add]
set_option maxHeartbeats 4000000 in
set_option maxRecDepth 100000 in
theorem c_X8_put {d : Nat} {x i v : Int32} {I : pm_I} {J : pm_J} {ln : Nat → Nat} (hln : ∀ e, e < 4 → I 115 e = nI (ln e) ∧ ln e ≤ 40)  : pm_M (d + 2) 0 0 yX8_put cX8_put 4 (some .int) [.ref 102, .int x, .int i, .int v] SHP I J (pm_D (some (.int (if 0 ≤ x ∧ x ≤ 3 then (if I 114 x.toNatClampNeg < 0 then -11 else if 0 ≤ i ∧ i ≤ I 115 x.toNatClampNeg - 1 then 1 else -12) else -1))) SHP (I) (if (0 ≤ x ∧ x ≤ 3) ∧ ¬ I 114 x.toNatClampNeg < 0 ∧ 0 ≤ i ∧ i ≤ I 115 x.toNatClampNeg - 1 then pm_uJ J 116 (40 * x.toNatClampNeg + i.toNatClampNeg) (sh_nar (I 114 x.toNatClampNeg) v).toInt64 else J)) := by
  refine pm_start (own := RX8) (nm := "put") (by decide) rfl rfl (L := [(0, .ref 102), (1, .int x), (2, .int i), (3, .int v)]) rfl (Nat.le_of_ble_eq_true rfl) (fun Γ C C2 => ?_)
  refine g_iload_n (pc := 0) (i := 1) (j := 1) C dX8_put_0 rfl rfl ?_
  refine g_callS (pc := 1) C dX8_put_1 lmX8_324 kcX8_isShelf (by decide) (c_X8_isShelf) rfl rfl (Nat.le_of_ble_eq_true rfl) ?_
  intro r9 sh9 I9 J9 hD9; obtain ⟨rfl, rfl, rfl, rfl⟩ := pm_Dq hD9; clear hD9
  try simp only [Option.toList_some, Option.toList_none, List.cons_append, List.nil_append]
  refine g_if_neB (pc := 4) (tgt := 9) C dX8_put_4 (by decide) (fun h4 => ?_) (fun h4 => ?_)
  · have v4 := h4
    obtain ⟨s, hs, rfl⟩ := pm_ix (N := 4) h4.1 h4.2 (by decide)
    have ecs : (nI s).toNatClampNeg = s := nI_clamp (by omega)
    refine g_aload_n (pc := 9) (i := 0) (j := 0) C dX8_put_9 rfl rfl ?_
    refine g_getR (pc := 10) C dX8_put_10 lfX8_50 (by first | rfl | assumption) rfl ?_
    refine g_iload_n (pc := 13) (i := 1) (j := 1) C dX8_put_13 rfl rfl ?_
    refine g_iald (pc := 14) C dX8_put_14 (by first | rfl | assumption) (by decide) (by first | rfl | assumption) (by first | assumption | decide | omega) ?_
    refine g_if_ge (pc := 15) (tgt := 21) C dX8_put_15 (by decide) (fun h15 => ?_) (fun h15 => ?_)
    · refine g_iload_n (pc := 21) (i := 2) (j := 2) C dX8_put_21 rfl rfl ?_
      refine g_iconst (pc := 22) (v := 0) C dX8_put_22 (by decide) ?_
      refine g_aload_n (pc := 23) (i := 0) (j := 0) C dX8_put_23 rfl rfl ?_
      refine g_getR (pc := 24) C dX8_put_24 lfX8_53 (by first | rfl | assumption) rfl ?_
      refine g_iload_n (pc := 27) (i := 1) (j := 1) C dX8_put_27 rfl rfl ?_
      refine g_iald (pc := 28) C dX8_put_28 (by first | rfl | assumption) (by decide) (by first | rfl | assumption) (by first | assumption | decide | omega) ?_
      refine g_iconst (pc := 29) (v := 1) C dX8_put_29 (by decide) ?_
      refine g_isub (pc := 30) C dX8_put_30 ?_
      refine g_callS (pc := 31) C dX8_put_31 lmX8_78 kcX8_in (by decide) (c_X8_in) rfl rfl (Nat.le_of_ble_eq_true rfl) ?_
      intro r9 sh9 I9 J9 hD9; obtain ⟨rfl, rfl, rfl, rfl⟩ := pm_Dq hD9; clear hD9
      try simp only [Option.toList_some, Option.toList_none, List.cons_append, List.nil_append]
      refine g_if_neB (pc := 34) (tgt := 40) C dX8_put_34 (by decide) (fun h34 => ?_) (fun h34 => ?_)
      · have v34 := h34
        obtain ⟨z, hz, rfl⟩ := pm_hasN (x := i) (n := ln s) (by have := (hln s hs).2; omega) (by rw [← (hln s hs).1]; exact h34)
        have ecz : (nI z).toNatClampNeg = z := nI_clamp (by have := (hln s hs).2; omega)
        have hz40 : z < 40 := by have := (hln s hs).2; omega
        refine g_aload_n (pc := 40) (i := 0) (j := 0) C dX8_put_40 rfl rfl ?_
        refine g_getR (pc := 41) C dX8_put_41 lfX8_56 (by first | rfl | assumption) rfl ?_
        refine g_bipush (pc := 44) (v := 40) C dX8_put_44 (by decide) ?_
        refine g_iload_n (pc := 46) (i := 1) (j := 1) C dX8_put_46 rfl rfl ?_
        refine g_imul (pc := 47) C dX8_put_47 ?_
        refine g_iload_n (pc := 48) (i := 2) (j := 2) C dX8_put_48 rfl rfl ?_
        refine g_iadd (pc := 49) C dX8_put_49 ?_
        refine g_aload_n (pc := 50) (i := 0) (j := 0) C dX8_put_50 rfl rfl ?_
        refine g_getR (pc := 51) C dX8_put_51 lfX8_50 (by first | rfl | assumption) rfl ?_
        refine g_iload_n (pc := 54) (i := 1) (j := 1) C dX8_put_54 rfl rfl ?_
        refine g_iald (pc := 55) C dX8_put_55 (by first | rfl | assumption) (by decide) (by first | rfl | assumption) (by first | assumption | decide | omega) ?_
        refine g_if_ne (pc := 56) (tgt := 65) C dX8_put_56 (by decide) (fun h56 => ?_) (fun h56 => ?_)
        · refine g_aload_n (pc := 65) (i := 0) (j := 0) C dX8_put_65 rfl rfl ?_
          refine g_getR (pc := 66) C dX8_put_66 lfX8_50 (by first | rfl | assumption) rfl ?_
          refine g_iload_n (pc := 69) (i := 1) (j := 1) C dX8_put_69 rfl rfl ?_
          refine g_iald (pc := 70) C dX8_put_70 (by first | rfl | assumption) (by decide) (by first | rfl | assumption) (by first | assumption | decide | omega) ?_
          refine g_iconst (pc := 71) (v := 1) C dX8_put_71 (by decide) ?_
          refine g_icmp_ne (pc := 72) (tgt := 81) C dX8_put_72 (by decide) (fun h72 => ?_) (fun h72 => ?_)
          · refine g_iload_n (pc := 81) (i := 3) (j := 3) C dX8_put_81 rfl rfl ?_
            refine g_i2l (pc := 82) C dX8_put_82 ?_
            refine g_last (pc := 83) (j := 40 * s + z) C dX8_put_83 (by first | rfl | assumption) (by decide) (mo_40 s z) (by omega) ?_
            refine g_iconst (pc := 84) (v := 1) C dX8_put_84 (by decide) ?_
            refine g_iret (pc := 85) C C2 dX8_put_85 rfl (Nat.le_refl _) (Nat.le_refl _) ?_
            clear C C2 hln
            exact ⟨by grind, rfl, rfl, by first | rfl | grind [sh_nar]⟩
          · refine g_iload_n (pc := 75) (i := 3) (j := 3) C dX8_put_75 rfl rfl ?_
            refine g_i2s (pc := 76) C dX8_put_76 ?_
            refine g_i2l (pc := 77) C dX8_put_77 ?_
            refine g_goto (pc := 78) (tgt := 83) C dX8_put_78 (by decide) ?_
            refine g_last (pc := 83) (j := 40 * s + z) C dX8_put_83 (by first | rfl | assumption) (by decide) (mo_40 s z) (by omega) ?_
            refine g_iconst (pc := 84) (v := 1) C dX8_put_84 (by decide) ?_
            refine g_iret (pc := 85) C C2 dX8_put_85 rfl (Nat.le_refl _) (Nat.le_refl _) ?_
            clear C C2 hln
            exact ⟨by grind, rfl, rfl, by first | rfl | grind [sh_nar]⟩
        · refine g_iload_n (pc := 59) (i := 3) (j := 3) C dX8_put_59 rfl rfl ?_
          refine g_i2b (pc := 60) C dX8_put_60 ?_
          refine g_i2l (pc := 61) C dX8_put_61 ?_
          refine g_goto (pc := 62) (tgt := 83) C dX8_put_62 (by decide) ?_
          refine g_last (pc := 83) (j := 40 * s + z) C dX8_put_83 (by first | rfl | assumption) (by decide) (mo_40 s z) (by omega) ?_
          refine g_iconst (pc := 84) (v := 1) C dX8_put_84 (by decide) ?_
          refine g_iret (pc := 85) C C2 dX8_put_85 rfl (Nat.le_refl _) (Nat.le_refl _) ?_
          clear C C2 hln
          exact ⟨by grind, rfl, rfl, by first | rfl | grind [sh_nar]⟩
      · refine g_bipush (pc := 37) (v := (-12)) C dX8_put_37 (by decide) ?_
        refine g_iret (pc := 39) C C2 dX8_put_39 rfl (Nat.le_refl _) (Nat.le_refl _) ?_
        clear C C2 hln
        exact ⟨by grind, rfl, rfl, by first | rfl | grind [sh_nar]⟩
    · refine g_bipush (pc := 18) (v := (-11)) C dX8_put_18 (by decide) ?_
      refine g_iret (pc := 20) C C2 dX8_put_20 rfl (Nat.le_refl _) (Nat.le_refl _) ?_
      clear C C2 hln
      exact ⟨by grind, rfl, rfl, by first | rfl | grind [sh_nar]⟩
  · refine g_iconst (pc := 7) (v := (-1)) C dX8_put_7 (by decide) ?_
    refine g_iret (pc := 8) C C2 dX8_put_8 rfl (Nat.le_refl _) (Nat.le_refl _) ?_
    clear C C2 hln
    exact ⟨by grind, rfl, rfl, by first | rfl | grind [sh_nar]⟩

set_option maxHeartbeats 4000000 in
set_option maxRecDepth 100000 in
theorem c_X8_item {d : Nat} {x w i : Int32} {I : pm_I} {J : pm_J} {ln : Nat → Nat} (hln : ∀ e, e < 4 → I 115 e = nI (ln e) ∧ ln e ≤ 40)  : pm_M (d + 2) 0 0 yX8_item cX8_item 5 (some .int) [.ref 102, .int x, .int w, .int i] SHP I J (pm_D (some (.int (if (0 ≤ x ∧ x ≤ 3) ∧ 0 ≤ w ∧ w ≤ 3 then (if I 114 x.toNatClampNeg < 0 then -11 else if I 114 x.toNatClampNeg = w then (if 0 ≤ i ∧ i ≤ I 115 x.toNatClampNeg - 1 then (J 116 (40 * x.toNatClampNeg + i.toNatClampNeg)).toInt32 else -12) else -13) else -1))) SHP I J) := by
  refine pm_start (own := RX8) (nm := "item") (by decide) rfl rfl (L := [(0, .ref 102), (1, .int x), (2, .int w), (3, .int i)]) rfl (Nat.le_of_ble_eq_true rfl) (fun Γ C C2 => ?_)
  refine g_iload_n (pc := 0) (i := 1) (j := 1) C dX8_item_0 rfl rfl ?_
  refine g_callS (pc := 1) C dX8_item_1 lmX8_324 kcX8_isShelf (by decide) (c_X8_isShelf) rfl rfl (Nat.le_of_ble_eq_true rfl) ?_
  intro r9 sh9 I9 J9 hD9; obtain ⟨rfl, rfl, rfl, rfl⟩ := pm_Dq hD9; clear hD9
  try simp only [Option.toList_some, Option.toList_none, List.cons_append, List.nil_append]
  refine g_if_eqB (pc := 4) (tgt := 16) C dX8_item_4 (by decide) (fun h4 => ?_) (fun h4 => ?_)
  · refine g_iconst (pc := 16) (v := (-1)) C dX8_item_16 (by decide) ?_
    refine g_iret (pc := 17) C C2 dX8_item_17 rfl (Nat.le_refl _) (Nat.le_refl _) ?_
    clear C C2 hln
    exact ⟨by grind, rfl, rfl, rfl⟩
  · refine g_iload_n (pc := 7) (i := 2) (j := 2) C dX8_item_7 rfl rfl ?_
    refine g_iconst (pc := 8) (v := 0) C dX8_item_8 (by decide) ?_
    refine g_iconst (pc := 9) (v := 3) C dX8_item_9 (by decide) ?_
    refine g_callS (pc := 10) C dX8_item_10 lmX8_78 kcX8_in (by decide) (c_X8_in) rfl rfl (Nat.le_of_ble_eq_true rfl) ?_
    intro r9 sh9 I9 J9 hD9; obtain ⟨rfl, rfl, rfl, rfl⟩ := pm_Dq hD9; clear hD9
    try simp only [Option.toList_some, Option.toList_none, List.cons_append, List.nil_append]
    refine g_if_neB (pc := 13) (tgt := 18) C dX8_item_13 (by decide) (fun h13 => ?_) (fun h13 => ?_)
    · have v4 := h4
      obtain ⟨s, hs, rfl⟩ := pm_ix (N := 4) h4.1 h4.2 (by decide)
      have ecs : (nI s).toNatClampNeg = s := nI_clamp (by omega)
      refine g_aload_n (pc := 18) (i := 0) (j := 0) C dX8_item_18 rfl rfl ?_
      refine g_iload_n (pc := 19) (i := 1) (j := 1) C dX8_item_19 rfl rfl ?_
      refine g_iload_n (pc := 20) (i := 2) (j := 2) C dX8_item_20 rfl rfl ?_
      refine g_callV (pc := 21) C dX8_item_21 lmX8_327 kcX8_lacksSort (by decide) (by first | rfl | assumption) (c_X8_lacksSort hs) rfl rfl (Nat.le_of_ble_eq_true rfl) ?_
      intro r9 sh9 I9 J9 hD9; obtain ⟨rfl, rfl, rfl, rfl⟩ := pm_Dq hD9; clear hD9
      try simp only [Option.toList_some, Option.toList_none, List.cons_append, List.nil_append]
      refine g_istore (pc := 24) (L2 := [(0, _), (1, _), (2, _), (3, _), (4, _)]) C dX8_item_24 (by decide) rfl ?_
      refine g_iload (pc := 26) (j := 4) C dX8_item_26 rfl ?_
      refine g_if_eq (pc := 28) (tgt := 34) C dX8_item_28 (by decide) (fun h28 => ?_) (fun h28 => ?_)
      · refine g_iload_n (pc := 34) (i := 3) (j := 3) C dX8_item_34 rfl rfl ?_
        refine g_iconst (pc := 35) (v := 0) C dX8_item_35 (by decide) ?_
        refine g_aload_n (pc := 36) (i := 0) (j := 0) C dX8_item_36 rfl rfl ?_
        refine g_getR (pc := 37) C dX8_item_37 lfX8_53 (by first | rfl | assumption) rfl ?_
        refine g_iload_n (pc := 40) (i := 1) (j := 1) C dX8_item_40 rfl rfl ?_
        refine g_iald (pc := 41) C dX8_item_41 (by first | rfl | assumption) (by decide) (by first | rfl | assumption) (by first | assumption | decide | omega) ?_
        refine g_iconst (pc := 42) (v := 1) C dX8_item_42 (by decide) ?_
        refine g_isub (pc := 43) C dX8_item_43 ?_
        refine g_callS (pc := 44) C dX8_item_44 lmX8_78 kcX8_in (by decide) (c_X8_in) rfl rfl (Nat.le_of_ble_eq_true rfl) ?_
        intro r9 sh9 I9 J9 hD9; obtain ⟨rfl, rfl, rfl, rfl⟩ := pm_Dq hD9; clear hD9
        try simp only [Option.toList_some, Option.toList_none, List.cons_append, List.nil_append]
        refine g_if_eqB (pc := 47) (tgt := 65) C dX8_item_47 (by decide) (fun h47 => ?_) (fun h47 => ?_)
        · refine g_bipush (pc := 65) (v := (-12)) C dX8_item_65 (by decide) ?_
          refine g_iret (pc := 67) C C2 dX8_item_67 rfl (Nat.le_refl _) (Nat.le_refl _) ?_
          clear C C2 hln
          exact ⟨by grind, rfl, rfl, rfl⟩
        · have v47 := h47
          obtain ⟨z, hz, rfl⟩ := pm_hasN (x := i) (n := ln s) (by have := (hln s hs).2; omega) (by rw [← (hln s hs).1]; exact h47)
          have ecz : (nI z).toNatClampNeg = z := nI_clamp (by have := (hln s hs).2; omega)
          have hz40 : z < 40 := by have := (hln s hs).2; omega
          refine g_aload_n (pc := 50) (i := 0) (j := 0) C dX8_item_50 rfl rfl ?_
          refine g_getR (pc := 51) C dX8_item_51 lfX8_56 (by first | rfl | assumption) rfl ?_
          refine g_bipush (pc := 54) (v := 40) C dX8_item_54 (by decide) ?_
          refine g_iload_n (pc := 56) (i := 1) (j := 1) C dX8_item_56 rfl rfl ?_
          refine g_imul (pc := 57) C dX8_item_57 ?_
          refine g_iload_n (pc := 58) (i := 3) (j := 3) C dX8_item_58 rfl rfl ?_
          refine g_iadd (pc := 59) C dX8_item_59 ?_
          refine g_lald (pc := 60) (j := 40 * s + z) C dX8_item_60 (by first | rfl | assumption) (by decide) (mo_40 s z) (by omega) ?_
          refine g_l2i (pc := 61) C dX8_item_61 ?_
          refine g_goto (pc := 62) (tgt := 67) C dX8_item_62 (by decide) ?_
          refine g_iret (pc := 67) C C2 dX8_item_67 rfl (Nat.le_refl _) (Nat.le_refl _) ?_
          clear C C2 hln
          exact ⟨by grind, rfl, rfl, rfl⟩
      · refine g_iload (pc := 31) (j := 4) C dX8_item_31 rfl ?_
        refine g_iret (pc := 33) C C2 dX8_item_33 rfl (Nat.le_refl _) (Nat.le_refl _) ?_
        clear C C2 hln
        exact ⟨by grind, rfl, rfl, rfl⟩
    · refine g_iconst (pc := 16) (v := (-1)) C dX8_item_16 (by decide) ?_
      refine g_iret (pc := 17) C C2 dX8_item_17 rfl (Nat.le_refl _) (Nat.le_refl _) ?_
      clear C C2 hln
      exact ⟨by grind, rfl, rfl, rfl⟩

set_option maxHeartbeats 4000000 in
set_option maxRecDepth 100000 in
theorem c_X8_warms {d : Nat} {I : pm_I} {J : pm_J} {s h c i m : Nat} (hs : s < 4) (hh : h < 24) (hc : h + c ≤ 24) (hs0 : I 114 s = 0) (hln : I 115 s = nI m) (hm : m ≤ 40) (him : i + c ≤ m) : pm_M (d + 2) 0 0 yX8_warms cX8_warms 9 (some .int) [.ref 102, .int (nI s), .int (nI i), .int (nI h), .int (nI c)] SHP I J (pm_D (some (.int (nI c))) SHP (pm_s I 103 (mw_row (I 103) (J 116) (40 * s + i) h c)) J) := by
  refine pm_start (own := RX8) (nm := "warms") (by decide) rfl rfl (L := [(0, .ref 102), (1, .int (nI s)), (2, .int (nI i)), (3, .int (nI h)), (4, .int (nI c))]) rfl (Nat.le_of_ble_eq_true rfl) (fun Γ C C2 => ?_)
  have emc : nI m - nI c = nI (m - c) := by
    have h1 : nI (m - c) + nI c = nI m := by rw [nI_add]; congr 1; omega
    rw [← h1]
    exact Int32.add_sub_cancel _ _
  have elk : (if I 114 s < 0 then (-11 : Int32) else if I 114 s = 0 then 0 else -13) = 0 := by rw [hs0, if_neg (by decide), if_pos rfl]
  have hloop : ∀ j, j ≤ c → pm_G Γ 0 0 75 [(0, .ref 102), (1, .int (nI s)), (2, .int (nI i)), (3, .int (nI h)), (4, .int (nI c)), (5, .int 0), (6, .int (nI j))] [] SHP (pm_s I 103 (mw_row (I 103) (J 116) (40 * s + i) h j)) J := by
    refine pm_up (fun j => pm_G Γ 0 0 75 [(0, .ref 102), (1, .int (nI s)), (2, .int (nI i)), (3, .int (nI h)), (4, .int (nI c)), (5, .int 0), (6, .int (nI j))] [] SHP (pm_s I 103 (mw_row (I 103) (J 116) (40 * s + i) h j)) J) c (fun j hj ih => ?_)
    refine g_iload (pc := 75) (j := 6) C dX8_warms_75 rfl ?_
    refine g_iload (pc := 77) (j := 4) C dX8_warms_77 rfl ?_
    refine g_icmp_ge (pc := 79) (tgt := 144) C dX8_warms_79 (by decide) (fun h79 => ?_) (fun h79 => ?_)
    · have ej : j = c := by (try rw [hn] at h79); have := (nI_leI (a := c) (b := j) (by omega) (by omega)).mp h79; omega
      subst ej
      refine g_iload (pc := 144) (j := 4) C dX8_warms_144 rfl ?_
      refine g_iret (pc := 146) C C2 dX8_warms_146 rfl (Nat.le_refl _) (Nat.le_refl _) ?_
      exact ⟨rfl, rfl, rfl, rfl⟩
    · have hlt : j < c := by (try rw [hn] at h79); exact Nat.lt_of_not_le (fun q => h79 ((nI_leI (a := c) (b := j) (by omega) (by omega)).mpr q))
      refine g_aload_n (pc := 82) (i := 0) (j := 0) C dX8_warms_82 rfl rfl ?_
      refine g_getR (pc := 83) C dX8_warms_83 lfX8_56 (by first | rfl | assumption) rfl ?_
      refine g_bipush (pc := 86) (v := 40) C dX8_warms_86 (by decide) ?_
      refine g_iload_n (pc := 88) (i := 1) (j := 1) C dX8_warms_88 rfl rfl ?_
      refine g_imul (pc := 89) C dX8_warms_89 ?_
      refine g_iload_n (pc := 90) (i := 2) (j := 2) C dX8_warms_90 rfl rfl ?_
      refine g_iadd (pc := 91) C dX8_warms_91 ?_
      refine g_iload (pc := 92) (j := 6) C dX8_warms_92 rfl ?_
      refine g_iadd (pc := 94) C dX8_warms_94 ?_
      refine g_lald (pc := 95) (j := 40 * s + i + j) C dX8_warms_95 (by first | rfl | assumption) (by decide) (show (40 : Int32) * nI s + nI i + nI j = nI (40 * s + i + j) by rw [mo_40, nI_add]) (by omega) ?_
      refine g_lstore (pc := 96) (L2 := [(0, _), (1, _), (2, _), (3, _), (4, _), (5, _), (6, _), (7, _)]) C dX8_warms_96 (by decide) rfl ?_
      refine g_aload_n (pc := 98) (i := 0) (j := 0) C dX8_warms_98 rfl rfl ?_
      refine g_getR (pc := 99) C dX8_warms_99 lfX8_7 (by first | rfl | assumption) rfl ?_
      refine g_iload_n (pc := 102) (i := 3) (j := 3) C dX8_warms_102 rfl rfl ?_
      refine g_iload (pc := 103) (j := 6) C dX8_warms_103 rfl ?_
      refine g_iadd (pc := 105) C dX8_warms_105 ?_
      refine g_lload (pc := 106) (j := 7) C dX8_warms_106 rfl ?_
      refine g_ldc2 (pc := 108) C dX8_warms_108 lcX8_330 ?_
      refine g_lcmp (pc := 111) C dX8_warms_111 ?_
      refine g_if_ge (pc := 112) (tgt := 120) C dX8_warms_112 (by decide) (fun h112 => ?_) (fun h112 => ?_)
      · refine g_lload (pc := 120) (j := 7) C dX8_warms_120 rfl ?_
        refine g_ldc2 (pc := 122) C dX8_warms_122 lcX8_332 ?_
        refine g_lcmp (pc := 125) C dX8_warms_125 ?_
        refine g_if_le (pc := 126) (tgt := 134) C dX8_warms_126 (by decide) (fun h126 => ?_) (fun h126 => ?_)
        · refine g_lload (pc := 134) (j := 7) C dX8_warms_134 rfl ?_
          refine g_l2i (pc := 136) C dX8_warms_136 ?_
          refine g_iast (pc := 137) (j := h + j) C dX8_warms_137 (by first | rfl | assumption) (by decide) (nI_add _ _) (by omega) ?_
          refine g_iinc (pc := 138) (j := 6) (v := _ + 1) (L2 := [(0, _), (1, _), (2, _), (3, _), (4, _), (5, _), (6, _), (7, _)]) C dX8_warms_138 rfl rfl (by decide) rfl ?_
          refine g_goto (pc := 141) (tgt := 75) C dX8_warms_141 (by decide) ?_
          refine pm_drop (L := [(0, _), (1, _), (2, _), (3, _), (4, _), (5, _), (6, _)]) ?_ [0, 1, 2, 3, 4, 5, 6] rfl
          refine pm_Geq (ih hlt) (by simp only [nI_1]) rfl ?_ rfl
          rw [pm_u_s, pm_s_at, pm_s_s]
          congr 1
          funext k
          try rw [lg_cmp_ge] at h112
          try rw [lg_cmp_le] at h126
          unfold mw_row upd
          have ek : h + j - h = j := by omega
          by_cases e : k = h + j
          · subst e
            rw [if_pos rfl, if_pos (by omega), ek]
            first | (rw [if_pos (Int64.not_le.mp h112)]) | (rw [if_neg (Int64.not_lt.mpr h112), if_neg (Int64.not_lt.mpr h126)]) | (rw [if_neg (Int64.not_lt.mpr h112), if_pos (Int64.not_le.mp h126)])
          · rw [if_neg e]
            dsimp only
            by_cases e2 : h ≤ k ∧ k < h + j
            · rw [if_pos e2, if_pos (show h ≤ k ∧ k < h + (j + 1) by omega)]
            · rw [if_neg e2, if_neg (show ¬ (h ≤ k ∧ k < h + (j + 1)) by omega)]
        · refine g_bipush (pc := 129) (v := 40) C dX8_warms_129 (by decide) ?_
          refine g_goto (pc := 131) (tgt := 137) C dX8_warms_131 (by decide) ?_
          refine g_iast (pc := 137) (j := h + j) C dX8_warms_137 (by first | rfl | assumption) (by decide) (nI_add _ _) (by omega) ?_
          refine g_iinc (pc := 138) (j := 6) (v := _ + 1) (L2 := [(0, _), (1, _), (2, _), (3, _), (4, _), (5, _), (6, _), (7, _)]) C dX8_warms_138 rfl rfl (by decide) rfl ?_
          refine g_goto (pc := 141) (tgt := 75) C dX8_warms_141 (by decide) ?_
          refine pm_drop (L := [(0, _), (1, _), (2, _), (3, _), (4, _), (5, _), (6, _)]) ?_ [0, 1, 2, 3, 4, 5, 6] rfl
          refine pm_Geq (ih hlt) (by simp only [nI_1]) rfl ?_ rfl
          rw [pm_u_s, pm_s_at, pm_s_s]
          congr 1
          funext k
          try rw [lg_cmp_ge] at h112
          try rw [lg_cmp_le] at h126
          unfold mw_row upd
          have ek : h + j - h = j := by omega
          by_cases e : k = h + j
          · subst e
            rw [if_pos rfl, if_pos (by omega), ek]
            first | (rw [if_pos (Int64.not_le.mp h112)]) | (rw [if_neg (Int64.not_lt.mpr h112), if_neg (Int64.not_lt.mpr h126)]) | (rw [if_neg (Int64.not_lt.mpr h112), if_pos (Int64.not_le.mp h126)])
          · rw [if_neg e]
            dsimp only
            by_cases e2 : h ≤ k ∧ k < h + j
            · rw [if_pos e2, if_pos (show h ≤ k ∧ k < h + (j + 1) by omega)]
            · rw [if_neg e2, if_neg (show ¬ (h ≤ k ∧ k < h + (j + 1)) by omega)]
      · refine g_bipush (pc := 115) (v := (-20)) C dX8_warms_115 (by decide) ?_
        refine g_goto (pc := 117) (tgt := 137) C dX8_warms_117 (by decide) ?_
        refine g_iast (pc := 137) (j := h + j) C dX8_warms_137 (by first | rfl | assumption) (by decide) (nI_add _ _) (by omega) ?_
        refine g_iinc (pc := 138) (j := 6) (v := _ + 1) (L2 := [(0, _), (1, _), (2, _), (3, _), (4, _), (5, _), (6, _), (7, _)]) C dX8_warms_138 rfl rfl (by decide) rfl ?_
        refine g_goto (pc := 141) (tgt := 75) C dX8_warms_141 (by decide) ?_
        refine pm_drop (L := [(0, _), (1, _), (2, _), (3, _), (4, _), (5, _), (6, _)]) ?_ [0, 1, 2, 3, 4, 5, 6] rfl
        refine pm_Geq (ih hlt) (by simp only [nI_1]) rfl ?_ rfl
        rw [pm_u_s, pm_s_at, pm_s_s]
        congr 1
        funext k
        try rw [lg_cmp_ge] at h112
        try rw [lg_cmp_le] at h126
        unfold mw_row upd
        have ek : h + j - h = j := by omega
        by_cases e : k = h + j
        · subst e
          rw [if_pos rfl, if_pos (by omega), ek]
          first | (rw [if_pos (Int64.not_le.mp h112)]) | (rw [if_neg (Int64.not_lt.mpr h112), if_neg (Int64.not_lt.mpr h126)]) | (rw [if_neg (Int64.not_lt.mpr h112), if_pos (Int64.not_le.mp h126)])
        · rw [if_neg e]
          dsimp only
          by_cases e2 : h ≤ k ∧ k < h + j
          · rw [if_pos e2, if_pos (show h ≤ k ∧ k < h + (j + 1) by omega)]
          · rw [if_neg e2, if_neg (show ¬ (h ≤ k ∧ k < h + (j + 1)) by omega)]
  refine g_iload_n (pc := 0) (i := 1) (j := 1) C dX8_warms_0 rfl rfl ?_
  refine g_callS (pc := 1) C dX8_warms_1 lmX8_324 kcX8_isShelf (by decide) (c_X8_isShelf) rfl rfl (Nat.le_of_ble_eq_true rfl) ?_
  intro r9 sh9 I9 J9 hD9; obtain ⟨rfl, rfl, rfl, rfl⟩ := pm_Dq hD9; clear hD9
  try simp only [Option.toList_some, Option.toList_none, List.cons_append, List.nil_append]
  refine g_if_eqB (pc := 4) (tgt := 34) C dX8_warms_4 (by decide) (fun h4 => absurd ⟨by exact nI_pos' (by omega), by exact nI_le (a := s) (b := 3) (by omega) (by decide)⟩ h4) (fun h4 => ?_)
  refine g_iload_n (pc := 7) (i := 3) (j := 3) C dX8_warms_7 rfl rfl ?_
  refine g_callS (pc := 8) C dX8_warms_8 lmX8_205 kcX8_isHour (by decide) (c_X8_isHour) rfl rfl (Nat.le_of_ble_eq_true rfl) ?_
  intro r9 sh9 I9 J9 hD9; obtain ⟨rfl, rfl, rfl, rfl⟩ := pm_Dq hD9; clear hD9
  try simp only [Option.toList_some, Option.toList_none, List.cons_append, List.nil_append]
  refine g_if_eqB (pc := 11) (tgt := 34) C dX8_warms_11 (by decide) (fun h11 => absurd ⟨by exact nI_pos' (by omega), by exact nI_le (a := h) (b := 23) (by omega) (by decide)⟩ h11) (fun h11 => ?_)
  refine g_iload (pc := 14) (j := 4) C dX8_warms_14 rfl ?_
  refine g_iconst (pc := 16) (v := 0) C dX8_warms_16 (by decide) ?_
  refine g_bipush (pc := 17) (v := 24) C dX8_warms_17 (by decide) ?_
  refine g_callS (pc := 19) C dX8_warms_19 lmX8_78 kcX8_in (by decide) (c_X8_in) rfl rfl (Nat.le_of_ble_eq_true rfl) ?_
  intro r9 sh9 I9 J9 hD9; obtain ⟨rfl, rfl, rfl, rfl⟩ := pm_Dq hD9; clear hD9
  try simp only [Option.toList_some, Option.toList_none, List.cons_append, List.nil_append]
  refine g_if_eqB (pc := 22) (tgt := 34) C dX8_warms_22 (by decide) (fun h22 => absurd ⟨by exact nI_pos' (by omega), by exact nI_le (a := c) (b := 24) (by omega) (by decide)⟩ h22) (fun h22 => ?_)
  refine g_iload_n (pc := 25) (i := 3) (j := 3) C dX8_warms_25 rfl rfl ?_
  refine g_iload (pc := 26) (j := 4) C dX8_warms_26 rfl ?_
  refine g_iadd (pc := 28) C dX8_warms_28 ?_
  refine g_bipush (pc := 29) (v := 24) C dX8_warms_29 (by decide) ?_
  refine g_icmp_le (pc := 31) (tgt := 36) C dX8_warms_31 (by decide) (fun h31 => ?_) (fun h31 => absurd (by rw [nI_add]; exact nI_le (b := 24) (by omega) (by decide)) h31)
  refine g_aload_n (pc := 36) (i := 0) (j := 0) C dX8_warms_36 rfl rfl ?_
  refine g_iload_n (pc := 37) (i := 1) (j := 1) C dX8_warms_37 rfl rfl ?_
  refine g_iconst (pc := 38) (v := 0) C dX8_warms_38 (by decide) ?_
  refine g_callV (pc := 39) C dX8_warms_39 lmX8_327 kcX8_lacksSort (by decide) (by first | rfl | assumption) (c_X8_lacksSort hs) rfl rfl (Nat.le_of_ble_eq_true rfl) ?_
  intro r9 sh9 I9 J9 hD9; obtain ⟨rfl, rfl, rfl, rfl⟩ := pm_Dq hD9; clear hD9
  try simp only [Option.toList_some, Option.toList_none, List.cons_append, List.nil_append]
  rw [elk]
  refine g_istore (pc := 42) (L2 := [(0, _), (1, _), (2, _), (3, _), (4, _), (5, _)]) C dX8_warms_42 (by decide) rfl ?_
  refine g_iload (pc := 44) (j := 5) C dX8_warms_44 rfl ?_
  refine g_if_eq (pc := 46) (tgt := 52) C dX8_warms_46 (by decide) (fun h46 => ?_) (fun h46 => absurd (by decide : (0 : Int32) = 0) h46)
  refine g_iload_n (pc := 52) (i := 2) (j := 2) C dX8_warms_52 rfl rfl ?_
  refine g_if_lt (pc := 53) (tgt := 69) C dX8_warms_53 (by decide) (fun h53 => absurd h53 (nI_pos (by omega))) (fun h53 => ?_)
  refine g_iload_n (pc := 56) (i := 2) (j := 2) C dX8_warms_56 rfl rfl ?_
  refine g_aload_n (pc := 57) (i := 0) (j := 0) C dX8_warms_57 rfl rfl ?_
  refine g_getR (pc := 58) C dX8_warms_58 lfX8_53 (by first | rfl | assumption) rfl ?_
  refine g_iload_n (pc := 61) (i := 1) (j := 1) C dX8_warms_61 rfl rfl ?_
  refine g_iald (pc := 62) C dX8_warms_62 (by first | rfl | assumption) (by decide) (by first | rfl | assumption) (by first | assumption | decide | omega) ?_
  refine g_iload (pc := 63) (j := 4) C dX8_warms_63 rfl ?_
  refine g_isub (pc := 65) C dX8_warms_65 ?_
  refine g_icmp_le (pc := 66) (tgt := 72) C dX8_warms_66 (by decide) (fun h66 => ?_) (fun h66 => absurd (by rw [hln, emc]; exact nI_le (by omega) (by omega)) h66)
  refine g_iconst (pc := 72) (v := 0) C dX8_warms_72 (by decide) ?_
  refine g_istore (pc := 73) (L2 := [(0, _), (1, _), (2, _), (3, _), (4, _), (5, _), (6, _)]) C dX8_warms_73 (by decide) rfl ?_
  refine pm_Geq (hloop 0 (Nat.zero_le _)) rfl rfl ?_ rfl
  funext a
  by_cases e : a = 103
  · subst e; rw [pm_s_at]; funext k; unfold mw_row; rw [if_neg (by omega)]
  · rw [pm_s_off _ _ _ _ e]

set_option maxHeartbeats 4000000 in
set_option maxRecDepth 100000 in
theorem c_X8_warms0 {d : Nat} {x i h c : Int32} {I : pm_I} {J : pm_J} (hv : ¬ (((0 ≤ x ∧ x ≤ 3) ∧ (0 ≤ h ∧ h ≤ 23) ∧ (0 ≤ c ∧ c ≤ 24) ∧ h + c ≤ 24) ∧ I 114 x.toNatClampNeg = 0 ∧ 0 ≤ i ∧ i ≤ I 115 x.toNatClampNeg - c)) : pm_M (d + 2) 0 0 yX8_warms cX8_warms 9 (some .int) [.ref 102, .int x, .int i, .int h, .int c] SHP I J (pm_D (some (.int (if (0 ≤ x ∧ x ≤ 3) ∧ (0 ≤ h ∧ h ≤ 23) ∧ (0 ≤ c ∧ c ≤ 24) ∧ h + c ≤ 24 then (if I 114 x.toNatClampNeg < 0 then -11 else if I 114 x.toNatClampNeg = 0 then -12 else -13) else -1))) SHP I J) := by
  refine pm_start (own := RX8) (nm := "warms") (by decide) rfl rfl (L := [(0, .ref 102), (1, .int x), (2, .int i), (3, .int h), (4, .int c)]) rfl (Nat.le_of_ble_eq_true rfl) (fun Γ C C2 => ?_)
  refine g_iload_n (pc := 0) (i := 1) (j := 1) C dX8_warms_0 rfl rfl ?_
  refine g_callS (pc := 1) C dX8_warms_1 lmX8_324 kcX8_isShelf (by decide) (c_X8_isShelf) rfl rfl (Nat.le_of_ble_eq_true rfl) ?_
  intro r9 sh9 I9 J9 hD9; obtain ⟨rfl, rfl, rfl, rfl⟩ := pm_Dq hD9; clear hD9
  try simp only [Option.toList_some, Option.toList_none, List.cons_append, List.nil_append]
  refine g_if_eqB (pc := 4) (tgt := 34) C dX8_warms_4 (by decide) (fun h4 => ?_) (fun h4 => ?_)
  · refine g_iconst (pc := 34) (v := (-1)) C dX8_warms_34 (by decide) ?_
    refine g_iret (pc := 35) C C2 dX8_warms_35 rfl (Nat.le_refl _) (Nat.le_refl _) ?_
    clear C C2
    exact ⟨by grind, rfl, rfl, rfl⟩
  · refine g_iload_n (pc := 7) (i := 3) (j := 3) C dX8_warms_7 rfl rfl ?_
    refine g_callS (pc := 8) C dX8_warms_8 lmX8_205 kcX8_isHour (by decide) (c_X8_isHour) rfl rfl (Nat.le_of_ble_eq_true rfl) ?_
    intro r9 sh9 I9 J9 hD9; obtain ⟨rfl, rfl, rfl, rfl⟩ := pm_Dq hD9; clear hD9
    try simp only [Option.toList_some, Option.toList_none, List.cons_append, List.nil_append]
    refine g_if_eqB (pc := 11) (tgt := 34) C dX8_warms_11 (by decide) (fun h11 => ?_) (fun h11 => ?_)
    · refine g_iconst (pc := 34) (v := (-1)) C dX8_warms_34 (by decide) ?_
      refine g_iret (pc := 35) C C2 dX8_warms_35 rfl (Nat.le_refl _) (Nat.le_refl _) ?_
      clear C C2
      exact ⟨by grind, rfl, rfl, rfl⟩
    · refine g_iload (pc := 14) (j := 4) C dX8_warms_14 rfl ?_
      refine g_iconst (pc := 16) (v := 0) C dX8_warms_16 (by decide) ?_
      refine g_bipush (pc := 17) (v := 24) C dX8_warms_17 (by decide) ?_
      refine g_callS (pc := 19) C dX8_warms_19 lmX8_78 kcX8_in (by decide) (c_X8_in) rfl rfl (Nat.le_of_ble_eq_true rfl) ?_
      intro r9 sh9 I9 J9 hD9; obtain ⟨rfl, rfl, rfl, rfl⟩ := pm_Dq hD9; clear hD9
      try simp only [Option.toList_some, Option.toList_none, List.cons_append, List.nil_append]
      refine g_if_eqB (pc := 22) (tgt := 34) C dX8_warms_22 (by decide) (fun h22 => ?_) (fun h22 => ?_)
      · refine g_iconst (pc := 34) (v := (-1)) C dX8_warms_34 (by decide) ?_
        refine g_iret (pc := 35) C C2 dX8_warms_35 rfl (Nat.le_refl _) (Nat.le_refl _) ?_
        clear C C2
        exact ⟨by grind, rfl, rfl, rfl⟩
      · refine g_iload_n (pc := 25) (i := 3) (j := 3) C dX8_warms_25 rfl rfl ?_
        refine g_iload (pc := 26) (j := 4) C dX8_warms_26 rfl ?_
        refine g_iadd (pc := 28) C dX8_warms_28 ?_
        refine g_bipush (pc := 29) (v := 24) C dX8_warms_29 (by decide) ?_
        refine g_icmp_le (pc := 31) (tgt := 36) C dX8_warms_31 (by decide) (fun h31 => ?_) (fun h31 => ?_)
        · have v4 := h4
          obtain ⟨s, hs, rfl⟩ := pm_ix (N := 4) h4.1 h4.2 (by decide)
          have ecs : (nI s).toNatClampNeg = s := nI_clamp (by omega)
          refine g_aload_n (pc := 36) (i := 0) (j := 0) C dX8_warms_36 rfl rfl ?_
          refine g_iload_n (pc := 37) (i := 1) (j := 1) C dX8_warms_37 rfl rfl ?_
          refine g_iconst (pc := 38) (v := 0) C dX8_warms_38 (by decide) ?_
          refine g_callV (pc := 39) C dX8_warms_39 lmX8_327 kcX8_lacksSort (by decide) (by first | rfl | assumption) (c_X8_lacksSort hs) rfl rfl (Nat.le_of_ble_eq_true rfl) ?_
          intro r9 sh9 I9 J9 hD9; obtain ⟨rfl, rfl, rfl, rfl⟩ := pm_Dq hD9; clear hD9
          try simp only [Option.toList_some, Option.toList_none, List.cons_append, List.nil_append]
          refine g_istore (pc := 42) (L2 := [(0, _), (1, _), (2, _), (3, _), (4, _), (5, _)]) C dX8_warms_42 (by decide) rfl ?_
          refine g_iload (pc := 44) (j := 5) C dX8_warms_44 rfl ?_
          refine g_if_eq (pc := 46) (tgt := 52) C dX8_warms_46 (by decide) (fun h46 => ?_) (fun h46 => ?_)
          · refine g_iload_n (pc := 52) (i := 2) (j := 2) C dX8_warms_52 rfl rfl ?_
            refine g_if_lt (pc := 53) (tgt := 69) C dX8_warms_53 (by decide) (fun h53 => ?_) (fun h53 => ?_)
            · refine g_bipush (pc := 69) (v := (-12)) C dX8_warms_69 (by decide) ?_
              refine g_iret (pc := 71) C C2 dX8_warms_71 rfl (Nat.le_refl _) (Nat.le_refl _) ?_
              clear C C2
              exact ⟨by grind, rfl, rfl, rfl⟩
            · refine g_iload_n (pc := 56) (i := 2) (j := 2) C dX8_warms_56 rfl rfl ?_
              refine g_aload_n (pc := 57) (i := 0) (j := 0) C dX8_warms_57 rfl rfl ?_
              refine g_getR (pc := 58) C dX8_warms_58 lfX8_53 (by first | rfl | assumption) rfl ?_
              refine g_iload_n (pc := 61) (i := 1) (j := 1) C dX8_warms_61 rfl rfl ?_
              refine g_iald (pc := 62) C dX8_warms_62 (by first | rfl | assumption) (by decide) (by first | rfl | assumption) (by first | assumption | decide | omega) ?_
              refine g_iload (pc := 63) (j := 4) C dX8_warms_63 rfl ?_
              refine g_isub (pc := 65) C dX8_warms_65 ?_
              refine g_icmp_le (pc := 66) (tgt := 72) C dX8_warms_66 (by decide) (fun h66 => ?_) (fun h66 => ?_)
              · exfalso
                refine hv ⟨⟨v4, h11, h22, h31⟩, ?_, Int32.not_lt.mp h53, by rw [ecs]; exact h66⟩
                rw [ecs]
                clear C C2 hv
                grind
              · refine g_bipush (pc := 69) (v := (-12)) C dX8_warms_69 (by decide) ?_
                refine g_iret (pc := 71) C C2 dX8_warms_71 rfl (Nat.le_refl _) (Nat.le_refl _) ?_
                clear C C2
                exact ⟨by grind, rfl, rfl, rfl⟩
          · refine g_iload (pc := 49) (j := 5) C dX8_warms_49 rfl ?_
            refine g_iret (pc := 51) C C2 dX8_warms_51 rfl (Nat.le_refl _) (Nat.le_refl _) ?_
            clear C C2
            exact ⟨by grind, rfl, rfl, rfl⟩
        · refine g_iconst (pc := 34) (v := (-1)) C dX8_warms_34 (by decide) ?_
          refine g_iret (pc := 35) C C2 dX8_warms_35 rfl (Nat.le_refl _) (Nat.le_refl _) ?_
          clear C C2
          exact ⟨by grind, rfl, rfl, rfl⟩

set_option maxHeartbeats 4000000 in
set_option maxRecDepth 100000 in
theorem c_X8_feed {d : Nat} {I : pm_I} {J : pm_J} {e : Int64} {x : Int32} {z : Nat} (hz : I 102 10 = nI z) (hz240 : z ≤ 240) : pm_M (d + 1) 0 0 yX8_feed cX8_feed 5 (some .int) [.ref 102, .long e, .int x] SHP I J (pm_D (some (.int (if 1 ≤ x ∧ x ≤ 8 then (if 240 < z + x.toNatClampNeg then -2 else nI (z + x.toNatClampNeg)) else -1))) SHP (if (1 ≤ x ∧ x ≤ 8) ∧ z + x.toNatClampNeg ≤ 240 then pm_s (pm_u I 102 10 (nI (z + x.toNatClampNeg))) 107 (mf_row (I 107) e z x.toNatClampNeg) else I) J) := by
  refine pm_start (own := RX8) (nm := "feed") (by decide) rfl rfl (L := [(0, .ref 102), (1, .long e), (3, .int x)]) rfl (Nat.le_of_ble_eq_true rfl) (fun Γ C C2 => ?_)
  refine g_iload_n (pc := 0) (i := 3) (j := 2) C dX8_feed_0 rfl rfl ?_
  refine g_iconst (pc := 1) (v := 1) C dX8_feed_1 (by decide) ?_
  refine g_bipush (pc := 2) (v := 8) C dX8_feed_2 (by decide) ?_
  refine g_callS (pc := 4) C dX8_feed_4 lmX8_78 kcX8_in (by decide) (c_X8_in) rfl rfl (Nat.le_of_ble_eq_true rfl) ?_
  intro r9 sh9 I9 J9 hD9; obtain ⟨rfl, rfl, rfl, rfl⟩ := pm_Dq hD9; clear hD9
  try simp only [Option.toList_some, Option.toList_none, List.cons_append, List.nil_append]
  refine g_if_neB (pc := 7) (tgt := 12) C dX8_feed_7 (by decide) (fun h7 => ?_) (fun h7 => ?_)
  · have v7 := h7
    obtain ⟨c, hc, rfl⟩ := pm_ix (N := 9) (Int32.le_trans (by decide) h7.1) h7.2 (by decide)
    have ecc : (nI c).toNatClampNeg = c := nI_clamp (by omega)
    refine g_aload_n (pc := 12) (i := 0) (j := 0) C dX8_feed_12 rfl rfl ?_
    refine g_getI (pc := 13) C dX8_feed_13 lfX8_88 (by first | rfl | assumption) rfl ?_
    refine g_iload_n (pc := 16) (i := 3) (j := 2) C dX8_feed_16 rfl rfl ?_
    refine g_iadd (pc := 17) C dX8_feed_17 ?_
    rw [hz, nI_add]
    have e240 := nI_leI (a := z + c) (b := 240) (by omega) (by decide)
    have e241 : nI 240 = 240 := rfl
    rw [e241] at e240
    refine g_sipush (pc := 18) (v := 240) C dX8_feed_18 (by decide) ?_
    refine g_icmp_le (pc := 21) (tgt := 27) C dX8_feed_21 (by decide) (fun h21 => ?_) (fun h21 => ?_)
    · have hle : z + c ≤ 240 := e240.mp h21
      refine g_iconst (pc := 27) (v := 0) C dX8_feed_27 (by decide) ?_
      refine g_istore (pc := 28) (L2 := [(0, _), (1, _), (3, _), (4, _)]) C dX8_feed_28 (by decide) rfl ?_
      have hloop : ∀ j, j ≤ c → pm_G Γ 0 0 30 [(0, .ref 102), (1, .long e), (3, .int (nI c)), (4, .int (nI j))] [] SHP (pm_s (pm_u I 102 10 (nI (z + j))) 107 (mf_row (I 107) e z j)) J := by
        refine pm_up (fun j => pm_G Γ 0 0 30 [(0, .ref 102), (1, .long e), (3, .int (nI c)), (4, .int (nI j))] [] SHP (pm_s (pm_u I 102 10 (nI (z + j))) 107 (mf_row (I 107) e z j)) J) c (fun j hj ih => ?_)
        have e10 : (pm_s (pm_u I 102 10 (nI (z + j))) 107 (mf_row (I 107) e z j)) 102 10 = nI (z + j) := by rw [pm_s_off _ _ _ _ (by decide), pm_u_at, pk_us]
        refine g_iload (pc := 30) (j := 3) C dX8_feed_30 rfl ?_
        refine g_iload_n (pc := 32) (i := 3) (j := 2) C dX8_feed_32 rfl rfl ?_
        refine g_icmp_ge (pc := 33) (tgt := 73) C dX8_feed_33 (by decide) (fun h33 => ?_) (fun h33 => ?_)
        · have ej : j = c := by (try rw [hn] at h33); have := (nI_leI (a := c) (b := j) (by omega) (by omega)).mp h33; omega
          subst ej
          refine g_aload_n (pc := 73) (i := 0) (j := 0) C dX8_feed_73 rfl rfl ?_
          refine g_getI (pc := 74) C dX8_feed_74 lfX8_88 (by first | rfl | assumption) rfl ?_
          refine g_iret (pc := 77) C C2 dX8_feed_77 rfl (Nat.le_refl _) (Nat.le_refl _) ?_
          exact ⟨by rw [if_pos v7, if_neg (by omega), e10, ecc], rfl, by rw [if_pos ⟨v7, by omega⟩, ecc], rfl⟩
        · have hlt : j < c := by (try rw [hn] at h33); exact Nat.lt_of_not_le (fun q => h33 ((nI_leI (a := c) (b := j) (by omega) (by omega)).mpr q))
          refine g_aload_n (pc := 36) (i := 0) (j := 0) C dX8_feed_36 rfl rfl ?_
          refine g_getR (pc := 37) C dX8_feed_37 lfX8_29 (by first | rfl | assumption) rfl ?_
          refine g_aload_n (pc := 40) (i := 0) (j := 0) C dX8_feed_40 rfl rfl ?_
          refine g_getI (pc := 41) C dX8_feed_41 lfX8_88 (by first | rfl | assumption) rfl ?_
          refine g_lload_n (pc := 44) (i := 1) (j := 1) C dX8_feed_44 rfl rfl ?_
          refine g_bipush (pc := 45) (v := 8) C dX8_feed_45 (by decide) ?_
          refine g_iload (pc := 47) (j := 3) C dX8_feed_47 rfl ?_
          refine g_imul (pc := 49) C dX8_feed_49 ?_
          refine g_lshr (pc := 50) C dX8_feed_50 ?_
          refine g_ldc2 (pc := 51) C dX8_feed_51 lcX8_91 ?_
          refine g_land (pc := 54) C dX8_feed_54 ?_
          refine g_l2i (pc := 55) C dX8_feed_55 ?_
          refine g_iast (pc := 56) (j := z + j) C dX8_feed_56 (by first | rfl | assumption) (by decide) e10 (by omega) ?_
          refine g_aload_n (pc := 57) (i := 0) (j := 0) C dX8_feed_57 rfl rfl ?_
          refine g_dup (pc := 58) C dX8_feed_58 rfl ?_
          refine g_getI (pc := 59) C dX8_feed_59 lfX8_88 (by first | rfl | assumption) rfl ?_
          refine g_iconst (pc := 62) (v := 1) C dX8_feed_62 (by decide) ?_
          refine g_iadd (pc := 63) C dX8_feed_63 ?_
          refine g_putI (pc := 64) C dX8_feed_64 lpX8_88 rfl rfl (by first | rfl | assumption) rfl ?_
          refine g_iinc (pc := 67) (j := 3) (v := _ + 1) (L2 := [(0, _), (1, _), (3, _), (4, _)]) C dX8_feed_67 rfl rfl (by decide) rfl ?_
          refine g_goto (pc := 70) (tgt := 30) C dX8_feed_70 (by decide) ?_
          refine pm_Geq (ih hlt) (by simp only [nI_1]) rfl ?_ rfl
          rw [pm_u_off (show (102 : Nat) ≠ 107 by decide), e10, show nI (z + j) + 1 = nI (z + (j + 1)) by rw [nI_1]; rfl]
          funext a
          by_cases e7 : a = 107
          · subst e7; rw [pm_u_off (by decide), pm_u_at, pm_s_at, pm_s_at]; funext k; have ek : z + j - z = j := by omega
            unfold mf_row upd mf_b; grind
          · rw [pm_s_off _ _ _ _ e7]
            by_cases e8 : a = 102
            · subst e8; rw [pm_u_at, pm_u_off (by decide), pm_s_off _ _ _ _ (by decide), pm_u_at, pm_u_at]; funext k; unfold upd; grind
            · rw [pm_u_off e8, pm_u_off e7, pm_s_off _ _ _ _ e7, pm_u_off e8, pm_u_off e8]
      refine pm_Geq (hloop 0 (Nat.zero_le _)) rfl rfl ?_ rfl
      funext a
      by_cases e7 : a = 107
      · subst e7; rw [pm_s_at]; funext k; unfold mf_row; rw [if_neg (by omega)]
      · rw [pm_s_off _ _ _ _ e7]
        by_cases e8 : a = 102
        · subst e8; rw [pm_u_at, Nat.add_zero, ← hz]; funext k; unfold upd; split
          · next q => rw [q]
          · rfl
        · rw [pm_u_off e8]
    · have hgt : 240 < z + c := Nat.lt_of_not_le (fun q => h21 (e240.mpr q))
      refine g_bipush (pc := 24) (v := (-2)) C dX8_feed_24 (by decide) ?_
      refine g_iret (pc := 26) C C2 dX8_feed_26 rfl (Nat.le_refl _) (Nat.le_refl _) ?_
      first | exact ⟨by rw [if_neg h7], rfl, by rw [if_neg (fun q => h7 q.1)], rfl⟩ | exact ⟨by rw [if_pos v7, ecc, if_pos hgt], rfl, by rw [if_neg (fun q => by rw [ecc] at q; omega)], rfl⟩
  · refine g_iconst (pc := 10) (v := (-1)) C dX8_feed_10 (by decide) ?_
    refine g_iret (pc := 11) C C2 dX8_feed_11 rfl (Nat.le_refl _) (Nat.le_refl _) ?_
    first | exact ⟨by rw [if_neg h7], rfl, by rw [if_neg (fun q => h7 q.1)], rfl⟩ | exact ⟨by rw [if_pos v7, ecc, if_pos hgt], rfl, by rw [if_neg (fun q => by rw [ecc] at q; omega)], rfl⟩
