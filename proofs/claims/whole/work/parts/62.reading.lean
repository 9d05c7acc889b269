/-! The class's reading: names, numbers, parts -/
theorem tk_N_lt {f : Nat → Int32} {z b : Nat} (h : ¬ tk_s f z b = 0) : b < z := Nat.lt_of_not_le (fun q => h (tk_s_0.mpr q))
def cs_kd (f : Nat → Int32) (z b : Nat) : Int32 := tr_sr (fun k => tk_nm f z b (pm_tx k).2.2) nI (-3) 6 6
theorem tx_cmp : ∀ i, i < 15 → ∀ k, k < (pm_tx i).2.2.length → 97 ≤ (pm_tx i).2.2.getD k 0 ∧ (pm_tx i).2.2.getD k 0 ≤ 122 := by decide +kernel
set_option maxHeartbeats 4000000 in
set_option maxRecDepth 100000 in
theorem c_X4_isName {d : Nat} {I : pm_I} {J : pm_J} {i : Nat} (hi : i < 15) {z b : Nat} {φ : Int32} (hz2 : z ≤ 240) (hb : b ≤ z)  : pm_M (d + 4) 0 0 yX4_isName cX4_isName 3 (some .boolean) [.ref 46, .ref (1000 + (10 + i))] SHP (tp I z b φ) J (pm_D (some (.int (pm_b (tk_nm (I 47) z b (pm_tx i).2.2)))) SHP (tp I z b φ) J) := by
  refine pm_start (own := RX4) (nm := "isName") (by decide) rfl rfl (L := [(0, .ref 46), (1, .ref (1000 + (10 + i)))]) rfl (Nat.le_of_ble_eq_true rfl) (fun Γ C C2 => ?_)
  have h7 := tx_len_le i hi
  have s3 := tk_s_le (f := I 47) (z := z) (p := b)
  have ee := tk_e_le (f := I 47) hb
  have e1 := nI_eq (a := tk_s (I 47) z b) (b := 1) (by omega) (by decide)
  have e2 := nI_eq (a := tk_e (I 47) z b - b) (b := (pm_tx i).2.2.length) (by omega) (by omega)
  have hloop : ∀ j, j ≤ (pm_tx i).2.2.length → (∀ k, k < j → I 47 (b + k) = (pm_tx i).2.2.getD k 0) → tk_s (I 47) z b = 1 → tk_e (I 47) z b - b = (pm_tx i).2.2.length → pm_G Γ 0 0 28 [(0, .ref 46), (1, .ref (1000 + (10 + i))), (2, .int (nI j))] [] SHP (tp I z b φ) J := by
    refine pm_up (fun j => (∀ k, k < j → I 47 (b + k) = (pm_tx i).2.2.getD k 0) → tk_s (I 47) z b = 1 → tk_e (I 47) z b - b = (pm_tx i).2.2.length → pm_G Γ 0 0 28 [(0, .ref 46), (1, .ref (1000 + (10 + i))), (2, .int (nI j))] [] SHP (tp I z b φ) J) (pm_tx i).2.2.length (fun j hj ih q1 q2 q3 => ?_)
    refine g_iload_n (pc := 28) (i := 2) (j := 2) C dX4_isName_28 rfl rfl ?_
    refine g_aload_n (pc := 29) (i := 1) (j := 1) C dX4_isName_29 rfl rfl ?_
    refine g_callT (pc := 30) C dX4_isName_30 lmX4_136 kcJ0_length_8abf5 (by decide) hi (c_J0_length_8abf5 hi) rfl rfl (Nat.le_of_ble_eq_true rfl) ?_
    intro r9 sh9 I9 J9 hD9; obtain ⟨rfl, rfl, rfl, rfl⟩ := pm_Dq hD9; clear hD9
    try simp only [Option.toList_some, Option.toList_none, List.cons_append, List.nil_append]
    refine g_icmp_ge (pc := 33) (tgt := 63) C dX4_isName_33 (by decide) (fun h33 => ?_) (fun h33 => ?_)
    · refine g_iconst (pc := 63) (v := 1) C dX4_isName_63 (by decide) ?_
      refine g_iret (pc := 64) C C2 dX4_isName_64 (by first | rfl | exact pm_nz) (Nat.le_refl _) (Nat.le_refl _) ?_
      refine ⟨?_, rfl, rfl, rfl⟩
      have ej : j = (pm_tx i).2.2.length := by have := (nI_leI (a := (pm_tx i).2.2.length) (b := j) (by omega) (by omega)).mp h33; omega
      rw [pm_b, if_pos ⟨q2, q3, by rw [← ej]; exact q1⟩]
    · have hlt : j < (pm_tx i).2.2.length := Nat.lt_of_not_le (fun q => h33 (nI_le q (by omega)))
      refine g_aload_n (pc := 36) (i := 0) (j := 0) C dX4_isName_36 rfl rfl ?_
      refine g_getR (pc := 37) C dX4_isName_37 lfX4_9 (by first | rfl | assumption) rfl ?_
      try simp only [tp_1, tp_2, tp_3, tp_4, tp_5, tp_47]
      refine g_aload_n (pc := 40) (i := 0) (j := 0) C dX4_isName_40 rfl rfl ?_
      refine g_getI (pc := 41) C dX4_isName_41 lfX4_22 (by first | rfl | assumption) rfl ?_
      try simp only [tp_1, tp_2, tp_3, tp_4, tp_5, tp_47]
      refine g_iload_n (pc := 44) (i := 2) (j := 2) C dX4_isName_44 rfl rfl ?_
      refine g_iadd (pc := 45) C dX4_isName_45 ?_
      rw [nI_add]
      refine g_bald (pc := 46) (j := b + j) C dX4_isName_46 (by first | rfl | assumption) (by decide) (by first | rfl | assumption) (by omega) ?_
      try simp only [tp_1, tp_2, tp_3, tp_4, tp_5, tp_47]
      refine g_aload_n (pc := 47) (i := 1) (j := 1) C dX4_isName_47 rfl rfl ?_
      refine g_iload_n (pc := 48) (i := 2) (j := 2) C dX4_isName_48 rfl rfl ?_
      refine g_callT (pc := 49) C dX4_isName_49 lmX4_141 kcJ0_charAt_5068e (by decide) hi (c_J0_charAt_5068e hi hlt) rfl rfl (Nat.le_of_ble_eq_true rfl) ?_
      intro r9 sh9 I9 J9 hD9; obtain ⟨rfl, rfl, rfl, rfl⟩ := pm_Dq hD9; clear hD9
      try simp only [Option.toList_some, Option.toList_none, List.cons_append, List.nil_append]
      refine g_icmp_eq (pc := 52) (tgt := 57) C dX4_isName_52 (by decide) (fun h52 => ?_) (fun h52 => ?_)
      · refine g_iinc (pc := 57) (j := 2) (v := _ + 1) (L2 := [(0, _), (1, _), (2, _)]) C dX4_isName_57 rfl rfl (by decide) rfl ?_
        refine g_goto (pc := 60) (tgt := 28) C dX4_isName_60 (by decide) ?_
        refine pm_Geq (ih hlt (fun k hk => ?_) q2 q3) (by simp only [nI_1]) rfl rfl rfl
        by_cases e : k = j
        · subst e
          exact h52
        · exact q1 k (by omega)
      · refine g_iconst (pc := 55) (v := 0) C dX4_isName_55 (by decide) ?_
        refine g_iret (pc := 56) C C2 dX4_isName_56 (by first | rfl | exact pm_nz) (Nat.le_refl _) (Nat.le_refl _) ?_
        refine ⟨?_, rfl, rfl, rfl⟩
        rw [pm_b, if_neg]
        intro q
        exact h52 (q.2.2 j hlt)
  refine g_aload_n (pc := 0) (i := 0) (j := 0) C dX4_isName_0 rfl rfl ?_
  refine g_getI (pc := 1) C dX4_isName_1 lfX4_19 (by first | rfl | assumption) rfl ?_
  try simp only [tp_1, tp_2, tp_3, tp_4, tp_5, tp_47]
  refine g_iconst (pc := 4) (v := 1) C dX4_isName_4 (by decide) ?_
  refine g_icmp_ne (pc := 5) (tgt := 24) C dX4_isName_5 (by decide) (fun h5 => ?_) (fun h5 => ?_)
  · refine g_iconst (pc := 24) (v := 0) C dX4_isName_24 (by decide) ?_
    refine g_iret (pc := 25) C C2 dX4_isName_25 (by first | rfl | exact pm_nz) (Nat.le_refl _) (Nat.le_refl _) ?_
    refine ⟨?_, rfl, rfl, rfl⟩
    rw [pm_b, if_neg]
    intro q
    first | exact h5 (e1.mpr q.1) | exact h21 (e2.mpr q.2.1)
  · refine g_aload_n (pc := 8) (i := 0) (j := 0) C dX4_isName_8 rfl rfl ?_
    refine g_getI (pc := 9) C dX4_isName_9 lfX4_25 (by first | rfl | assumption) rfl ?_
    try simp only [tp_1, tp_2, tp_3, tp_4, tp_5, tp_47]
    refine g_aload_n (pc := 12) (i := 0) (j := 0) C dX4_isName_12 rfl rfl ?_
    refine g_getI (pc := 13) C dX4_isName_13 lfX4_22 (by first | rfl | assumption) rfl ?_
    try simp only [tp_1, tp_2, tp_3, tp_4, tp_5, tp_47]
    refine g_isub (pc := 16) C dX4_isName_16 ?_
    rw [nI_subN (tk_e_le hb).1]
    refine g_aload_n (pc := 17) (i := 1) (j := 1) C dX4_isName_17 rfl rfl ?_
    refine g_callT (pc := 18) C dX4_isName_18 lmX4_136 kcJ0_length_8abf5 (by decide) hi (c_J0_length_8abf5 hi) rfl rfl (Nat.le_of_ble_eq_true rfl) ?_
    intro r9 sh9 I9 J9 hD9; obtain ⟨rfl, rfl, rfl, rfl⟩ := pm_Dq hD9; clear hD9
    try simp only [Option.toList_some, Option.toList_none, List.cons_append, List.nil_append]
    refine g_icmp_eq (pc := 21) (tgt := 26) C dX4_isName_21 (by decide) (fun h21 => ?_) (fun h21 => ?_)
    · refine g_iconst (pc := 26) (v := 0) C dX4_isName_26 (by decide) ?_
      refine g_istore_n (pc := 27) (i := 2) (L2 := [(0, _), (1, _), (2, _)]) C dX4_isName_27 rfl (by decide) rfl ?_
      exact hloop 0 (Nat.zero_le _) (fun k hk => absurd hk (Nat.not_lt_zero k)) (e1.mp h5) (e2.mp h21)
    · refine g_iconst (pc := 24) (v := 0) C dX4_isName_24 (by decide) ?_
      refine g_iret (pc := 25) C C2 dX4_isName_25 (by first | rfl | exact pm_nz) (Nat.le_refl _) (Nat.le_refl _) ?_
      refine ⟨?_, rfl, rfl, rfl⟩
      rw [pm_b, if_neg]
      intro q
      first | exact h5 (e1.mpr q.1) | exact h21 (e2.mpr q.2.1)

set_option maxHeartbeats 4000000 in
set_option maxRecDepth 100000 in
theorem c_X4_number {d : Nat} {I : pm_I} {J : pm_J} {z b : Nat} {φ : Int32} (hz2 : z ≤ 240) (hb : b ≤ z) {lo hi : Int32} : pm_M (d + 2) 0 0 yX4_number cX4_number 5 (some .int) [.ref 46, .int lo, .int hi] SHP (tp I z b φ) J (pm_D (some (.int (cs_v (I 47) z lo hi (b, φ)))) SHP (tps I z (cs_num (I 47) z lo hi (b, φ))) J) := by
  refine pm_start (own := RX4) (nm := "number") (by decide) rfl rfl (L := [(0, .ref 46), (1, .int lo), (2, .int hi)]) rfl (Nat.le_of_ble_eq_true rfl) (fun Γ C C2 => ?_)
  have s3 := tk_s_le (f := I 47) (z := z) (p := b)
  have ee := tk_e_le (f := I 47) hb
  have e1 := nI_eq (a := tk_s (I 47) z b) (b := 2) (by omega) (by decide)
  have e2 := nI_leI (a := tk_e (I 47) z b - b) (b := 3) (by omega) (by omega)
  have no : ¬ tk_N (I 47) z b lo hi → cs_v (I 47) z lo hi (b, φ) = lo ∧ cs_num (I 47) z lo hi (b, φ) = (b, tk_f φ b) := fun q => ⟨if_neg q, if_neg q⟩
  have yes : tk_N (I 47) z b lo hi → cs_v (I 47) z lo hi (b, φ) = tk_n (I 47) b (tk_e (I 47) z b - b) ∧ cs_num (I 47) z lo hi (b, φ) = (tk_x (I 47) z b, φ) := fun q => ⟨if_pos q, if_pos q⟩
  have hloop : ∀ j, j ≤ tk_e (I 47) z b - b → tk_s (I 47) z b = 2 → tk_e (I 47) z b - b ≤ 3 → pm_G Γ 0 0 35 [(0, .ref 46), (1, .int lo), (2, .int hi), (3, .int (tk_n (I 47) b j)), (4, .int (nI (b + j)))] [] SHP (tp I z b φ) J := by
    refine pm_up (fun j => tk_s (I 47) z b = 2 → tk_e (I 47) z b - b ≤ 3 → pm_G Γ 0 0 35 [(0, .ref 46), (1, .int lo), (2, .int hi), (3, .int (tk_n (I 47) b j)), (4, .int (nI (b + j)))] [] SHP (tp I z b φ) J) (tk_e (I 47) z b - b) (fun j hj ih q2 q3 => ?_)
    refine g_iload (pc := 35) (j := 4) C dX4_number_35 rfl ?_
    refine g_aload_n (pc := 37) (i := 0) (j := 0) C dX4_number_37 rfl rfl ?_
    refine g_getI (pc := 38) C dX4_number_38 lfX4_25 (by first | rfl | assumption) rfl ?_
    try simp only [tp_1, tp_2, tp_3, tp_4, tp_5, tp_47]
    refine g_icmp_ge (pc := 41) (tgt := 66) C dX4_number_41 (by decide) (fun h41 => ?_) (fun h41 => ?_)
    · have ej : j = tk_e (I 47) z b - b := by have := (nI_leI (a := tk_e (I 47) z b) (b := b + j) (by omega) (by omega)).mp h41; omega
      refine g_iload_n (pc := 66) (i := 3) (j := 3) C dX4_number_66 rfl rfl ?_
      refine g_iload_n (pc := 67) (i := 1) (j := 1) C dX4_number_67 rfl rfl ?_
      refine g_iload_n (pc := 68) (i := 2) (j := 2) C dX4_number_68 rfl rfl ?_
      refine g_callN (pc := 69) C dX4_number_69 lmX4_145 kcX7_within (by decide) (c_X7_within) rfl rfl (Nat.le_of_ble_eq_true rfl) ?_
      intro r9 sh9 I9 J9 hD9; obtain ⟨rfl, rfl, rfl, rfl⟩ := pm_Dq hD9; clear hD9
      try simp only [Option.toList_some, Option.toList_none, List.cons_append, List.nil_append]
      refine g_if_neB (pc := 72) (tgt := 81) C dX4_number_72 (by decide) (fun h72 => ?_) (fun h72 => ?_)
      · refine g_aload_n (pc := 81) (i := 0) (j := 0) C dX4_number_81 rfl rfl ?_
        refine g_callV (pc := 82) C dX4_number_82 lmX4_36 kcX4_advance (by decide) (by first | rfl | assumption) (c_X4_adv hz2 hb) rfl rfl (Nat.le_of_ble_eq_true rfl) ?_
        intro r9 sh9 I9 J9 hD9; obtain ⟨rfl, rfl, rfl, rfl⟩ := pm_Dq hD9; clear hD9
        try simp only [Option.toList_some, Option.toList_none, List.cons_append, List.nil_append]
        refine g_iload_n (pc := 85) (i := 3) (j := 3) C dX4_number_85 rfl rfl ?_
        refine g_iret (pc := 86) C C2 dX4_number_86 rfl (Nat.le_refl _) (Nat.le_refl _) ?_
        refine ⟨?_, rfl, ?_, rfl⟩
        · rw [(yes ⟨q2, q3, by rw [← ej]; exact h72⟩).1, ej]
        · rw [(yes ⟨q2, q3, by rw [← ej]; exact h72⟩).2]
      · refine g_aload_n (pc := 75) (i := 0) (j := 0) C dX4_number_75 rfl rfl ?_
        refine g_callV (pc := 76) C dX4_number_76 lmX4_67 kcX4_fail (by decide) (by first | rfl | assumption) (c_X4_fail) rfl rfl (Nat.le_of_ble_eq_true rfl) ?_
        intro r9 sh9 I9 J9 hD9; obtain ⟨rfl, rfl, rfl, rfl⟩ := pm_Dq hD9; clear hD9
        try simp only [Option.toList_some, Option.toList_none, List.cons_append, List.nil_append]
        refine g_iload_n (pc := 79) (i := 1) (j := 1) C dX4_number_79 rfl rfl ?_
        refine g_iret (pc := 80) C C2 dX4_number_80 rfl (Nat.le_refl _) (Nat.le_refl _) ?_
        refine ⟨?_, rfl, ?_, rfl⟩
        · rw [(no (fun q => h72 (by rw [ej]; exact q.2.2))).1]
        · rw [(no (fun q => h72 (by rw [ej]; exact q.2.2))).2]
    · have hlt : b + j < tk_e (I 47) z b := Nat.lt_of_not_le (fun q => h41 (nI_le q (by omega)))
      refine g_iload_n (pc := 44) (i := 3) (j := 3) C dX4_number_44 rfl rfl ?_
      refine g_bipush (pc := 45) (v := 10) C dX4_number_45 (by decide) ?_
      refine g_imul (pc := 47) C dX4_number_47 ?_
      refine g_aload_n (pc := 48) (i := 0) (j := 0) C dX4_number_48 rfl rfl ?_
      refine g_getR (pc := 49) C dX4_number_49 lfX4_9 (by first | rfl | assumption) rfl ?_
      try simp only [tp_1, tp_2, tp_3, tp_4, tp_5, tp_47]
      refine g_iload (pc := 52) (j := 4) C dX4_number_52 rfl ?_
      refine g_bald (pc := 54) (j := b + j) C dX4_number_54 (by first | rfl | assumption) (by decide) (by first | rfl | assumption) (by omega) ?_
      refine g_bipush (pc := 55) (v := 48) C dX4_number_55 (by decide) ?_
      refine g_isub (pc := 57) C dX4_number_57 ?_
      refine g_iadd (pc := 58) C dX4_number_58 ?_
      refine g_istore_n (pc := 59) (i := 3) (L2 := [(0, _), (1, _), (2, _), (3, _), (4, _)]) C dX4_number_59 rfl (by decide) rfl ?_
      refine g_iinc (pc := 60) (j := 4) (v := _ + 1) (L2 := [(0, _), (1, _), (2, _), (3, _), (4, _)]) C dX4_number_60 rfl rfl (by decide) rfl ?_
      refine g_goto (pc := 63) (tgt := 35) C dX4_number_63 (by decide) ?_
      refine pm_Geq (ih (by omega) q2 q3) ?_ rfl rfl rfl
      simp only [tk_n, nI_1, Nat.add_assoc, tp_47]
  refine g_aload_n (pc := 0) (i := 0) (j := 0) C dX4_number_0 rfl rfl ?_
  refine g_getI (pc := 1) C dX4_number_1 lfX4_19 (by first | rfl | assumption) rfl ?_
  try simp only [tp_1, tp_2, tp_3, tp_4, tp_5, tp_47]
  refine g_iconst (pc := 4) (v := 2) C dX4_number_4 (by decide) ?_
  refine g_icmp_ne (pc := 5) (tgt := 21) C dX4_number_5 (by decide) (fun h5 => ?_) (fun h5 => ?_)
  · refine g_aload_n (pc := 21) (i := 0) (j := 0) C dX4_number_21 rfl rfl ?_
    refine g_callV (pc := 22) C dX4_number_22 lmX4_67 kcX4_fail (by decide) (by first | rfl | assumption) (c_X4_fail) rfl rfl (Nat.le_of_ble_eq_true rfl) ?_
    intro r9 sh9 I9 J9 hD9; obtain ⟨rfl, rfl, rfl, rfl⟩ := pm_Dq hD9; clear hD9
    try simp only [Option.toList_some, Option.toList_none, List.cons_append, List.nil_append]
    refine g_iload_n (pc := 25) (i := 1) (j := 1) C dX4_number_25 rfl rfl ?_
    refine g_iret (pc := 26) C C2 dX4_number_26 rfl (Nat.le_refl _) (Nat.le_refl _) ?_
    refine ⟨?_, rfl, ?_, rfl⟩
    · rw [(no (fun q => by first | exact h5 (e1.mpr q.1) | exact h18 (e2.mpr q.2.1))).1]
    · rw [(no (fun q => by first | exact h5 (e1.mpr q.1) | exact h18 (e2.mpr q.2.1))).2]
  · refine g_aload_n (pc := 8) (i := 0) (j := 0) C dX4_number_8 rfl rfl ?_
    refine g_getI (pc := 9) C dX4_number_9 lfX4_25 (by first | rfl | assumption) rfl ?_
    try simp only [tp_1, tp_2, tp_3, tp_4, tp_5, tp_47]
    refine g_aload_n (pc := 12) (i := 0) (j := 0) C dX4_number_12 rfl rfl ?_
    refine g_getI (pc := 13) C dX4_number_13 lfX4_22 (by first | rfl | assumption) rfl ?_
    try simp only [tp_1, tp_2, tp_3, tp_4, tp_5, tp_47]
    refine g_isub (pc := 16) C dX4_number_16 ?_
    rw [nI_subN ee.1]
    refine g_iconst (pc := 17) (v := 3) C dX4_number_17 (by decide) ?_
    refine g_icmp_le (pc := 18) (tgt := 27) C dX4_number_18 (by decide) (fun h18 => ?_) (fun h18 => ?_)
    · refine g_iconst (pc := 27) (v := 0) C dX4_number_27 (by decide) ?_
      refine g_istore_n (pc := 28) (i := 3) (L2 := [(0, _), (1, _), (2, _), (3, _)]) C dX4_number_28 rfl (by decide) rfl ?_
      refine g_aload_n (pc := 29) (i := 0) (j := 0) C dX4_number_29 rfl rfl ?_
      refine g_getI (pc := 30) C dX4_number_30 lfX4_22 (by first | rfl | assumption) rfl ?_
      try simp only [tp_1, tp_2, tp_3, tp_4, tp_5, tp_47]
      refine g_istore (pc := 33) (L2 := [(0, _), (1, _), (2, _), (3, _), (4, _)]) C dX4_number_33 (by decide) rfl ?_
      exact hloop 0 (Nat.zero_le _) (e1.mp h5) (e2.mp h18)
    · refine g_aload_n (pc := 21) (i := 0) (j := 0) C dX4_number_21 rfl rfl ?_
      refine g_callV (pc := 22) C dX4_number_22 lmX4_67 kcX4_fail (by decide) (by first | rfl | assumption) (c_X4_fail) rfl rfl (Nat.le_of_ble_eq_true rfl) ?_
      intro r9 sh9 I9 J9 hD9; obtain ⟨rfl, rfl, rfl, rfl⟩ := pm_Dq hD9; clear hD9
      try simp only [Option.toList_some, Option.toList_none, List.cons_append, List.nil_append]
      refine g_iload_n (pc := 25) (i := 1) (j := 1) C dX4_number_25 rfl rfl ?_
      refine g_iret (pc := 26) C C2 dX4_number_26 rfl (Nat.le_refl _) (Nat.le_refl _) ?_
      refine ⟨?_, rfl, ?_, rfl⟩
      · rw [(no (fun q => by first | exact h5 (e1.mpr q.1) | exact h18 (e2.mpr q.2.1))).1]
      · rw [(no (fun q => by first | exact h5 (e1.mpr q.1) | exact h18 (e2.mpr q.2.1))).2]

set_option maxHeartbeats 4000000 in
set_option maxRecDepth 100000 in
theorem c_X4_passName {d : Nat} {I : pm_I} {J : pm_J} {i : Nat} (hi : i < 15) {z b : Nat} {φ : Int32} (hz2 : z ≤ 240) (hb : b ≤ z)  : pm_M (d + 5) 0 0 yX4_passName cX4_passName 2 (none : Option Jvm.ClassFile.FieldType) [.ref 46, .ref (1000 + (10 + i))] SHP (tp I z b φ) J (pm_D none SHP (tps I z (cs_nm (I 47) z (pm_tx i).2.2 (b, φ))) J) := by
  refine pm_start (own := RX4) (nm := "passName") (by decide) rfl rfl (L := [(0, .ref 46), (1, .ref (1000 + (10 + i)))]) rfl (Nat.le_of_ble_eq_true rfl) (fun Γ C C2 => ?_)
  refine g_aload_n (pc := 0) (i := 0) (j := 0) C dX4_passName_0 rfl rfl ?_
  refine g_aload_n (pc := 1) (i := 1) (j := 1) C dX4_passName_1 rfl rfl ?_
  refine g_callV (pc := 2) C dX4_passName_2 lmX4_49 kcX4_isName (by decide) (by first | rfl | assumption) (c_X4_isName hi hz2 hb) rfl rfl (Nat.le_of_ble_eq_true rfl) ?_
  intro r9 sh9 I9 J9 hD9; obtain ⟨rfl, rfl, rfl, rfl⟩ := pm_Dq hD9; clear hD9
  try simp only [Option.toList_some, Option.toList_none, List.cons_append, List.nil_append]
  refine g_if_eqB (pc := 5) (tgt := 15) C dX4_passName_5 (by decide) (fun h5 => ?_) (fun h5 => ?_)
  · refine g_aload_n (pc := 15) (i := 0) (j := 0) C dX4_passName_15 rfl rfl ?_
    refine g_callV (pc := 16) C dX4_passName_16 lmX4_67 kcX4_fail (by decide) (by first | rfl | assumption) (c_X4_fail) rfl rfl (Nat.le_of_ble_eq_true rfl) ?_
    intro r9 sh9 I9 J9 hD9; obtain ⟨rfl, rfl, rfl, rfl⟩ := pm_Dq hD9; clear hD9
    try simp only [Option.toList_some, Option.toList_none, List.cons_append, List.nil_append]
    refine g_vret (pc := 19) C C2 dX4_passName_19 (Nat.le_refl _) (Nat.le_refl _) ?_
    refine ⟨rfl, rfl, ?_, rfl⟩
    unfold cs_nm
    first | rw [if_pos h5]; rfl | rw [if_neg h5]; rfl
  · refine g_aload_n (pc := 8) (i := 0) (j := 0) C dX4_passName_8 rfl rfl ?_
    refine g_callV (pc := 9) C dX4_passName_9 lmX4_36 kcX4_advance (by decide) (by first | rfl | assumption) (c_X4_adv hz2 hb) rfl rfl (Nat.le_of_ble_eq_true rfl) ?_
    intro r9 sh9 I9 J9 hD9; obtain ⟨rfl, rfl, rfl, rfl⟩ := pm_Dq hD9; clear hD9
    try simp only [Option.toList_some, Option.toList_none, List.cons_append, List.nil_append]
    refine g_goto (pc := 12) (tgt := 19) C dX4_passName_12 (by decide) ?_
    refine g_vret (pc := 19) C C2 dX4_passName_19 (Nat.le_refl _) (Nat.le_refl _) ?_
    refine ⟨rfl, rfl, ?_, rfl⟩
    unfold cs_nm
    first | rw [if_pos h5]; rfl | rw [if_neg h5]; rfl

set_option maxHeartbeats 4000000 in
set_option maxRecDepth 100000 in
theorem c_X4_passSign {d : Nat} {I : pm_I} {J : pm_J} {z b : Nat} {φ : Int32} (hz2 : z ≤ 240) (hb : b ≤ z)  : pm_M (d + 2) 0 0 yX4_passSign cX4_passSign 2 (none : Option Jvm.ClassFile.FieldType) [.ref 46, .int 59] SHP (tp I z b φ) J (pm_D none SHP (tps I z (cs_sg (I 47) z (b, φ))) J) := by
  refine pm_start (own := RX4) (nm := "passSign") (by decide) rfl rfl (L := [(0, .ref 46), (1, .int 59)]) rfl (Nat.le_of_ble_eq_true rfl) (fun Γ C C2 => ?_)
  have s3 := tk_s_le (f := I 47) (z := z) (p := b)
  have e1 := nI_eq (a := tk_s (I 47) z b) (b := 3) (by omega) (by decide)
  refine g_aload_n (pc := 0) (i := 0) (j := 0) C dX4_passSign_0 rfl rfl ?_
  refine g_getI (pc := 1) C dX4_passSign_1 lfX4_19 (by first | rfl | assumption) rfl ?_
  try simp only [tp_1, tp_2, tp_3, tp_4, tp_5, tp_47]
  refine g_iconst (pc := 4) (v := 3) C dX4_passSign_4 (by decide) ?_
  refine g_icmp_ne (pc := 5) (tgt := 28) C dX4_passSign_5 (by decide) (fun h5 => ?_) (fun h5 => ?_)
  · refine g_aload_n (pc := 28) (i := 0) (j := 0) C dX4_passSign_28 rfl rfl ?_
    refine g_callV (pc := 29) C dX4_passSign_29 lmX4_67 kcX4_fail (by decide) (by first | rfl | assumption) (c_X4_fail) rfl rfl (Nat.le_of_ble_eq_true rfl) ?_
    intro r9 sh9 I9 J9 hD9; obtain ⟨rfl, rfl, rfl, rfl⟩ := pm_Dq hD9; clear hD9
    try simp only [Option.toList_some, Option.toList_none, List.cons_append, List.nil_append]
    refine g_vret (pc := 32) C C2 dX4_passSign_32 (Nat.le_refl _) (Nat.le_refl _) ?_
    refine ⟨rfl, rfl, ?_, rfl⟩
    unfold cs_sg
    first | (rw [if_pos ⟨e1.mp h5, h18⟩]; rfl) | (rw [if_neg (fun q => h18 q.2)]; rfl) | (rw [if_neg (fun q => h5 (e1.mpr q.1))]; rfl)
  · have hlt : b < z := tk_N_lt (f := I 47) (by have := e1.mp h5; omega)
    refine g_aload_n (pc := 8) (i := 0) (j := 0) C dX4_passSign_8 rfl rfl ?_
    refine g_getR (pc := 9) C dX4_passSign_9 lfX4_9 (by first | rfl | assumption) rfl ?_
    refine g_aload_n (pc := 12) (i := 0) (j := 0) C dX4_passSign_12 rfl rfl ?_
    refine g_getI (pc := 13) C dX4_passSign_13 lfX4_22 (by first | rfl | assumption) rfl ?_
    try simp only [tp_1, tp_2, tp_3, tp_4, tp_5, tp_47]
    refine g_bald (pc := 16) (j := b) C dX4_passSign_16 (by first | rfl | assumption) (by decide) (by first | rfl | assumption) (by omega) ?_
    try simp only [tp_1, tp_2, tp_3, tp_4, tp_5, tp_47]
    refine g_iload_n (pc := 17) (i := 1) (j := 1) C dX4_passSign_17 rfl rfl ?_
    refine g_icmp_ne (pc := 18) (tgt := 28) C dX4_passSign_18 (by decide) (fun h18 => ?_) (fun h18 => ?_)
    · refine g_aload_n (pc := 28) (i := 0) (j := 0) C dX4_passSign_28 rfl rfl ?_
      refine g_callV (pc := 29) C dX4_passSign_29 lmX4_67 kcX4_fail (by decide) (by first | rfl | assumption) (c_X4_fail) rfl rfl (Nat.le_of_ble_eq_true rfl) ?_
      intro r9 sh9 I9 J9 hD9; obtain ⟨rfl, rfl, rfl, rfl⟩ := pm_Dq hD9; clear hD9
      try simp only [Option.toList_some, Option.toList_none, List.cons_append, List.nil_append]
      refine g_vret (pc := 32) C C2 dX4_passSign_32 (Nat.le_refl _) (Nat.le_refl _) ?_
      refine ⟨rfl, rfl, ?_, rfl⟩
      unfold cs_sg
      first | (rw [if_pos ⟨e1.mp h5, h18⟩]; rfl) | (rw [if_neg (fun q => h18 q.2)]; rfl) | (rw [if_neg (fun q => h5 (e1.mpr q.1))]; rfl)
    · refine g_aload_n (pc := 21) (i := 0) (j := 0) C dX4_passSign_21 rfl rfl ?_
      refine g_callV (pc := 22) C dX4_passSign_22 lmX4_36 kcX4_advance (by decide) (by first | rfl | assumption) (c_X4_adv hz2 hb) rfl rfl (Nat.le_of_ble_eq_true rfl) ?_
      intro r9 sh9 I9 J9 hD9; obtain ⟨rfl, rfl, rfl, rfl⟩ := pm_Dq hD9; clear hD9
      try simp only [Option.toList_some, Option.toList_none, List.cons_append, List.nil_append]
      refine g_goto (pc := 25) (tgt := 32) C dX4_passSign_25 (by decide) ?_
      refine g_vret (pc := 32) C C2 dX4_passSign_32 (Nat.le_refl _) (Nat.le_refl _) ?_
      refine ⟨rfl, rfl, ?_, rfl⟩
      unfold cs_sg
      first | (rw [if_pos ⟨e1.mp h5, h18⟩]; rfl) | (rw [if_neg (fun q => h18 q.2)]; rfl) | (rw [if_neg (fun q => h5 (e1.mpr q.1))]; rfl)

set_option maxHeartbeats 4000000 in
set_option maxRecDepth 100000 in
theorem c_X4_readPart {d : Nat} {I : pm_I} {J : pm_J} {i : Nat} (hi : i < 15) {z b : Nat} {φ : Int32} (hz2 : z ≤ 240) (hb : b ≤ z) {q p : Nat} (hq : SHP[q]? = some (.inl (0, 9))) (q1 : q ≠ 46) (q2 : q ≠ 47) (hp : p < 9) : pm_M (d + 5) 0 0 yX4_readPart cX4_readPart 4 (none : Option Jvm.ClassFile.FieldType) [.ref 46, .ref (1000 + (10 + i)), .ref q, .int (nI p)] SHP (tp I z b φ) J (pm_D none SHP (tps (cs_pI I (I 47) z q p (pm_tx i).2.2 ((pm_tv 1).getD p 0) ((pm_tv 2).getD p 0) (b, φ)) z (cs_pt (I 47) z (pm_tx i).2.2 ((pm_tv 1).getD p 0) ((pm_tv 2).getD p 0) (b, φ))) J) := by
  refine pm_start (own := RX4) (nm := "readPart") (by decide) rfl rfl (L := [(0, .ref 46), (1, .ref (1000 + (10 + i))), (2, .ref q), (3, .int (nI p))]) rfl (Nat.le_of_ble_eq_true rfl) (fun Γ C C2 => ?_)
  refine g_aload_n (pc := 0) (i := 0) (j := 0) C dX4_readPart_0 rfl rfl ?_
  refine g_getI (pc := 1) C dX4_readPart_1 lfX4_28 (by first | rfl | assumption) rfl ?_
  try simp only [tp_1, tp_2, tp_3, tp_4, tp_5, tp_47]
  refine g_bipush (pc := 4) (v := (-3)) C dX4_readPart_4 (by decide) ?_
  refine g_icmp_ne (pc := 6) (tgt := 38) C dX4_readPart_6 (by decide) (fun h6 => ?_) (fun h6 => ?_)
  · refine g_vret (pc := 38) C C2 dX4_readPart_38 (Nat.le_refl _) (Nat.le_refl _) ?_
    refine ⟨rfl, rfl, ?_, rfl⟩
    unfold cs_pt cs_pI
    first | (rw [if_pos ⟨h6, h14⟩, if_pos ⟨h6, h14⟩, tp_u q1 q2]; rfl) | (rw [if_neg (fun q => h14 q.2), if_neg (fun q => h14 q.2)]) | (rw [if_neg (fun q => h6 q.1), if_neg (fun q => h6 q.1)])
  · refine g_aload_n (pc := 9) (i := 0) (j := 0) C dX4_readPart_9 rfl rfl ?_
    refine g_aload_n (pc := 10) (i := 1) (j := 1) C dX4_readPart_10 rfl rfl ?_
    refine g_callV (pc := 11) C dX4_readPart_11 lmX4_49 kcX4_isName (by decide) (by first | rfl | assumption) (c_X4_isName hi hz2 hb) rfl rfl (Nat.le_of_ble_eq_true rfl) ?_
    intro r9 sh9 I9 J9 hD9; obtain ⟨rfl, rfl, rfl, rfl⟩ := pm_Dq hD9; clear hD9
    try simp only [Option.toList_some, Option.toList_none, List.cons_append, List.nil_append]
    refine g_if_eqB (pc := 14) (tgt := 38) C dX4_readPart_14 (by decide) (fun h14 => ?_) (fun h14 => ?_)
    · refine g_vret (pc := 38) C C2 dX4_readPart_38 (Nat.le_refl _) (Nat.le_refl _) ?_
      refine ⟨rfl, rfl, ?_, rfl⟩
      unfold cs_pt cs_pI
      first | (rw [if_pos ⟨h6, h14⟩, if_pos ⟨h6, h14⟩, tp_u q1 q2]; rfl) | (rw [if_neg (fun q => h14 q.2), if_neg (fun q => h14 q.2)]) | (rw [if_neg (fun q => h6 q.1), if_neg (fun q => h6 q.1)])
    · refine g_aload_n (pc := 17) (i := 0) (j := 0) C dX4_readPart_17 rfl rfl ?_
      refine g_callV (pc := 18) C dX4_readPart_18 lmX4_36 kcX4_advance (by decide) (by first | rfl | assumption) (c_X4_adv hz2 hb) rfl rfl (Nat.le_of_ble_eq_true rfl) ?_
      intro r9 sh9 I9 J9 hD9; obtain ⟨rfl, rfl, rfl, rfl⟩ := pm_Dq hD9; clear hD9
      try simp only [Option.toList_some, Option.toList_none, List.cons_append, List.nil_append]
      refine g_aload_n (pc := 21) (i := 2) (j := 2) C dX4_readPart_21 rfl rfl ?_
      refine g_iload_n (pc := 22) (i := 3) (j := 3) C dX4_readPart_22 rfl rfl ?_
      refine g_aload_n (pc := 23) (i := 0) (j := 0) C dX4_readPart_23 rfl rfl ?_
      refine g_getsN (pc := 24) (j := 1) C dX4_readPart_24 (by decide) (by decide +kernel) ?_
      refine g_iload_n (pc := 27) (i := 3) (j := 3) C dX4_readPart_27 rfl rfl ?_
      refine g_tald (pc := 28) (j := 1) C dX4_readPart_28 (by decide) rfl hp ?_
      refine g_getsN (pc := 29) (j := 2) C dX4_readPart_29 (by decide) (by decide +kernel) ?_
      refine g_iload_n (pc := 32) (i := 3) (j := 3) C dX4_readPart_32 rfl rfl ?_
      refine g_tald (pc := 33) (j := 2) C dX4_readPart_33 (by decide) rfl hp ?_
      refine g_callV (pc := 34) C dX4_readPart_34 lmX4_61 kcX4_number (by decide) (by first | rfl | assumption) (c_X4_number hz2 (tk_x_le hb)) rfl rfl (Nat.le_of_ble_eq_true rfl) ?_
      intro r9 sh9 I9 J9 hD9; obtain ⟨rfl, rfl, rfl, rfl⟩ := pm_Dq hD9; clear hD9
      try simp only [Option.toList_some, Option.toList_none, List.cons_append, List.nil_append]
      refine g_iast (pc := 37) C dX4_readPart_37 hq (by decide) rfl hp ?_
      refine g_vret (pc := 38) C C2 dX4_readPart_38 (Nat.le_refl _) (Nat.le_refl _) ?_
      refine ⟨rfl, rfl, ?_, rfl⟩
      unfold cs_pt cs_pI
      first | (rw [if_pos ⟨h6, h14⟩, if_pos ⟨h6, h14⟩, tp_u q1 q2]; rfl) | (rw [if_neg (fun q => h14 q.2), if_neg (fun q => h14 q.2)]) | (rw [if_neg (fun q => h6 q.1), if_neg (fun q => h6 q.1)])

set_option maxHeartbeats 4000000 in
set_option maxRecDepth 100000 in
theorem c_X4_readWarmth {d : Nat} {I : pm_I} {J : pm_J} {z b : Nat} {φ : Int32} (hz2 : z ≤ 240) (hb : b ≤ z) {mo sg : Int32} : pm_M (d + 3) 0 0 yX4_readWarmth cX4_readWarmth 6 (none : Option Jvm.ClassFile.FieldType) [.ref 46, .ref 31, .int mo, .int sg] SHP (tp I z b φ) J (pm_D none SHP (tps (pm_u I 32 (cs_v (I 47) z 0 23 (cs_x (I 47) z (b, φ))).toNatClampNeg (sg * cs_v (I 47) z 0 mo (cs_num (I 47) z 0 23 (cs_x (I 47) z (b, φ))))) z (cs_num (I 47) z 0 mo (cs_num (I 47) z 0 23 (cs_x (I 47) z (b, φ))))) J) := by
  refine pm_start (own := RX4) (nm := "readWarmth") (by decide) rfl rfl (L := [(0, .ref 46), (1, .ref 31), (2, .int mo), (3, .int sg)]) rfl (Nat.le_of_ble_eq_true rfl) (fun Γ C C2 => ?_)
  refine g_aload_n (pc := 0) (i := 0) (j := 0) C dX4_readWarmth_0 rfl rfl ?_
  refine g_callV (pc := 1) C dX4_readWarmth_1 lmX4_36 kcX4_advance (by decide) (by first | rfl | assumption) (c_X4_adv hz2 hb) rfl rfl (Nat.le_of_ble_eq_true rfl) ?_
  intro r9 sh9 I9 J9 hD9; obtain ⟨rfl, rfl, rfl, rfl⟩ := pm_Dq hD9; clear hD9
  try simp only [Option.toList_some, Option.toList_none, List.cons_append, List.nil_append]
  refine g_aload_n (pc := 4) (i := 0) (j := 0) C dX4_readWarmth_4 rfl rfl ?_
  refine g_iconst (pc := 5) (v := 0) C dX4_readWarmth_5 (by decide) ?_
  refine g_bipush (pc := 6) (v := 23) C dX4_readWarmth_6 (by decide) ?_
  refine g_callV (pc := 8) C dX4_readWarmth_8 lmX4_61 kcX4_number (by decide) (by first | rfl | assumption) (c_X4_number hz2 (tk_x_le hb)) rfl rfl (Nat.le_of_ble_eq_true rfl) ?_
  intro r9 sh9 I9 J9 hD9; obtain ⟨rfl, rfl, rfl, rfl⟩ := pm_Dq hD9; clear hD9
  try simp only [Option.toList_some, Option.toList_none, List.cons_append, List.nil_append]
  have hv := cs_v_in (f := I 47) (z := z) (lo := 0) (hi := 23) (st := (tk_x (I 47) z b, φ)) (by decide)
  obtain ⟨h, hh, eh⟩ := pm_ix (N := 24) hv.1 hv.2 (by decide)
  rw [eh]
  refine g_istore (pc := 11) (L2 := [(0, _), (1, _), (2, _), (3, _), (4, _)]) C dX4_readWarmth_11 (by decide) rfl ?_
  refine g_aload_n (pc := 13) (i := 0) (j := 0) C dX4_readWarmth_13 rfl rfl ?_
  refine g_iconst (pc := 14) (v := 0) C dX4_readWarmth_14 (by decide) ?_
  refine g_iload_n (pc := 15) (i := 2) (j := 2) C dX4_readWarmth_15 rfl rfl ?_
  refine g_callV (pc := 16) C dX4_readWarmth_16 lmX4_61 kcX4_number (by decide) (by first | rfl | assumption) (c_X4_number hz2 (cs_num_le (cs_x_le (st := (b, φ)) hb))) rfl rfl (Nat.le_of_ble_eq_true rfl) ?_
  intro r9 sh9 I9 J9 hD9; obtain ⟨rfl, rfl, rfl, rfl⟩ := pm_Dq hD9; clear hD9
  try simp only [Option.toList_some, Option.toList_none, List.cons_append, List.nil_append]
  refine g_istore (pc := 19) (L2 := [(0, _), (1, _), (2, _), (3, _), (4, _), (5, _)]) C dX4_readWarmth_19 (by decide) rfl ?_
  refine g_aload_n (pc := 21) (i := 1) (j := 1) C dX4_readWarmth_21 rfl rfl ?_
  refine g_getR (pc := 22) C dX4_readWarmth_22 lfX4_117 (by first | rfl | assumption) rfl ?_
  refine g_iload (pc := 25) (j := 4) C dX4_readWarmth_25 rfl ?_
  refine g_iload_n (pc := 27) (i := 3) (j := 3) C dX4_readWarmth_27 rfl rfl ?_
  refine g_iload (pc := 28) (j := 5) C dX4_readWarmth_28 rfl ?_
  refine g_imul (pc := 30) C dX4_readWarmth_30 ?_
  refine g_iast (pc := 31) (j := h) C dX4_readWarmth_31 rfl (by decide) (by first | rfl | assumption) hh ?_
  refine g_vret (pc := 32) C C2 dX4_readWarmth_32 (Nat.le_refl _) (Nat.le_refl _) ?_
  refine ⟨rfl, rfl, ?_, rfl⟩
  rw [tp_u (by decide) (by decide)]
  have eh2 : cs_v (I 47) z 0 23 (cs_x (I 47) z (b, φ)) = nI h := eh
  rw [eh2, nI_clamp (by omega)]
  rfl

set_option maxHeartbeats 4000000 in
set_option maxRecDepth 100000 in
theorem c_X4_nameOf {d : Nat} {I : pm_I} {J : pm_J} {k : Nat} (hk : k < 6) : pm_M d 0 0 yX4_nameOf cX4_nameOf 1 (some (.object "java/lang/String")) [.int (nI k)] SHP I J (pm_D (some (.ref (1000 + (10 + k)))) SHP I J) := by
  refine pm_start (own := RX4) (nm := "nameOf") (by decide) rfl rfl (L := [(0, .int (nI k))]) rfl (Nat.le_of_ble_eq_true rfl) (fun Γ C C2 => ?_)
  have e1 := nI_eq (a := k) (b := 1) (by omega) (by decide)
  have e2 := nI_eq (a := k) (b := 2) (by omega) (by decide)
  have e3 := nI_eq (a := k) (b := 3) (by omega) (by decide)
  have e4 := nI_eq (a := k) (b := 4) (by omega) (by decide)
  have e5 := nI_eq (a := k) (b := 5) (by omega) (by decide)
  refine g_iload_n (pc := 0) (i := 0) (j := 0) C dX4_nameOf_0 rfl rfl ?_
  refine pm_sw (1) (fun h1_0 => ?_) (fun h1_0 => ?_)
  · refine g_tsIn (pc := 1) (tgt := 36) (1) C dX4_nameOf_1 (by rw [h1_0]; decide) (by decide) (by decide) rfl (by decide) ?_
    refine g_ldcS (pc := 36) (i := 1) C dX4_nameOf_36 rfl (by decide) ?_
    refine g_aret (pc := 38) C C2 dX4_nameOf_38 (Or.inl ⟨_, rfl⟩) (Nat.le_refl _) (Nat.le_refl _) ?_
    refine ⟨?_, rfl, rfl, rfl⟩
    first | (rw [e1.mp h1_0]) | (rw [e2.mp h1_1]) | (rw [e3.mp h1_2]) | (rw [e4.mp h1_3]) | (rw [e5.mp h1_4]) | (rw [show k = 0 by have a1 : ¬ k = 1 := fun q => h1_0 (e1.mpr q); have a2 : ¬ k = 2 := fun q => h1_1 (e2.mpr q); have a3 : ¬ k = 3 := fun q => h1_2 (e3.mpr q); have a4 : ¬ k = 4 := fun q => h1_3 (e4.mpr q); have a5 : ¬ k = 5 := fun q => h1_4 (e5.mpr q); omega])
  refine pm_sw (2) (fun h1_1 => ?_) (fun h1_1 => ?_)
  · refine g_tsIn (pc := 1) (tgt := 39) (2) C dX4_nameOf_1 (by rw [h1_1]; decide) (by decide) (by decide) rfl (by decide) ?_
    refine g_ldcS (pc := 39) (i := 2) C dX4_nameOf_39 rfl (by decide) ?_
    refine g_aret (pc := 41) C C2 dX4_nameOf_41 (Or.inl ⟨_, rfl⟩) (Nat.le_refl _) (Nat.le_refl _) ?_
    refine ⟨?_, rfl, rfl, rfl⟩
    first | (rw [e1.mp h1_0]) | (rw [e2.mp h1_1]) | (rw [e3.mp h1_2]) | (rw [e4.mp h1_3]) | (rw [e5.mp h1_4]) | (rw [show k = 0 by have a1 : ¬ k = 1 := fun q => h1_0 (e1.mpr q); have a2 : ¬ k = 2 := fun q => h1_1 (e2.mpr q); have a3 : ¬ k = 3 := fun q => h1_2 (e3.mpr q); have a4 : ¬ k = 4 := fun q => h1_3 (e4.mpr q); have a5 : ¬ k = 5 := fun q => h1_4 (e5.mpr q); omega])
  refine pm_sw (3) (fun h1_2 => ?_) (fun h1_2 => ?_)
  · refine g_tsIn (pc := 1) (tgt := 42) (3) C dX4_nameOf_1 (by rw [h1_2]; decide) (by decide) (by decide) rfl (by decide) ?_
    refine g_ldcS (pc := 42) (i := 3) C dX4_nameOf_42 rfl (by decide) ?_
    refine g_aret (pc := 44) C C2 dX4_nameOf_44 (Or.inl ⟨_, rfl⟩) (Nat.le_refl _) (Nat.le_refl _) ?_
    refine ⟨?_, rfl, rfl, rfl⟩
    first | (rw [e1.mp h1_0]) | (rw [e2.mp h1_1]) | (rw [e3.mp h1_2]) | (rw [e4.mp h1_3]) | (rw [e5.mp h1_4]) | (rw [show k = 0 by have a1 : ¬ k = 1 := fun q => h1_0 (e1.mpr q); have a2 : ¬ k = 2 := fun q => h1_1 (e2.mpr q); have a3 : ¬ k = 3 := fun q => h1_2 (e3.mpr q); have a4 : ¬ k = 4 := fun q => h1_3 (e4.mpr q); have a5 : ¬ k = 5 := fun q => h1_4 (e5.mpr q); omega])
  refine pm_sw (4) (fun h1_3 => ?_) (fun h1_3 => ?_)
  · refine g_tsIn (pc := 1) (tgt := 45) (4) C dX4_nameOf_1 (by rw [h1_3]; decide) (by decide) (by decide) rfl (by decide) ?_
    refine g_ldcS (pc := 45) (i := 4) C dX4_nameOf_45 rfl (by decide) ?_
    refine g_aret (pc := 47) C C2 dX4_nameOf_47 (Or.inl ⟨_, rfl⟩) (Nat.le_refl _) (Nat.le_refl _) ?_
    refine ⟨?_, rfl, rfl, rfl⟩
    first | (rw [e1.mp h1_0]) | (rw [e2.mp h1_1]) | (rw [e3.mp h1_2]) | (rw [e4.mp h1_3]) | (rw [e5.mp h1_4]) | (rw [show k = 0 by have a1 : ¬ k = 1 := fun q => h1_0 (e1.mpr q); have a2 : ¬ k = 2 := fun q => h1_1 (e2.mpr q); have a3 : ¬ k = 3 := fun q => h1_2 (e3.mpr q); have a4 : ¬ k = 4 := fun q => h1_3 (e4.mpr q); have a5 : ¬ k = 5 := fun q => h1_4 (e5.mpr q); omega])
  refine pm_sw (5) (fun h1_4 => ?_) (fun h1_4 => ?_)
  · refine g_tsIn (pc := 1) (tgt := 48) (5) C dX4_nameOf_1 (by rw [h1_4]; decide) (by decide) (by decide) rfl (by decide) ?_
    refine g_ldcS (pc := 48) (i := 5) C dX4_nameOf_48 rfl (by decide) ?_
    refine g_aret (pc := 50) C C2 dX4_nameOf_50 (Or.inl ⟨_, rfl⟩) (Nat.le_refl _) (Nat.le_refl _) ?_
    refine ⟨?_, rfl, rfl, rfl⟩
    first | (rw [e1.mp h1_0]) | (rw [e2.mp h1_1]) | (rw [e3.mp h1_2]) | (rw [e4.mp h1_3]) | (rw [e5.mp h1_4]) | (rw [show k = 0 by have a1 : ¬ k = 1 := fun q => h1_0 (e1.mpr q); have a2 : ¬ k = 2 := fun q => h1_1 (e2.mpr q); have a3 : ¬ k = 3 := fun q => h1_2 (e3.mpr q); have a4 : ¬ k = 4 := fun q => h1_3 (e4.mpr q); have a5 : ¬ k = 5 := fun q => h1_4 (e5.mpr q); omega])
  refine g_tsOut (pc := 1) (tgt := 51) C dX4_nameOf_1 (by have q0 := lv_neT (a := 1) h1_0 (by decide); have q1 := lv_neT (a := 2) h1_1 (by decide); have q2 := lv_neT (a := 3) h1_2 (by decide); have q3 := lv_neT (a := 4) h1_3 (by decide); have q4 := lv_neT (a := 5) h1_4 (by decide); omega) (by decide) ?_
  refine g_ldcS (pc := 51) (i := 0) C dX4_nameOf_51 rfl (by decide) ?_
  refine g_aret (pc := 53) C C2 dX4_nameOf_53 (Or.inl ⟨_, rfl⟩) (Nat.le_refl _) (Nat.le_refl _) ?_
  refine ⟨?_, rfl, rfl, rfl⟩
  first | (rw [e1.mp h1_0]) | (rw [e2.mp h1_1]) | (rw [e3.mp h1_2]) | (rw [e4.mp h1_3]) | (rw [e5.mp h1_4]) | (rw [show k = 0 by have a1 : ¬ k = 1 := fun q => h1_0 (e1.mpr q); have a2 : ¬ k = 2 := fun q => h1_1 (e2.mpr q); have a3 : ¬ k = 3 := fun q => h1_2 (e3.mpr q); have a4 : ¬ k = 4 := fun q => h1_3 (e4.mpr q); have a5 : ¬ k = 5 := fun q => h1_4 (e5.mpr q); omega])

set_option maxHeartbeats 4000000 in
set_option maxRecDepth 100000 in
theorem c_X4_kindHere {d : Nat} {I : pm_I} {J : pm_J} {z b : Nat} {φ : Int32} (hz2 : z ≤ 240) (hb : b ≤ z)  : pm_M (d + 5) 0 0 yX4_kindHere cX4_kindHere 2 (some .int) [.ref 46] SHP (tp I z b φ) J (pm_D (some (.int (cs_kd (I 47) z b))) SHP (tp I z b φ) J) := by
  refine pm_start (own := RX4) (nm := "kindHere") (by decide) rfl rfl (L := [(0, .ref 46)]) rfl (Nat.le_of_ble_eq_true rfl) (fun Γ C C2 => ?_)
  have hloop : ∀ j, j ≤ 6 → tr_sr (fun k => tk_nm (I 47) z b (pm_tx k).2.2) nI (-3) 6 (6 - j) = cs_kd (I 47) z b → pm_G Γ 0 0 2 [(0, .ref 46), (1, .int (nI j))] [] SHP (tp I z b φ) J := by
    refine pm_up (fun j => tr_sr (fun k => tk_nm (I 47) z b (pm_tx k).2.2) nI (-3) 6 (6 - j) = cs_kd (I 47) z b → pm_G Γ 0 0 2 [(0, .ref 46), (1, .int (nI j))] [] SHP (tp I z b φ) J) 6 (fun j hj ih q1 => ?_)
    refine g_iload_n (pc := 2) (i := 1) (j := 1) C dX4_kindHere_2 rfl rfl ?_
    refine g_bipush (pc := 3) (v := 6) C dX4_kindHere_3 (by decide) ?_
    refine g_icmp_ge (pc := 5) (tgt := 27) C dX4_kindHere_5 (by decide) (fun h5 => ?_) (fun h5 => ?_)
    · have ej : j = 6 := by have := (nI_leI (a := 6) (b := j) (by decide) (by omega)).mp h5; omega
      refine g_bipush (pc := 27) (v := (-3)) C dX4_kindHere_27 (by decide) ?_
      refine g_iret (pc := 29) C C2 dX4_kindHere_29 rfl (Nat.le_refl _) (Nat.le_refl _) ?_
      refine ⟨?_, rfl, rfl, rfl⟩
      rw [← q1, ej]
      rfl
    · have hlt : j < 6 := Nat.lt_of_not_le (fun q => h5 ((nI_leI (a := 6) (b := j) (by decide) (by omega)).mpr q))
      refine g_aload_n (pc := 8) (i := 0) (j := 0) C dX4_kindHere_8 rfl rfl ?_
      refine g_iload_n (pc := 9) (i := 1) (j := 1) C dX4_kindHere_9 rfl rfl ?_
      refine g_callS (pc := 10) C dX4_kindHere_10 lmX4_120 kcX4_nameOf (by decide) (c_X4_nameOf (k := j) hlt) rfl rfl (Nat.le_of_ble_eq_true rfl) ?_
      intro r9 sh9 I9 J9 hD9; obtain ⟨rfl, rfl, rfl, rfl⟩ := pm_Dq hD9; clear hD9
      try simp only [Option.toList_some, Option.toList_none, List.cons_append, List.nil_append]
      refine g_callV (pc := 13) C dX4_kindHere_13 lmX4_49 kcX4_isName (by decide) (by first | rfl | assumption) (c_X4_isName (i := j) (by omega) hz2 hb) rfl rfl (Nat.le_of_ble_eq_true rfl) ?_
      intro r9 sh9 I9 J9 hD9; obtain ⟨rfl, rfl, rfl, rfl⟩ := pm_Dq hD9; clear hD9
      try simp only [Option.toList_some, Option.toList_none, List.cons_append, List.nil_append]
      refine g_if_eqB (pc := 16) (tgt := 21) C dX4_kindHere_16 (by decide) (fun h16 => ?_) (fun h16 => ?_)
      · refine g_iinc (pc := 21) (j := 1) (v := _ + 1) (L2 := [(0, _), (1, _)]) C dX4_kindHere_21 rfl rfl (by decide) rfl ?_
        refine g_goto (pc := 24) (tgt := 2) C dX4_kindHere_24 (by decide) ?_
        refine pm_Geq (ih hlt (by rw [← q1, tr_sr_step hlt, if_neg h16])) (by simp only [nI_1]) rfl rfl rfl
      · refine g_iload_n (pc := 19) (i := 1) (j := 1) C dX4_kindHere_19 rfl rfl ?_
        refine g_iret (pc := 20) C C2 dX4_kindHere_20 rfl (Nat.le_refl _) (Nat.le_refl _) ?_
        refine ⟨?_, rfl, rfl, rfl⟩
        rw [← q1, tr_sr_step hlt, if_pos h16]
  refine g_iconst (pc := 0) (v := 0) C dX4_kindHere_0 (by decide) ?_
  refine g_istore_n (pc := 1) (i := 1) (L2 := [(0, _), (1, _)]) C dX4_kindHere_1 rfl (by decide) rfl ?_
  exact hloop 0 (Nat.zero_le _) rfl

theorem w_advance {d : Nat} {I : pm_I} {J : pm_J} {f : Nat → Int32} {z : Nat} {st : cs_T} (hf : I 47 = f) (hz2 : z ≤ 240) (hb : st.1 ≤ z)  : pm_M (d + 1) 0 0 yX4_advance cX4_advance 1 (none : Option Jvm.ClassFile.FieldType) [.ref 46] SHP (tps I z st) J (pm_D none SHP (tps I z (cs_x f z st)) J) := by
  subst hf
  exact c_X4_adv (b := st.1) (φ := st.2) hz2 hb

theorem w_fail {d : Nat} {I : pm_I} {J : pm_J} {f : Nat → Int32} {z : Nat} {st : cs_T} (hf : I 47 = f) (hz2 : z ≤ 240) (hb : st.1 ≤ z)  : pm_M (d + 0) 0 0 yX4_fail cX4_fail 1 (none : Option Jvm.ClassFile.FieldType) [.ref 46] SHP (tps I z st) J (pm_D none SHP (tps I z (cs_f st)) J) := by
  subst hf
  exact c_X4_fail (b := st.1) (φ := st.2)

theorem w_number {d : Nat} {I : pm_I} {J : pm_J} {f : Nat → Int32} {z : Nat} {st : cs_T} (hf : I 47 = f) (hz2 : z ≤ 240) (hb : st.1 ≤ z) {lo hi : Int32} : pm_M (d + 2) 0 0 yX4_number cX4_number 5 (some .int) [.ref 46, .int lo, .int hi] SHP (tps I z st) J (pm_D (some (.int (cs_v f z lo hi st))) SHP (tps I z (cs_num f z lo hi st)) J) := by
  subst hf
  exact c_X4_number (b := st.1) (φ := st.2) hz2 hb

theorem w_isName {d : Nat} {I : pm_I} {J : pm_J} {f : Nat → Int32} {z : Nat} {st : cs_T} (hf : I 47 = f) (hz2 : z ≤ 240) (hb : st.1 ≤ z) {i : Nat} (hi : i < 15)  : pm_M (d + 4) 0 0 yX4_isName cX4_isName 3 (some .boolean) [.ref 46, .ref (1000 + (10 + i))] SHP (tps I z st) J (pm_D (some (.int (pm_b (tk_nm f z st.1 (pm_tx i).2.2)))) SHP (tps I z (st)) J) := by
  subst hf
  exact c_X4_isName (b := st.1) (φ := st.2) hi hz2 hb

theorem w_passName {d : Nat} {I : pm_I} {J : pm_J} {f : Nat → Int32} {z : Nat} {st : cs_T} (hf : I 47 = f) (hz2 : z ≤ 240) (hb : st.1 ≤ z) {i : Nat} (hi : i < 15)  : pm_M (d + 5) 0 0 yX4_passName cX4_passName 2 (none : Option Jvm.ClassFile.FieldType) [.ref 46, .ref (1000 + (10 + i))] SHP (tps I z st) J (pm_D none SHP (tps I z (cs_nm f z (pm_tx i).2.2 st)) J) := by
  subst hf
  exact c_X4_passName (b := st.1) (φ := st.2) hi hz2 hb

theorem w_passSign {d : Nat} {I : pm_I} {J : pm_J} {f : Nat → Int32} {z : Nat} {st : cs_T} (hf : I 47 = f) (hz2 : z ≤ 240) (hb : st.1 ≤ z)  : pm_M (d + 2) 0 0 yX4_passSign cX4_passSign 2 (none : Option Jvm.ClassFile.FieldType) [.ref 46, .int 59] SHP (tps I z st) J (pm_D none SHP (tps I z (cs_sg f z st)) J) := by
  subst hf
  exact c_X4_passSign (b := st.1) (φ := st.2) hz2 hb

theorem w_readPart {d : Nat} {I : pm_I} {J : pm_J} {f : Nat → Int32} {z : Nat} {st : cs_T} (hf : I 47 = f) (hz2 : z ≤ 240) (hb : st.1 ≤ z) {i : Nat} (hi : i < 15) {q p : Nat} (hq : SHP[q]? = some (.inl (0, 9))) (q1 : q ≠ 46) (q2 : q ≠ 47) (hp : p < 9) : pm_M (d + 5) 0 0 yX4_readPart cX4_readPart 4 (none : Option Jvm.ClassFile.FieldType) [.ref 46, .ref (1000 + (10 + i)), .ref q, .int (nI p)] SHP (tps I z st) J (pm_D none SHP (tps (cs_pI I f z q p (pm_tx i).2.2 ((pm_tv 1).getD p 0) ((pm_tv 2).getD p 0) st) z (cs_pt f z (pm_tx i).2.2 ((pm_tv 1).getD p 0) ((pm_tv 2).getD p 0) st)) J) := by
  subst hf
  exact c_X4_readPart (b := st.1) (φ := st.2) hi hz2 hb hq q1 q2 hp

theorem w_readWarmth {d : Nat} {I : pm_I} {J : pm_J} {f : Nat → Int32} {z : Nat} {st : cs_T} (hf : I 47 = f) (hz2 : z ≤ 240) (hb : st.1 ≤ z) {mo sg : Int32} : pm_M (d + 3) 0 0 yX4_readWarmth cX4_readWarmth 6 (none : Option Jvm.ClassFile.FieldType) [.ref 46, .ref 31, .int mo, .int sg] SHP (tps I z st) J (pm_D none SHP (tps (pm_u I 32 (cs_v f z 0 23 (cs_x f z st)).toNatClampNeg (sg * cs_v f z 0 mo (cs_num f z 0 23 (cs_x f z st)))) z (cs_num f z 0 mo (cs_num f z 0 23 (cs_x f z st)))) J) := by
  subst hf
  exact c_X4_readWarmth (b := st.1) (φ := st.2) hz2 hb

theorem w_kindHere {d : Nat} {I : pm_I} {J : pm_J} {f : Nat → Int32} {z : Nat} {st : cs_T} (hf : I 47 = f) (hz2 : z ≤ 240) (hb : st.1 ≤ z)  : pm_M (d + 5) 0 0 yX4_kindHere cX4_kindHere 2 (some .int) [.ref 46] SHP (tps I z st) J (pm_D (some (.int (cs_kd f z st.1))) SHP (tps I z (st)) J) := by
  subst hf
  exact c_X4_kindHere (b := st.1) (φ := st.2) hz2 hb
