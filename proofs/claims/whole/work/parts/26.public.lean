/-! The public methods of the town -/
theorem pm_ix {x M : Int32} {N : Nat} (h0 : 0 ≤ x) (h : x ≤ M) (hM : M.toInt < (N : Int)) : ∃ b, b < N ∧ x = nI b := ⟨x.toNatClampNeg, pm_lt h0 h hM, pm_nat h0⟩
theorem pm_has {I : pm_I} {x : Int32} {n : Nat} (hn : I 1 2 = nI n) (h6 : n ≤ 6) (h : 0 ≤ x ∧ x ≤ I 1 2 - 1) : ∃ b, b < n ∧ x = nI b := by
  obtain ⟨h1, h2⟩ := h
  rw [hn] at h2
  refine ⟨x.toNatClampNeg, ?_, pm_nat h1⟩
  have e1 := Int32.le_iff_toInt_le.mp h1
  have e2 := Int32.le_iff_toInt_le.mp h2
  rw [Int32.toInt_zero] at e1
  show x.toInt.toNat < n
  rcases (show n = 0 ∨ n = 1 ∨ n = 2 ∨ n = 3 ∨ n = 4 ∨ n = 5 ∨ n = 6 by omega) with rfl | rfl | rfl | rfl | rfl | rfl | rfl
  · have e : (nI 0 - 1).toInt = -1 := by decide
    omega
  · have e : (nI 1 - 1).toInt = 0 := by decide
    omega
  · have e : (nI 2 - 1).toInt = 1 := by decide
    omega
  · have e : (nI 3 - 1).toInt = 2 := by decide
    omega
  · have e : (nI 4 - 1).toInt = 3 := by decide
    omega
  · have e : (nI 5 - 1).toInt = 4 := by decide
    omega
  · have e : (nI 6 - 1).toInt = 5 := by decide
    omega
def bl_of (f : Nat → Int32) (w t h : Int32) : Int32 := if w = 9 then bl_weight f else if w = 10 then bl_target f t else if w = 11 then bl_leaks f h else f w.toNatClampNeg
set_option maxHeartbeats 4000000 in
set_option maxRecDepth 100000 in
theorem c_X7_gap {d : Nat} {v : Int32} {I : pm_I} {J : pm_J} : pm_M (d + 1) 0 0 yX7_gap cX7_gap 3 (some .int) [.ref 0, .int v] SHP I J (pm_D (some (.int (if 1 ≤ v ∧ v ≤ 20 then I 1 4 else -1))) SHP (if 1 ≤ v ∧ v ≤ 20 then pm_u I 1 4 v else I) J) := by
  refine pm_start (own := RX7) (nm := "gap") (by decide) rfl rfl (L := [(0, .ref 0), (1, .int v)]) rfl (Nat.le_of_ble_eq_true rfl) (fun Γ C C2 => ?_)
  refine g_iload_n (pc := 0) (i := 1) (j := 1) C dX7_gap_0 rfl rfl ?_
  refine g_iconst (pc := 1) (v := 1) C dX7_gap_1 (by decide) ?_
  refine g_bipush (pc := 2) (v := 20) C dX7_gap_2 (by decide) ?_
  refine g_callS (pc := 4) C dX7_gap_4 lmX7_72 kcX7_within (by decide) (c_X7_within) rfl rfl (Nat.le_of_ble_eq_true rfl) ?_
  intro r9 sh9 I9 J9 hD9; obtain ⟨rfl, rfl, rfl, rfl⟩ := pm_Dq hD9
  try simp only [Option.toList_some, Option.toList_none, List.cons_append, List.nil_append]
  refine g_if_neB (pc := 7) (tgt := 12) C dX7_gap_7 (by decide) (fun h7 => ?_) (fun h7 => ?_)
  · refine g_aload_n (pc := 12) (i := 0) (j := 0) C dX7_gap_12 rfl rfl ?_
    refine g_getR (pc := 13) C dX7_gap_13 lfX7_10 (by first | rfl | assumption) rfl ?_
    refine g_getI (pc := 16) C dX7_gap_16 lfX7_104 (by first | rfl | assumption) rfl ?_
    refine g_istore_n (pc := 19) (i := 2) (L2 := [(0, _), (1, _), (2, _)]) C dX7_gap_19 rfl (by decide) rfl ?_
    refine g_aload_n (pc := 20) (i := 0) (j := 0) C dX7_gap_20 rfl rfl ?_
    refine g_getR (pc := 21) C dX7_gap_21 lfX7_10 (by first | rfl | assumption) rfl ?_
    refine g_iload_n (pc := 24) (i := 1) (j := 1) C dX7_gap_24 rfl rfl ?_
    refine g_putI (pc := 25) C dX7_gap_25 lpX7_104 rfl rfl (by first | rfl | assumption) rfl ?_
    refine g_iload_n (pc := 28) (i := 2) (j := 2) C dX7_gap_28 rfl rfl ?_
    refine g_iret (pc := 29) C C2 dX7_gap_29 rfl (Nat.le_refl _) (Nat.le_refl _) ?_
    clear C C2
    exact ⟨by first | rfl | grind, rfl, by first | rfl | grind, rfl⟩
  · refine g_iconst (pc := 10) (v := (-1)) C dX7_gap_10 (by decide) ?_
    refine g_iret (pc := 11) C C2 dX7_gap_11 rfl (Nat.le_refl _) (Nat.le_refl _) ?_
    clear C C2
    exact ⟨by first | rfl | grind, rfl, by first | rfl | grind, rfl⟩

set_option maxHeartbeats 4000000 in
set_option maxRecDepth 100000 in
theorem c_X7_clock {d : Nat} {v : Int32} {I : pm_I} {J : pm_J} : pm_M (d + 1) 0 0 yX7_clock cX7_clock 3 (some .int) [.ref 0, .int v] SHP I J (pm_D (some (.int (if 0 ≤ v ∧ v ≤ 96 then I 1 3 else -1))) SHP (if 0 ≤ v ∧ v ≤ 96 then pm_u I 1 3 v else I) J) := by
  refine pm_start (own := RX7) (nm := "clock") (by decide) rfl rfl (L := [(0, .ref 0), (1, .int v)]) rfl (Nat.le_of_ble_eq_true rfl) (fun Γ C C2 => ?_)
  refine g_iload_n (pc := 0) (i := 1) (j := 1) C dX7_clock_0 rfl rfl ?_
  refine g_iconst (pc := 1) (v := 0) C dX7_clock_1 (by decide) ?_
  refine g_bipush (pc := 2) (v := 96) C dX7_clock_2 (by decide) ?_
  refine g_callS (pc := 4) C dX7_clock_4 lmX7_72 kcX7_within (by decide) (c_X7_within) rfl rfl (Nat.le_of_ble_eq_true rfl) ?_
  intro r9 sh9 I9 J9 hD9; obtain ⟨rfl, rfl, rfl, rfl⟩ := pm_Dq hD9
  try simp only [Option.toList_some, Option.toList_none, List.cons_append, List.nil_append]
  refine g_if_neB (pc := 7) (tgt := 12) C dX7_clock_7 (by decide) (fun h7 => ?_) (fun h7 => ?_)
  · refine g_aload_n (pc := 12) (i := 0) (j := 0) C dX7_clock_12 rfl rfl ?_
    refine g_getR (pc := 13) C dX7_clock_13 lfX7_10 (by first | rfl | assumption) rfl ?_
    refine g_getI (pc := 16) C dX7_clock_16 lfX7_157 (by first | rfl | assumption) rfl ?_
    refine g_istore_n (pc := 19) (i := 2) (L2 := [(0, _), (1, _), (2, _)]) C dX7_clock_19 rfl (by decide) rfl ?_
    refine g_aload_n (pc := 20) (i := 0) (j := 0) C dX7_clock_20 rfl rfl ?_
    refine g_getR (pc := 21) C dX7_clock_21 lfX7_10 (by first | rfl | assumption) rfl ?_
    refine g_iload_n (pc := 24) (i := 1) (j := 1) C dX7_clock_24 rfl rfl ?_
    refine g_putI (pc := 25) C dX7_clock_25 lpX7_157 rfl rfl (by first | rfl | assumption) rfl ?_
    refine g_iload_n (pc := 28) (i := 2) (j := 2) C dX7_clock_28 rfl rfl ?_
    refine g_iret (pc := 29) C C2 dX7_clock_29 rfl (Nat.le_refl _) (Nat.le_refl _) ?_
    clear C C2
    exact ⟨by first | rfl | grind, rfl, by first | rfl | grind, rfl⟩
  · refine g_iconst (pc := 10) (v := (-1)) C dX7_clock_10 (by decide) ?_
    refine g_iret (pc := 11) C C2 dX7_clock_11 rfl (Nat.le_refl _) (Nat.le_refl _) ?_
    clear C C2
    exact ⟨by first | rfl | grind, rfl, by first | rfl | grind, rfl⟩

set_option maxHeartbeats 4000000 in
set_option maxRecDepth 100000 in
theorem c_X7_seed {d : Nat} {v : Int32} {I : pm_I} {J : pm_J} : pm_M d 0 0 yX7_seed cX7_seed 3 (some .int) [.ref 0, .int v] SHP I J (pm_D (some (.int (I 1 5))) SHP (pm_u I 1 5 v) J) := by
  refine pm_start (own := RX7) (nm := "seed") (by decide) rfl rfl (L := [(0, .ref 0), (1, .int v)]) rfl (Nat.le_of_ble_eq_true rfl) (fun Γ C C2 => ?_)
  refine g_aload_n (pc := 0) (i := 0) (j := 0) C dX7_seed_0 rfl rfl ?_
  refine g_getR (pc := 1) C dX7_seed_1 lfX7_10 (by first | rfl | assumption) rfl ?_
  refine g_getI (pc := 4) C dX7_seed_4 lfX7_87 (by first | rfl | assumption) rfl ?_
  refine g_istore_n (pc := 7) (i := 2) (L2 := [(0, _), (1, _), (2, _)]) C dX7_seed_7 rfl (by decide) rfl ?_
  refine g_aload_n (pc := 8) (i := 0) (j := 0) C dX7_seed_8 rfl rfl ?_
  refine g_getR (pc := 9) C dX7_seed_9 lfX7_10 (by first | rfl | assumption) rfl ?_
  refine g_iload_n (pc := 12) (i := 1) (j := 1) C dX7_seed_12 rfl rfl ?_
  refine g_putI (pc := 13) C dX7_seed_13 lpX7_87 rfl rfl (by first | rfl | assumption) rfl ?_
  refine g_iload_n (pc := 16) (i := 2) (j := 2) C dX7_seed_16 rfl rfl ?_
  refine g_iret (pc := 17) C C2 dX7_seed_17 rfl (Nat.le_refl _) (Nat.le_refl _) ?_
  clear C C2
  exact ⟨by first | rfl | grind, rfl, by first | rfl | grind, rfl⟩

set_option maxHeartbeats 4000000 in
set_option maxRecDepth 100000 in
theorem c_X7_balloon {d : Nat} {k a c : Int32} {I : pm_I} {J : pm_J} {n : Nat} (hn : I 1 2 = nI n) (h6 : n ≤ 6)  : pm_M (d + 3) 0 0 yX7_balloon cX7_balloon 4 (some .int) [.ref 0, .int k, .int a, .int c] SHP I J (pm_D (some (.int (if (0 ≤ k ∧ k ≤ 5) ∧ (0 ≤ a ∧ a ≤ 9) ∧ 0 ≤ c ∧ c ≤ 5 then (if n = 6 then -2 else nI n) else -1))) SHP (if ((0 ≤ k ∧ k ≤ 5) ∧ (0 ≤ a ∧ a ≤ 9) ∧ 0 ≤ c ∧ c ≤ 5) ∧ n ≠ 6 then pm_u (pm_s I (5 + 2 * n) (bl_first (I (5 + 2 * n)) k a c)) 1 2 (nI (n + 1)) else I) J) := by
  refine pm_start (own := RX7) (nm := "balloon") (by decide) rfl rfl (L := [(0, .ref 0), (1, .int k), (2, .int a), (3, .int c)]) rfl (Nat.le_of_ble_eq_true rfl) (fun Γ C C2 => ?_)
  refine g_iconst (pc := 0) (v := 0) C dX7_balloon_0 (by decide) ?_
  refine g_iload_n (pc := 1) (i := 1) (j := 1) C dX7_balloon_1 rfl rfl ?_
  refine g_callS (pc := 2) C dX7_balloon_2 lmX7_107 kcX7_fits (by decide) (c_X7_fits (z := 0) (by decide)) rfl rfl (Nat.le_of_ble_eq_true rfl) ?_
  intro r9 sh9 I9 J9 hD9; obtain ⟨rfl, rfl, rfl, rfl⟩ := pm_Dq hD9
  try simp only [Option.toList_some, Option.toList_none, List.cons_append, List.nil_append]
  refine g_if_eqB (pc := 5) (tgt := 24) C dX7_balloon_5 (by decide) (fun h5 => ?_) (fun h5 => ?_)
  · replace h5 : ¬ (0 ≤ k ∧ k ≤ 5) := h5
    refine g_iconst (pc := 24) (v := (-1)) C dX7_balloon_24 (by decide) ?_
    refine g_iret (pc := 25) C C2 dX7_balloon_25 rfl (Nat.le_refl _) (Nat.le_refl _) ?_
    clear C C2
    exact ⟨by first | rfl | grind, rfl, by first | rfl | grind, rfl⟩
  · replace h5 : 0 ≤ k ∧ k ≤ 5 := h5
    refine g_iconst (pc := 8) (v := 1) C dX7_balloon_8 (by decide) ?_
    refine g_iload_n (pc := 9) (i := 2) (j := 2) C dX7_balloon_9 rfl rfl ?_
    refine g_callS (pc := 10) C dX7_balloon_10 lmX7_107 kcX7_fits (by decide) (c_X7_fits (z := 1) (by decide)) rfl rfl (Nat.le_of_ble_eq_true rfl) ?_
    intro r9 sh9 I9 J9 hD9; obtain ⟨rfl, rfl, rfl, rfl⟩ := pm_Dq hD9
    try simp only [Option.toList_some, Option.toList_none, List.cons_append, List.nil_append]
    refine g_if_eqB (pc := 13) (tgt := 24) C dX7_balloon_13 (by decide) (fun h13 => ?_) (fun h13 => ?_)
    · replace h13 : ¬ (0 ≤ a ∧ a ≤ 9) := h13
      refine g_iconst (pc := 24) (v := (-1)) C dX7_balloon_24 (by decide) ?_
      refine g_iret (pc := 25) C C2 dX7_balloon_25 rfl (Nat.le_refl _) (Nat.le_refl _) ?_
      clear C C2
      exact ⟨by first | rfl | grind, rfl, by first | rfl | grind, rfl⟩
    · replace h13 : 0 ≤ a ∧ a ≤ 9 := h13
      refine g_iconst (pc := 16) (v := 2) C dX7_balloon_16 (by decide) ?_
      refine g_iload_n (pc := 17) (i := 3) (j := 3) C dX7_balloon_17 rfl rfl ?_
      refine g_callS (pc := 18) C dX7_balloon_18 lmX7_107 kcX7_fits (by decide) (c_X7_fits (z := 2) (by decide)) rfl rfl (Nat.le_of_ble_eq_true rfl) ?_
      intro r9 sh9 I9 J9 hD9; obtain ⟨rfl, rfl, rfl, rfl⟩ := pm_Dq hD9
      try simp only [Option.toList_some, Option.toList_none, List.cons_append, List.nil_append]
      refine g_if_neB (pc := 21) (tgt := 26) C dX7_balloon_21 (by decide) (fun h21 => ?_) (fun h21 => ?_)
      · replace h21 : 0 ≤ c ∧ c ≤ 5 := h21
        refine g_aload_n (pc := 26) (i := 0) (j := 0) C dX7_balloon_26 rfl rfl ?_
        refine g_getR (pc := 27) C dX7_balloon_27 lfX7_10 (by first | rfl | assumption) rfl ?_
        refine g_getI (pc := 30) C dX7_balloon_30 lfX7_93 (by first | rfl | assumption) rfl ?_
        refine g_bipush (pc := 33) (v := 6) C dX7_balloon_33 (by decide) ?_
        refine g_icmp_lt (pc := 35) (tgt := 41) C dX7_balloon_35 (by decide) (fun h35 => ?_) (fun h35 => ?_)
        · have e6 : n < 6 := by rw [hn] at h35; exact (nI_ltI (a := n) (b := 6) (by omega) (by omega)).mp h35
          refine g_aload_n (pc := 41) (i := 0) (j := 0) C dX7_balloon_41 rfl rfl ?_
          refine g_getR (pc := 42) C dX7_balloon_42 lfX7_10 (by first | rfl | assumption) rfl ?_
          refine g_iload_n (pc := 45) (i := 1) (j := 1) C dX7_balloon_45 rfl rfl ?_
          refine g_iload_n (pc := 46) (i := 2) (j := 2) C dX7_balloon_46 rfl rfl ?_
          refine g_iload_n (pc := 47) (i := 3) (j := 3) C dX7_balloon_47 rfl rfl ?_
          refine g_callV (pc := 48) C dX7_balloon_48 lmX7_111 kcX5_add (by decide) (by first | rfl | assumption) (c_X5_add_1 hn (by omega)) rfl rfl (Nat.le_of_ble_eq_true rfl) ?_
          intro r9 sh9 I9 J9 hD9; obtain ⟨rfl, rfl, rfl, rfl⟩ := pm_Dq hD9
          try simp only [Option.toList_some, Option.toList_none, List.cons_append, List.nil_append]
          refine g_aload_n (pc := 51) (i := 0) (j := 0) C dX7_balloon_51 rfl rfl ?_
          refine g_getR (pc := 52) C dX7_balloon_52 lfX7_10 (by first | rfl | assumption) rfl ?_
          refine g_getI (pc := 55) C dX7_balloon_55 lfX7_93 (by first | rfl | assumption) rfl ?_
          refine g_iconst (pc := 58) (v := 1) C dX7_balloon_58 (by decide) ?_
          refine g_isub (pc := 59) C dX7_balloon_59 ?_
          rw [pm_u_at, pk_us, nI_pred]
          refine g_iret (pc := 60) C C2 dX7_balloon_60 rfl (Nat.le_refl _) (Nat.le_refl _) ?_
          clear C C2
          exact ⟨by first | rfl | grind, rfl, by first | rfl | grind, rfl⟩
        · have e6 : n = 6 := by rw [hn] at h35; have := (nI_leI (a := 6) (b := n) (by omega) (by omega)).mp (Int32.not_lt.mp h35); omega
          refine g_bipush (pc := 38) (v := (-2)) C dX7_balloon_38 (by decide) ?_
          refine g_iret (pc := 40) C C2 dX7_balloon_40 rfl (Nat.le_refl _) (Nat.le_refl _) ?_
          clear C C2
          exact ⟨by first | rfl | grind, rfl, by first | rfl | grind, rfl⟩
      · replace h21 : ¬ (0 ≤ c ∧ c ≤ 5) := h21
        refine g_iconst (pc := 24) (v := (-1)) C dX7_balloon_24 (by decide) ?_
        refine g_iret (pc := 25) C C2 dX7_balloon_25 rfl (Nat.le_refl _) (Nat.le_refl _) ?_
        clear C C2
        exact ⟨by first | rfl | grind, rfl, by first | rfl | grind, rfl⟩

set_option maxHeartbeats 4000000 in
set_option maxRecDepth 100000 in
theorem c_X7_balloonOf {d : Nat} {x w : Int32} {I : pm_I} {J : pm_J} {n : Nat} (hn : I 1 2 = nI n) (h6 : n ≤ 6) {h : Nat} (hh : I 1 3 - I 1 3 / 24 * 24 = nI h) (hh24 : h < 24) : pm_M (d + 2) 0 0 yX7_balloonOf cX7_balloonOf 4 (some .int) [.ref 0, .int x, .int w] SHP I J (pm_D (some (.int (if (0 ≤ x ∧ x ≤ I 1 2 - 1) ∧ 0 ≤ w ∧ w ≤ 11 then bl_of (I (5 + 2 * x.toNatClampNeg)) w (I 2 h) (nI h) else -1))) SHP I J) := by
  refine pm_start (own := RX7) (nm := "balloonOf") (by decide) rfl rfl (L := [(0, .ref 0), (1, .int x), (2, .int w)]) rfl (Nat.le_of_ble_eq_true rfl) (fun Γ C C2 => ?_)
  refine g_aload_n (pc := 0) (i := 0) (j := 0) C dX7_balloonOf_0 rfl rfl ?_
  refine g_getR (pc := 1) C dX7_balloonOf_1 lfX7_10 (by first | rfl | assumption) rfl ?_
  refine g_iload_n (pc := 4) (i := 1) (j := 1) C dX7_balloonOf_4 rfl rfl ?_
  refine g_callV (pc := 5) C dX7_balloonOf_5 lmX7_115 kcX5_has (by decide) (by first | rfl | assumption) (c_X5_has) rfl rfl (Nat.le_of_ble_eq_true rfl) ?_
  intro r9 sh9 I9 J9 hD9; obtain ⟨rfl, rfl, rfl, rfl⟩ := pm_Dq hD9
  try simp only [Option.toList_some, Option.toList_none, List.cons_append, List.nil_append]
  refine g_if_eqB (pc := 8) (tgt := 21) C dX7_balloonOf_8 (by decide) (fun h8 => ?_) (fun h8 => ?_)
  · refine g_iconst (pc := 21) (v := (-1)) C dX7_balloonOf_21 (by decide) ?_
    refine g_iret (pc := 22) C C2 dX7_balloonOf_22 rfl (Nat.le_refl _) (Nat.le_refl _) ?_
    clear C C2
    try clear sBb sPb
    exact ⟨by first | rfl | grind [bl_of], rfl, by first | rfl | grind [bl_of], rfl⟩
  · refine g_iload_n (pc := 11) (i := 2) (j := 2) C dX7_balloonOf_11 rfl rfl ?_
    refine g_iconst (pc := 12) (v := 0) C dX7_balloonOf_12 (by decide) ?_
    refine g_bipush (pc := 13) (v := 11) C dX7_balloonOf_13 (by decide) ?_
    refine g_callS (pc := 15) C dX7_balloonOf_15 lmX7_72 kcX7_within (by decide) (c_X7_within) rfl rfl (Nat.le_of_ble_eq_true rfl) ?_
    intro r9 sh9 I9 J9 hD9; obtain ⟨rfl, rfl, rfl, rfl⟩ := pm_Dq hD9
    try simp only [Option.toList_some, Option.toList_none, List.cons_append, List.nil_append]
    refine g_if_neB (pc := 18) (tgt := 23) C dX7_balloonOf_18 (by decide) (fun h18 => ?_) (fun h18 => ?_)
    · obtain ⟨b, hb, rfl⟩ := pm_has hn h6 h8
      have ecb : (nI b).toNatClampNeg = b := nI_clamp (by omega)
      have sBb := shB b (by omega)
      have sPb := shP b (by omega)
      refine g_aload_n (pc := 23) (i := 0) (j := 0) C dX7_balloonOf_23 rfl rfl ?_
      refine g_getR (pc := 24) C dX7_balloonOf_24 lfX7_10 (by first | rfl | assumption) rfl ?_
      refine g_getR (pc := 27) C dX7_balloonOf_27 lfX7_118 (by first | rfl | assumption) rfl ?_
      refine g_iload_n (pc := 30) (i := 1) (j := 1) C dX7_balloonOf_30 rfl rfl ?_
      refine g_aald (pc := 31) C dX7_balloonOf_31 (by first | rfl | assumption) (fun _ => rfl) rfl (by decide) (by first | rfl | assumption) (rsB b (by omega)) ?_
      refine g_astore_n (pc := 32) (i := 3) (L2 := [(0, _), (1, _), (2, _), (3, _)]) C dX7_balloonOf_32 rfl (by decide) rfl ?_
      refine g_iload_n (pc := 33) (i := 2) (j := 2) C dX7_balloonOf_33 rfl rfl ?_
      refine pm_sw (9) (fun h34_0 => ?_) (fun h34_0 => ?_)
      · refine g_tsIn (pc := 34) (tgt := 60) (9) C dX7_balloonOf_34 (by rw [h34_0]; decide) (by decide) (by decide) rfl (by decide) ?_
        refine g_aload_n (pc := 60) (i := 3) (j := 3) C dX7_balloonOf_60 rfl rfl ?_
        refine g_callV (pc := 61) C dX7_balloonOf_61 lmX7_122 kcX1_weight (by decide) sBb (c_X1_weight sBb sPb) rfl rfl (Nat.le_of_ble_eq_true rfl) ?_
        intro r9 sh9 I9 J9 hD9; obtain ⟨rfl, rfl, rfl, rfl⟩ := pm_Dq hD9
        try simp only [Option.toList_some, Option.toList_none, List.cons_append, List.nil_append]
        refine g_iret (pc := 64) C C2 dX7_balloonOf_64 rfl (Nat.le_refl _) (Nat.le_refl _) ?_
        clear C C2
        try clear sBb sPb
        exact ⟨by first | rfl | grind [bl_of], rfl, by first | rfl | grind [bl_of], rfl⟩
      refine pm_sw (10) (fun h34_1 => ?_) (fun h34_1 => ?_)
      · refine g_tsIn (pc := 34) (tgt := 65) (10) C dX7_balloonOf_34 (by rw [h34_1]; decide) (by decide) (by decide) rfl (by decide) ?_
        refine g_aload_n (pc := 65) (i := 3) (j := 3) C dX7_balloonOf_65 rfl rfl ?_
        refine g_aload_n (pc := 66) (i := 0) (j := 0) C dX7_balloonOf_66 rfl rfl ?_
        refine g_getR (pc := 67) C dX7_balloonOf_67 lfX7_10 (by first | rfl | assumption) rfl ?_
        refine g_getR (pc := 70) C dX7_balloonOf_70 lfX7_100 (by first | rfl | assumption) rfl ?_
        refine g_aload_n (pc := 73) (i := 0) (j := 0) C dX7_balloonOf_73 rfl rfl ?_
        refine g_getR (pc := 74) C dX7_balloonOf_74 lfX7_10 (by first | rfl | assumption) rfl ?_
        refine g_callV (pc := 77) C dX7_balloonOf_77 lmX7_128 kcX5_hourNow (by decide) (by first | rfl | assumption) (c_X5_hourNow) rfl rfl (Nat.le_of_ble_eq_true rfl) ?_
        intro r9 sh9 I9 J9 hD9; obtain ⟨rfl, rfl, rfl, rfl⟩ := pm_Dq hD9
        try simp only [Option.toList_some, Option.toList_none, List.cons_append, List.nil_append]
        rw [hh]
        refine g_iald (pc := 80) C dX7_balloonOf_80 (by first | rfl | assumption) (by decide) (by first | rfl | assumption) (by first | assumption | decide | omega) ?_
        refine g_callV (pc := 81) C dX7_balloonOf_81 lmX7_131 kcX1_target (by decide) sBb (c_X1_target sBb sPb) rfl rfl (Nat.le_of_ble_eq_true rfl) ?_
        intro r9 sh9 I9 J9 hD9; obtain ⟨rfl, rfl, rfl, rfl⟩ := pm_Dq hD9
        try simp only [Option.toList_some, Option.toList_none, List.cons_append, List.nil_append]
        refine g_iret (pc := 84) C C2 dX7_balloonOf_84 rfl (Nat.le_refl _) (Nat.le_refl _) ?_
        clear C C2
        try clear sBb sPb
        exact ⟨by first | rfl | grind [bl_of], rfl, by first | rfl | grind [bl_of], rfl⟩
      refine pm_sw (11) (fun h34_2 => ?_) (fun h34_2 => ?_)
      · refine g_tsIn (pc := 34) (tgt := 85) (11) C dX7_balloonOf_34 (by rw [h34_2]; decide) (by decide) (by decide) rfl (by decide) ?_
        refine g_aload_n (pc := 85) (i := 3) (j := 3) C dX7_balloonOf_85 rfl rfl ?_
        refine g_aload_n (pc := 86) (i := 0) (j := 0) C dX7_balloonOf_86 rfl rfl ?_
        refine g_getR (pc := 87) C dX7_balloonOf_87 lfX7_10 (by first | rfl | assumption) rfl ?_
        refine g_callV (pc := 90) C dX7_balloonOf_90 lmX7_128 kcX5_hourNow (by decide) (by first | rfl | assumption) (c_X5_hourNow) rfl rfl (Nat.le_of_ble_eq_true rfl) ?_
        intro r9 sh9 I9 J9 hD9; obtain ⟨rfl, rfl, rfl, rfl⟩ := pm_Dq hD9
        try simp only [Option.toList_some, Option.toList_none, List.cons_append, List.nil_append]
        rw [hh]
        refine g_callV (pc := 93) C dX7_balloonOf_93 lmX7_135 kcX1_leaks (by decide) sBb (c_X1_leaks sBb sPb) rfl rfl (Nat.le_of_ble_eq_true rfl) ?_
        intro r9 sh9 I9 J9 hD9; obtain ⟨rfl, rfl, rfl, rfl⟩ := pm_Dq hD9
        try simp only [Option.toList_some, Option.toList_none, List.cons_append, List.nil_append]
        refine g_iret (pc := 96) C C2 dX7_balloonOf_96 rfl (Nat.le_refl _) (Nat.le_refl _) ?_
        clear C C2
        try clear sBb sPb
        exact ⟨by first | rfl | grind [bl_of], rfl, by first | rfl | grind [bl_of], rfl⟩
      refine g_tsOut (pc := 34) (tgt := 97) C dX7_balloonOf_34 (by have q0 := lv_neT (a := 9) h34_0 (by decide); have q1 := lv_neT (a := 10) h34_1 (by decide); have q2 := lv_neT (a := 11) h34_2 (by decide); omega) (by decide) ?_
      refine g_aload_n (pc := 97) (i := 3) (j := 3) C dX7_balloonOf_97 rfl rfl ?_
      refine g_getR (pc := 98) C dX7_balloonOf_98 lfX7_138 (by first | rfl | assumption) rfl ?_
      obtain ⟨z, hz, rfl⟩ : ∃ z, z < 9 ∧ w = nI z := by
          obtain ⟨z, hz, rfl⟩ := pm_ix (N := 12) h18.1 h18.2 (by decide)
          refine ⟨z, ?_, rfl⟩
          rcases (show z < 9 ∨ z = 9 ∨ z = 10 ∨ z = 11 by omega) with q | rfl | rfl | rfl
          · exact q
          · exact absurd rfl h34_0
          · exact absurd rfl h34_1
          · exact absurd rfl h34_2
      have ecz : (nI z).toNatClampNeg = z := nI_clamp (by omega)
      refine g_iload_n (pc := 101) (i := 2) (j := 2) C dX7_balloonOf_101 rfl rfl ?_
      refine g_iald (pc := 102) C dX7_balloonOf_102 (by first | rfl | assumption) (by decide) (by first | rfl | assumption) (by first | assumption | decide | omega) ?_
      refine g_iret (pc := 103) C C2 dX7_balloonOf_103 rfl (Nat.le_refl _) (Nat.le_refl _) ?_
      clear C C2
      try clear sBb sPb
      exact ⟨by first | rfl | grind [bl_of], rfl, by first | rfl | grind [bl_of], rfl⟩
    · refine g_iconst (pc := 21) (v := (-1)) C dX7_balloonOf_21 (by decide) ?_
      refine g_iret (pc := 22) C C2 dX7_balloonOf_22 rfl (Nat.le_refl _) (Nat.le_refl _) ?_
      clear C C2
      try clear sBb sPb
      exact ⟨by first | rfl | grind [bl_of], rfl, by first | rfl | grind [bl_of], rfl⟩

set_option maxHeartbeats 4000000 in
set_option maxRecDepth 100000 in
theorem c_X7_becomes {d : Nat} {x w v : Int32} {I : pm_I} {J : pm_J} {n : Nat} (hn : I 1 2 = nI n) (h6 : n ≤ 6)  : pm_M (d + 2) 0 0 yX7_becomes cX7_becomes 6 (some .int) [.ref 0, .int x, .int w, .int v] SHP I J (pm_D (some (.int (if (0 ≤ x ∧ x ≤ I 1 2 - 1) ∧ (2 ≤ w ∧ w ≤ 8) ∧ (pm_tv 1).getD w.toNatClampNeg 0 ≤ v ∧ v ≤ (pm_tv 2).getD w.toNatClampNeg 0 then I (5 + 2 * x.toNatClampNeg) w.toNatClampNeg else -1))) SHP (if (0 ≤ x ∧ x ≤ I 1 2 - 1) ∧ (2 ≤ w ∧ w ≤ 8) ∧ (pm_tv 1).getD w.toNatClampNeg 0 ≤ v ∧ v ≤ (pm_tv 2).getD w.toNatClampNeg 0 then pm_u I (5 + 2 * x.toNatClampNeg) w.toNatClampNeg v else I) J) := by
  refine pm_start (own := RX7) (nm := "becomes") (by decide) rfl rfl (L := [(0, .ref 0), (1, .int x), (2, .int w), (3, .int v)]) rfl (Nat.le_of_ble_eq_true rfl) (fun Γ C C2 => ?_)
  refine g_aload_n (pc := 0) (i := 0) (j := 0) C dX7_becomes_0 rfl rfl ?_
  refine g_getR (pc := 1) C dX7_becomes_1 lfX7_10 (by first | rfl | assumption) rfl ?_
  refine g_iload_n (pc := 4) (i := 1) (j := 1) C dX7_becomes_4 rfl rfl ?_
  refine g_callV (pc := 5) C dX7_becomes_5 lmX7_115 kcX5_has (by decide) (by first | rfl | assumption) (c_X5_has) rfl rfl (Nat.le_of_ble_eq_true rfl) ?_
  intro r9 sh9 I9 J9 hD9; obtain ⟨rfl, rfl, rfl, rfl⟩ := pm_Dq hD9
  try simp only [Option.toList_some, Option.toList_none, List.cons_append, List.nil_append]
  refine g_if_eqB (pc := 8) (tgt := 29) C dX7_becomes_8 (by decide) (fun h8 => ?_) (fun h8 => ?_)
  · refine g_iconst (pc := 29) (v := (-1)) C dX7_becomes_29 (by decide) ?_
    refine g_iret (pc := 30) C C2 dX7_becomes_30 rfl (Nat.le_refl _) (Nat.le_refl _) ?_
    clear C C2
    try clear sBb sPb
    exact ⟨by first | rfl | grind, rfl, by first | rfl | grind, rfl⟩
  · refine g_iload_n (pc := 11) (i := 2) (j := 2) C dX7_becomes_11 rfl rfl ?_
    refine g_iconst (pc := 12) (v := 2) C dX7_becomes_12 (by decide) ?_
    refine g_bipush (pc := 13) (v := 8) C dX7_becomes_13 (by decide) ?_
    refine g_callS (pc := 15) C dX7_becomes_15 lmX7_72 kcX7_within (by decide) (c_X7_within) rfl rfl (Nat.le_of_ble_eq_true rfl) ?_
    intro r9 sh9 I9 J9 hD9; obtain ⟨rfl, rfl, rfl, rfl⟩ := pm_Dq hD9
    try simp only [Option.toList_some, Option.toList_none, List.cons_append, List.nil_append]
    refine g_if_eqB (pc := 18) (tgt := 29) C dX7_becomes_18 (by decide) (fun h18 => ?_) (fun h18 => ?_)
    · refine g_iconst (pc := 29) (v := (-1)) C dX7_becomes_29 (by decide) ?_
      refine g_iret (pc := 30) C C2 dX7_becomes_30 rfl (Nat.le_refl _) (Nat.le_refl _) ?_
      clear C C2
      try clear sBb sPb
      exact ⟨by first | rfl | grind, rfl, by first | rfl | grind, rfl⟩
    · obtain ⟨z, hz, rfl⟩ := pm_ix (N := 9) (Int32.le_trans (by decide) h18.1) h18.2 (by decide)
      have ecz : (nI z).toNatClampNeg = z := nI_clamp (by omega)
      refine g_iload_n (pc := 21) (i := 2) (j := 2) C dX7_becomes_21 rfl rfl ?_
      refine g_iload_n (pc := 22) (i := 3) (j := 3) C dX7_becomes_22 rfl rfl ?_
      refine g_callS (pc := 23) C dX7_becomes_23 lmX7_107 kcX7_fits (by decide) (c_X7_fits hz) rfl rfl (Nat.le_of_ble_eq_true rfl) ?_
      intro r9 sh9 I9 J9 hD9; obtain ⟨rfl, rfl, rfl, rfl⟩ := pm_Dq hD9
      try simp only [Option.toList_some, Option.toList_none, List.cons_append, List.nil_append]
      refine g_if_neB (pc := 26) (tgt := 31) C dX7_becomes_26 (by decide) (fun h26 => ?_) (fun h26 => ?_)
      · obtain ⟨b, hb, rfl⟩ := pm_has hn h6 h8
        have ecb : (nI b).toNatClampNeg = b := nI_clamp (by omega)
        have sBb := shB b (by omega)
        have sPb := shP b (by omega)
        refine g_aload_n (pc := 31) (i := 0) (j := 0) C dX7_becomes_31 rfl rfl ?_
        refine g_getR (pc := 32) C dX7_becomes_32 lfX7_10 (by first | rfl | assumption) rfl ?_
        refine g_getR (pc := 35) C dX7_becomes_35 lfX7_118 (by first | rfl | assumption) rfl ?_
        refine g_iload_n (pc := 38) (i := 1) (j := 1) C dX7_becomes_38 rfl rfl ?_
        refine g_aald (pc := 39) C dX7_becomes_39 (by first | rfl | assumption) (fun _ => rfl) rfl (by decide) (by first | rfl | assumption) (rsB b (by omega)) ?_
        refine g_astore (pc := 40) (L2 := [(0, _), (1, _), (2, _), (3, _), (4, _)]) C dX7_becomes_40 (by decide) rfl ?_
        refine g_aload (pc := 42) (j := 4) C dX7_becomes_42 rfl ?_
        refine g_getR (pc := 44) C dX7_becomes_44 lfX7_138 (by first | rfl | assumption) rfl ?_
        refine g_iload_n (pc := 47) (i := 2) (j := 2) C dX7_becomes_47 rfl rfl ?_
        refine g_iald (pc := 48) C dX7_becomes_48 (by first | rfl | assumption) (by decide) (by first | rfl | assumption) (by first | assumption | decide | omega) ?_
        refine g_istore (pc := 49) (L2 := [(0, _), (1, _), (2, _), (3, _), (4, _), (5, _)]) C dX7_becomes_49 (by decide) rfl ?_
        refine g_aload (pc := 51) (j := 4) C dX7_becomes_51 rfl ?_
        refine g_getR (pc := 53) C dX7_becomes_53 lfX7_138 (by first | rfl | assumption) rfl ?_
        refine g_iload_n (pc := 56) (i := 2) (j := 2) C dX7_becomes_56 rfl rfl ?_
        refine g_iload_n (pc := 57) (i := 3) (j := 3) C dX7_becomes_57 rfl rfl ?_
        refine g_iast (pc := 58) C dX7_becomes_58 (by first | rfl | assumption) (by decide) (by first | rfl | assumption) (by first | assumption | decide | omega) ?_
        refine g_iload (pc := 59) (j := 5) C dX7_becomes_59 rfl ?_
        refine g_iret (pc := 61) C C2 dX7_becomes_61 rfl (Nat.le_refl _) (Nat.le_refl _) ?_
        clear C C2
        try clear sBb sPb
        exact ⟨by first | rfl | grind, rfl, by first | rfl | grind, rfl⟩
      · refine g_iconst (pc := 29) (v := (-1)) C dX7_becomes_29 (by decide) ?_
        refine g_iret (pc := 30) C C2 dX7_becomes_30 rfl (Nat.le_refl _) (Nat.le_refl _) ?_
        clear C C2
        try clear sBb sPb
        exact ⟨by first | rfl | grind, rfl, by first | rfl | grind, rfl⟩

set_option maxHeartbeats 4000000 in
set_option maxRecDepth 100000 in
theorem c_X7_mind {d : Nat} {x k a : Int32} {I : pm_I} {J : pm_J} {n : Nat} (hn : I 1 2 = nI n) (h6 : n ≤ 6)  : pm_M (d + 2) 0 0 yX7_mind cX7_mind 6 (some .int) [.ref 0, .int x, .int k, .int a] SHP I J (pm_D (some (.int (if (0 ≤ x ∧ x ≤ I 1 2 - 1) ∧ (0 ≤ k ∧ k ≤ 5) ∧ 0 ≤ a ∧ a ≤ 9 then I (5 + 2 * x.toNatClampNeg) 0 else -1))) SHP (if (0 ≤ x ∧ x ≤ I 1 2 - 1) ∧ (0 ≤ k ∧ k ≤ 5) ∧ 0 ≤ a ∧ a ≤ 9 then pm_u (pm_u I (5 + 2 * x.toNatClampNeg) 0 k) (5 + 2 * x.toNatClampNeg) 1 a else I) J) := by
  refine pm_start (own := RX7) (nm := "mind") (by decide) rfl rfl (L := [(0, .ref 0), (1, .int x), (2, .int k), (3, .int a)]) rfl (Nat.le_of_ble_eq_true rfl) (fun Γ C C2 => ?_)
  refine g_aload_n (pc := 0) (i := 0) (j := 0) C dX7_mind_0 rfl rfl ?_
  refine g_getR (pc := 1) C dX7_mind_1 lfX7_10 (by first | rfl | assumption) rfl ?_
  refine g_iload_n (pc := 4) (i := 1) (j := 1) C dX7_mind_4 rfl rfl ?_
  refine g_callV (pc := 5) C dX7_mind_5 lmX7_115 kcX5_has (by decide) (by first | rfl | assumption) (c_X5_has) rfl rfl (Nat.le_of_ble_eq_true rfl) ?_
  intro r9 sh9 I9 J9 hD9; obtain ⟨rfl, rfl, rfl, rfl⟩ := pm_Dq hD9
  try simp only [Option.toList_some, Option.toList_none, List.cons_append, List.nil_append]
  refine g_if_eqB (pc := 8) (tgt := 27) C dX7_mind_8 (by decide) (fun h8 => ?_) (fun h8 => ?_)
  · refine g_iconst (pc := 27) (v := (-1)) C dX7_mind_27 (by decide) ?_
    refine g_iret (pc := 28) C C2 dX7_mind_28 rfl (Nat.le_refl _) (Nat.le_refl _) ?_
    clear C C2
    try clear sBb sPb
    exact ⟨by first | rfl | grind, rfl, by first | rfl | grind, rfl⟩
  · refine g_iconst (pc := 11) (v := 0) C dX7_mind_11 (by decide) ?_
    refine g_iload_n (pc := 12) (i := 2) (j := 2) C dX7_mind_12 rfl rfl ?_
    refine g_callS (pc := 13) C dX7_mind_13 lmX7_107 kcX7_fits (by decide) (c_X7_fits (z := 0) (by decide)) rfl rfl (Nat.le_of_ble_eq_true rfl) ?_
    intro r9 sh9 I9 J9 hD9; obtain ⟨rfl, rfl, rfl, rfl⟩ := pm_Dq hD9
    try simp only [Option.toList_some, Option.toList_none, List.cons_append, List.nil_append]
    refine g_if_eqB (pc := 16) (tgt := 27) C dX7_mind_16 (by decide) (fun h16 => ?_) (fun h16 => ?_)
    · replace h16 : ¬ (0 ≤ k ∧ k ≤ 5) := h16
      refine g_iconst (pc := 27) (v := (-1)) C dX7_mind_27 (by decide) ?_
      refine g_iret (pc := 28) C C2 dX7_mind_28 rfl (Nat.le_refl _) (Nat.le_refl _) ?_
      clear C C2
      try clear sBb sPb
      exact ⟨by first | rfl | grind, rfl, by first | rfl | grind, rfl⟩
    · replace h16 : 0 ≤ k ∧ k ≤ 5 := h16
      refine g_iconst (pc := 19) (v := 1) C dX7_mind_19 (by decide) ?_
      refine g_iload_n (pc := 20) (i := 3) (j := 3) C dX7_mind_20 rfl rfl ?_
      refine g_callS (pc := 21) C dX7_mind_21 lmX7_107 kcX7_fits (by decide) (c_X7_fits (z := 1) (by decide)) rfl rfl (Nat.le_of_ble_eq_true rfl) ?_
      intro r9 sh9 I9 J9 hD9; obtain ⟨rfl, rfl, rfl, rfl⟩ := pm_Dq hD9
      try simp only [Option.toList_some, Option.toList_none, List.cons_append, List.nil_append]
      refine g_if_neB (pc := 24) (tgt := 29) C dX7_mind_24 (by decide) (fun h24 => ?_) (fun h24 => ?_)
      · replace h24 : 0 ≤ a ∧ a ≤ 9 := h24
        obtain ⟨b, hb, rfl⟩ := pm_has hn h6 h8
        have ecb : (nI b).toNatClampNeg = b := nI_clamp (by omega)
        have sBb := shB b (by omega)
        have sPb := shP b (by omega)
        refine g_aload_n (pc := 29) (i := 0) (j := 0) C dX7_mind_29 rfl rfl ?_
        refine g_getR (pc := 30) C dX7_mind_30 lfX7_10 (by first | rfl | assumption) rfl ?_
        refine g_getR (pc := 33) C dX7_mind_33 lfX7_118 (by first | rfl | assumption) rfl ?_
        refine g_iload_n (pc := 36) (i := 1) (j := 1) C dX7_mind_36 rfl rfl ?_
        refine g_aald (pc := 37) C dX7_mind_37 (by first | rfl | assumption) (fun _ => rfl) rfl (by decide) (by first | rfl | assumption) (rsB b (by omega)) ?_
        refine g_astore (pc := 38) (L2 := [(0, _), (1, _), (2, _), (3, _), (4, _)]) C dX7_mind_38 (by decide) rfl ?_
        refine g_aload (pc := 40) (j := 4) C dX7_mind_40 rfl ?_
        refine g_getR (pc := 42) C dX7_mind_42 lfX7_138 (by first | rfl | assumption) rfl ?_
        refine g_iconst (pc := 45) (v := 0) C dX7_mind_45 (by decide) ?_
        refine g_iald (pc := 46) C dX7_mind_46 (by first | rfl | assumption) (by decide) (by first | rfl | assumption) (by first | assumption | decide | omega) ?_
        refine g_istore (pc := 47) (L2 := [(0, _), (1, _), (2, _), (3, _), (4, _), (5, _)]) C dX7_mind_47 (by decide) rfl ?_
        refine g_aload (pc := 49) (j := 4) C dX7_mind_49 rfl ?_
        refine g_getR (pc := 51) C dX7_mind_51 lfX7_138 (by first | rfl | assumption) rfl ?_
        refine g_iconst (pc := 54) (v := 0) C dX7_mind_54 (by decide) ?_
        refine g_iload_n (pc := 55) (i := 2) (j := 2) C dX7_mind_55 rfl rfl ?_
        refine g_iast (pc := 56) C dX7_mind_56 (by first | rfl | assumption) (by decide) (by first | rfl | assumption) (by first | assumption | decide | omega) ?_
        refine g_aload (pc := 57) (j := 4) C dX7_mind_57 rfl ?_
        refine g_getR (pc := 59) C dX7_mind_59 lfX7_138 (by first | rfl | assumption) rfl ?_
        refine g_iconst (pc := 62) (v := 1) C dX7_mind_62 (by decide) ?_
        refine g_iload_n (pc := 63) (i := 3) (j := 3) C dX7_mind_63 rfl rfl ?_
        refine g_iast (pc := 64) C dX7_mind_64 (by first | rfl | assumption) (by decide) (by first | rfl | assumption) (by first | assumption | decide | omega) ?_
        refine g_iload (pc := 65) (j := 5) C dX7_mind_65 rfl ?_
        refine g_iret (pc := 67) C C2 dX7_mind_67 rfl (Nat.le_refl _) (Nat.le_refl _) ?_
        clear C C2
        try clear sBb sPb
        exact ⟨by first | rfl | grind, rfl, by first | rfl | grind, rfl⟩
      · replace h24 : ¬ (0 ≤ a ∧ a ≤ 9) := h24
        refine g_iconst (pc := 27) (v := (-1)) C dX7_mind_27 (by decide) ?_
        refine g_iret (pc := 28) C C2 dX7_mind_28 rfl (Nat.le_refl _) (Nat.le_refl _) ?_
        clear C C2
        try clear sBb sPb
        exact ⟨by first | rfl | grind, rfl, by first | rfl | grind, rfl⟩

set_option maxHeartbeats 4000000 in
set_option maxRecDepth 100000 in
theorem c_X7_pour {d : Nat} {x v : Int32} {I : pm_I} {J : pm_J} {n : Nat} (hn : I 1 2 = nI n) (h6 : n ≤ 6)  : pm_M (d + 2) 0 0 yX7_pour cX7_pour 4 (some .int) [.ref 0, .int x, .int v] SHP I J (pm_D (some (.int (if (0 ≤ x ∧ x ≤ I 1 2 - 1) ∧ 1 ≤ v ∧ v ≤ 999 then (if v ≤ I (5 + 2 * x.toNatClampNeg) 6 then I (5 + 2 * x.toNatClampNeg) 6 - v else -4) else -1))) SHP (if ((0 ≤ x ∧ x ≤ I 1 2 - 1) ∧ 1 ≤ v ∧ v ≤ 999) ∧ v ≤ I (5 + 2 * x.toNatClampNeg) 6 then pm_u I (5 + 2 * x.toNatClampNeg) 6 (I (5 + 2 * x.toNatClampNeg) 6 - v) else I) J) := by
  refine pm_start (own := RX7) (nm := "pour") (by decide) rfl rfl (L := [(0, .ref 0), (1, .int x), (2, .int v)]) rfl (Nat.le_of_ble_eq_true rfl) (fun Γ C C2 => ?_)
  refine g_aload_n (pc := 0) (i := 0) (j := 0) C dX7_pour_0 rfl rfl ?_
  refine g_getR (pc := 1) C dX7_pour_1 lfX7_10 (by first | rfl | assumption) rfl ?_
  refine g_iload_n (pc := 4) (i := 1) (j := 1) C dX7_pour_4 rfl rfl ?_
  refine g_callV (pc := 5) C dX7_pour_5 lmX7_115 kcX5_has (by decide) (by first | rfl | assumption) (c_X5_has) rfl rfl (Nat.le_of_ble_eq_true rfl) ?_
  intro r9 sh9 I9 J9 hD9; obtain ⟨rfl, rfl, rfl, rfl⟩ := pm_Dq hD9
  try simp only [Option.toList_some, Option.toList_none, List.cons_append, List.nil_append]
  refine g_if_eqB (pc := 8) (tgt := 25) C dX7_pour_8 (by decide) (fun h8 => ?_) (fun h8 => ?_)
  · refine g_iconst (pc := 25) (v := (-1)) C dX7_pour_25 (by decide) ?_
    refine g_iret (pc := 26) C C2 dX7_pour_26 rfl (Nat.le_refl _) (Nat.le_refl _) ?_
    clear C C2
    try clear sBb sPb
    exact ⟨by first | rfl | grind, rfl, by first | rfl | grind, rfl⟩
  · refine g_iload_n (pc := 11) (i := 2) (j := 2) C dX7_pour_11 rfl rfl ?_
    refine g_iconst (pc := 12) (v := 1) C dX7_pour_12 (by decide) ?_
    refine g_gets (pc := 13) (j := 2) C dX7_pour_13 (by decide) lsX7_141 ?_
    refine g_bipush (pc := 16) (v := 6) C dX7_pour_16 (by decide) ?_
    refine g_tald (pc := 18) (j := 2) C dX7_pour_18 (by decide) (by first | rfl | assumption) (by first | assumption | decide | omega) ?_
    refine g_callS (pc := 19) C dX7_pour_19 lmX7_72 kcX7_within (by decide) (c_X7_within) rfl rfl (Nat.le_of_ble_eq_true rfl) ?_
    intro r9 sh9 I9 J9 hD9; obtain ⟨rfl, rfl, rfl, rfl⟩ := pm_Dq hD9
    try simp only [Option.toList_some, Option.toList_none, List.cons_append, List.nil_append]
    refine g_if_neB (pc := 22) (tgt := 27) C dX7_pour_22 (by decide) (fun h22 => ?_) (fun h22 => ?_)
    · replace h22 : 1 ≤ v ∧ v ≤ 999 := h22
      obtain ⟨b, hb, rfl⟩ := pm_has hn h6 h8
      have ecb : (nI b).toNatClampNeg = b := nI_clamp (by omega)
      have sBb := shB b (by omega)
      have sPb := shP b (by omega)
      refine g_aload_n (pc := 27) (i := 0) (j := 0) C dX7_pour_27 rfl rfl ?_
      refine g_getR (pc := 28) C dX7_pour_28 lfX7_10 (by first | rfl | assumption) rfl ?_
      refine g_getR (pc := 31) C dX7_pour_31 lfX7_118 (by first | rfl | assumption) rfl ?_
      refine g_iload_n (pc := 34) (i := 1) (j := 1) C dX7_pour_34 rfl rfl ?_
      refine g_aald (pc := 35) C dX7_pour_35 (by first | rfl | assumption) (fun _ => rfl) rfl (by decide) (by first | rfl | assumption) (rsB b (by omega)) ?_
      refine g_astore_n (pc := 36) (i := 3) (L2 := [(0, _), (1, _), (2, _), (3, _)]) C dX7_pour_36 rfl (by decide) rfl ?_
      refine g_aload_n (pc := 37) (i := 3) (j := 3) C dX7_pour_37 rfl rfl ?_
      refine g_getR (pc := 38) C dX7_pour_38 lfX7_138 (by first | rfl | assumption) rfl ?_
      refine g_bipush (pc := 41) (v := 6) C dX7_pour_41 (by decide) ?_
      refine g_iald (pc := 43) C dX7_pour_43 (by first | rfl | assumption) (by decide) (by first | rfl | assumption) (by first | assumption | decide | omega) ?_
      refine g_iload_n (pc := 44) (i := 2) (j := 2) C dX7_pour_44 rfl rfl ?_
      refine g_icmp_ge (pc := 45) (tgt := 51) C dX7_pour_45 (by decide) (fun h45 => ?_) (fun h45 => ?_)
      · refine g_aload_n (pc := 51) (i := 3) (j := 3) C dX7_pour_51 rfl rfl ?_
        refine g_getR (pc := 52) C dX7_pour_52 lfX7_138 (by first | rfl | assumption) rfl ?_
        refine g_bipush (pc := 55) (v := 6) C dX7_pour_55 (by decide) ?_
        refine g_dup2 (pc := 57) C dX7_pour_57 rfl rfl ?_
        refine g_iald (pc := 58) C dX7_pour_58 (by first | rfl | assumption) (by decide) (by first | rfl | assumption) (by first | assumption | decide | omega) ?_
        refine g_iload_n (pc := 59) (i := 2) (j := 2) C dX7_pour_59 rfl rfl ?_
        refine g_isub (pc := 60) C dX7_pour_60 ?_
        refine g_iast (pc := 61) C dX7_pour_61 (by first | rfl | assumption) (by decide) (by first | rfl | assumption) (by first | assumption | decide | omega) ?_
        refine g_aload_n (pc := 62) (i := 3) (j := 3) C dX7_pour_62 rfl rfl ?_
        refine g_getR (pc := 63) C dX7_pour_63 lfX7_138 (by first | rfl | assumption) rfl ?_
        refine g_bipush (pc := 66) (v := 6) C dX7_pour_66 (by decide) ?_
        refine g_iald (pc := 68) C dX7_pour_68 (by first | rfl | assumption) (by decide) (by first | rfl | assumption) (by first | assumption | decide | omega) ?_
        rw [pm_u_at, pk_us]
        refine g_iret (pc := 69) C C2 dX7_pour_69 rfl (Nat.le_refl _) (Nat.le_refl _) ?_
        clear C C2
        try clear sBb sPb
        exact ⟨by first | rfl | grind, rfl, by first | rfl | grind, rfl⟩
      · refine g_bipush (pc := 48) (v := (-4)) C dX7_pour_48 (by decide) ?_
        refine g_iret (pc := 50) C C2 dX7_pour_50 rfl (Nat.le_refl _) (Nat.le_refl _) ?_
        clear C C2
        try clear sBb sPb
        exact ⟨by first | rfl | grind, rfl, by first | rfl | grind, rfl⟩
    · replace h22 : ¬ (1 ≤ v ∧ v ≤ 999) := h22
      refine g_iconst (pc := 25) (v := (-1)) C dX7_pour_25 (by decide) ?_
      refine g_iret (pc := 26) C C2 dX7_pour_26 rfl (Nat.le_refl _) (Nat.le_refl _) ?_
      clear C C2
      try clear sBb sPb
      exact ⟨by first | rfl | grind, rfl, by first | rfl | grind, rfl⟩

set_option maxHeartbeats 4000000 in
set_option maxRecDepth 100000 in
theorem c_X7_touches {d : Nat} {x : Int32} {I : pm_I} {J : pm_J} {n : Nat} (hn : I 1 2 = nI n) (h6 : n ≤ 6)  : pm_M (d + 3) 0 0 yX7_touches cX7_touches 2 (some .int) [.ref 0, .int x] SHP I J (pm_D (some (.int (if 0 ≤ x ∧ x ≤ I 1 2 - 1 then bl_tset (bl_L I) (I 1 4) x.toNatClampNeg n else -1))) SHP I J) := by
  refine pm_start (own := RX7) (nm := "touches") (by decide) rfl rfl (L := [(0, .ref 0), (1, .int x)]) rfl (Nat.le_of_ble_eq_true rfl) (fun Γ C C2 => ?_)
  refine g_aload_n (pc := 0) (i := 0) (j := 0) C dX7_touches_0 rfl rfl ?_
  refine g_getR (pc := 1) C dX7_touches_1 lfX7_10 (by first | rfl | assumption) rfl ?_
  refine g_iload_n (pc := 4) (i := 1) (j := 1) C dX7_touches_4 rfl rfl ?_
  refine g_callV (pc := 5) C dX7_touches_5 lmX7_115 kcX5_has (by decide) (by first | rfl | assumption) (c_X5_has) rfl rfl (Nat.le_of_ble_eq_true rfl) ?_
  intro r9 sh9 I9 J9 hD9; obtain ⟨rfl, rfl, rfl, rfl⟩ := pm_Dq hD9
  try simp only [Option.toList_some, Option.toList_none, List.cons_append, List.nil_append]
  refine g_if_eqB (pc := 8) (tgt := 22) C dX7_touches_8 (by decide) (fun h8 => ?_) (fun h8 => ?_)
  · refine g_iconst (pc := 22) (v := (-1)) C dX7_touches_22 (by decide) ?_
    refine g_iret (pc := 23) C C2 dX7_touches_23 rfl (Nat.le_refl _) (Nat.le_refl _) ?_
    clear C C2
    try clear sBb sPb
    exact ⟨by first | rfl | grind, rfl, by first | rfl | grind, rfl⟩
  · obtain ⟨b, hb, rfl⟩ := pm_has hn h6 h8
    have ecb : (nI b).toNatClampNeg = b := nI_clamp (by omega)
    have sBb := shB b (by omega)
    have sPb := shP b (by omega)
    refine g_aload_n (pc := 11) (i := 0) (j := 0) C dX7_touches_11 rfl rfl ?_
    refine g_getR (pc := 12) C dX7_touches_12 lfX7_10 (by first | rfl | assumption) rfl ?_
    refine g_iload_n (pc := 15) (i := 1) (j := 1) C dX7_touches_15 rfl rfl ?_
    refine g_callV (pc := 16) C dX7_touches_16 lmX7_148 kcX5_touchedBy (by decide) (by first | rfl | assumption) (c_X5_touchedBy (by omega) hn h6) rfl rfl (Nat.le_of_ble_eq_true rfl) ?_
    intro r9 sh9 I9 J9 hD9; obtain ⟨rfl, rfl, rfl, rfl⟩ := pm_Dq hD9
    try simp only [Option.toList_some, Option.toList_none, List.cons_append, List.nil_append]
    refine g_goto (pc := 19) (tgt := 23) C dX7_touches_19 (by decide) ?_
    refine g_iret (pc := 23) C C2 dX7_touches_23 rfl (Nat.le_refl _) (Nat.le_refl _) ?_
    clear C C2
    try clear sBb sPb
    exact ⟨by first | rfl | grind, rfl, by first | rfl | grind, rfl⟩

set_option maxHeartbeats 4000000 in
set_option maxRecDepth 100000 in
theorem c_X7_reached {d : Nat} {x : Int32} {I : pm_I} {J : pm_J} {n : Nat} (hn : I 1 2 = nI n) (h6 : n ≤ 6)  : pm_M (d + 4) 0 0 yX7_reached cX7_reached 2 (some .int) [.ref 0, .int x] SHP I J (pm_D (some (.int (if 0 ≤ x ∧ x ≤ I 1 2 - 1 then bl_reach (bl_L I) x.toNatClampNeg n else -1))) SHP I J) := by
  refine pm_start (own := RX7) (nm := "reached") (by decide) rfl rfl (L := [(0, .ref 0), (1, .int x)]) rfl (Nat.le_of_ble_eq_true rfl) (fun Γ C C2 => ?_)
  refine g_aload_n (pc := 0) (i := 0) (j := 0) C dX7_reached_0 rfl rfl ?_
  refine g_getR (pc := 1) C dX7_reached_1 lfX7_10 (by first | rfl | assumption) rfl ?_
  refine g_iload_n (pc := 4) (i := 1) (j := 1) C dX7_reached_4 rfl rfl ?_
  refine g_callV (pc := 5) C dX7_reached_5 lmX7_115 kcX5_has (by decide) (by first | rfl | assumption) (c_X5_has) rfl rfl (Nat.le_of_ble_eq_true rfl) ?_
  intro r9 sh9 I9 J9 hD9; obtain ⟨rfl, rfl, rfl, rfl⟩ := pm_Dq hD9
  try simp only [Option.toList_some, Option.toList_none, List.cons_append, List.nil_append]
  refine g_if_eqB (pc := 8) (tgt := 22) C dX7_reached_8 (by decide) (fun h8 => ?_) (fun h8 => ?_)
  · refine g_iconst (pc := 22) (v := (-1)) C dX7_reached_22 (by decide) ?_
    refine g_iret (pc := 23) C C2 dX7_reached_23 rfl (Nat.le_refl _) (Nat.le_refl _) ?_
    clear C C2
    try clear sBb sPb
    exact ⟨by first | rfl | grind, rfl, by first | rfl | grind, rfl⟩
  · obtain ⟨b, hb, rfl⟩ := pm_has hn h6 h8
    have ecb : (nI b).toNatClampNeg = b := nI_clamp (by omega)
    have sBb := shB b (by omega)
    have sPb := shP b (by omega)
    refine g_aload_n (pc := 11) (i := 0) (j := 0) C dX7_reached_11 rfl rfl ?_
    refine g_getR (pc := 12) C dX7_reached_12 lfX7_10 (by first | rfl | assumption) rfl ?_
    refine g_iload_n (pc := 15) (i := 1) (j := 1) C dX7_reached_15 rfl rfl ?_
    refine g_callV (pc := 16) C dX7_reached_16 lmX7_185 kcX5_reachedBy (by decide) (by first | rfl | assumption) (c_X5_reachedBy (by omega) hn h6) rfl rfl (Nat.le_of_ble_eq_true rfl) ?_
    intro r9 sh9 I9 J9 hD9; obtain ⟨rfl, rfl, rfl, rfl⟩ := pm_Dq hD9
    try simp only [Option.toList_some, Option.toList_none, List.cons_append, List.nil_append]
    refine g_goto (pc := 19) (tgt := 23) C dX7_reached_19 (by decide) ?_
    refine g_iret (pc := 23) C C2 dX7_reached_23 rfl (Nat.le_refl _) (Nat.le_refl _) ?_
    clear C C2
    try clear sBb sPb
    exact ⟨by first | rfl | grind, rfl, by first | rfl | grind, rfl⟩

set_option maxHeartbeats 4000000 in
set_option maxRecDepth 100000 in
theorem c_X7_above {d : Nat} {x w : Int32} {I : pm_I} {J : pm_J} {n : Nat} (hn : I 1 2 = nI n) (h6 : n ≤ 6)  : pm_M (d + 3) 0 0 yX7_above cX7_above 3 (some .int) [.ref 0, .int x, .int w] SHP I J (pm_D (some (.int (if (0 ≤ x ∧ x ≤ I 1 2 - 1) ∧ 0 ≤ w ∧ w ≤ 1 then (if w = 0 then bl_enc (bl_nextA (bl_L I) x.toNatClampNeg n) else bl_enc (bl_nextB (bl_L I) x.toNatClampNeg n)) else -1))) SHP I J) := by
  refine pm_start (own := RX7) (nm := "above") (by decide) rfl rfl (L := [(0, .ref 0), (1, .int x), (2, .int w)]) rfl (Nat.le_of_ble_eq_true rfl) (fun Γ C C2 => ?_)
  refine g_aload_n (pc := 0) (i := 0) (j := 0) C dX7_above_0 rfl rfl ?_
  refine g_getR (pc := 1) C dX7_above_1 lfX7_10 (by first | rfl | assumption) rfl ?_
  refine g_iload_n (pc := 4) (i := 1) (j := 1) C dX7_above_4 rfl rfl ?_
  refine g_callV (pc := 5) C dX7_above_5 lmX7_115 kcX5_has (by decide) (by first | rfl | assumption) (c_X5_has) rfl rfl (Nat.le_of_ble_eq_true rfl) ?_
  intro r9 sh9 I9 J9 hD9; obtain ⟨rfl, rfl, rfl, rfl⟩ := pm_Dq hD9
  try simp only [Option.toList_some, Option.toList_none, List.cons_append, List.nil_append]
  refine g_if_eqB (pc := 8) (tgt := 20) C dX7_above_8 (by decide) (fun h8 => ?_) (fun h8 => ?_)
  · refine g_iconst (pc := 20) (v := (-1)) C dX7_above_20 (by decide) ?_
    refine g_iret (pc := 21) C C2 dX7_above_21 rfl (Nat.le_refl _) (Nat.le_refl _) ?_
    clear C C2
    try clear sBb sPb
    exact ⟨by first | rfl | grind, rfl, by first | rfl | grind, rfl⟩
  · refine g_iload_n (pc := 11) (i := 2) (j := 2) C dX7_above_11 rfl rfl ?_
    refine g_iconst (pc := 12) (v := 0) C dX7_above_12 (by decide) ?_
    refine g_iconst (pc := 13) (v := 1) C dX7_above_13 (by decide) ?_
    refine g_callS (pc := 14) C dX7_above_14 lmX7_72 kcX7_within (by decide) (c_X7_within) rfl rfl (Nat.le_of_ble_eq_true rfl) ?_
    intro r9 sh9 I9 J9 hD9; obtain ⟨rfl, rfl, rfl, rfl⟩ := pm_Dq hD9
    try simp only [Option.toList_some, Option.toList_none, List.cons_append, List.nil_append]
    refine g_if_neB (pc := 17) (tgt := 22) C dX7_above_17 (by decide) (fun h17 => ?_) (fun h17 => ?_)
    · obtain ⟨b, hb, rfl⟩ := pm_has hn h6 h8
      have ecb : (nI b).toNatClampNeg = b := nI_clamp (by omega)
      have sBb := shB b (by omega)
      have sPb := shP b (by omega)
      refine g_iload_n (pc := 22) (i := 2) (j := 2) C dX7_above_22 rfl rfl ?_
      refine g_if_ne (pc := 23) (tgt := 37) C dX7_above_23 (by decide) (fun h23 => ?_) (fun h23 => ?_)
      · refine g_aload_n (pc := 37) (i := 0) (j := 0) C dX7_above_37 rfl rfl ?_
        refine g_getR (pc := 38) C dX7_above_38 lfX7_10 (by first | rfl | assumption) rfl ?_
        refine g_iload_n (pc := 41) (i := 1) (j := 1) C dX7_above_41 rfl rfl ?_
        refine g_callV (pc := 42) C dX7_above_42 lmX7_154 kcX5_nextBelow (by decide) (by first | rfl | assumption) (c_X5_nextBelow (by omega) hn h6) rfl rfl (Nat.le_of_ble_eq_true rfl) ?_
        intro r9 sh9 I9 J9 hD9; obtain ⟨rfl, rfl, rfl, rfl⟩ := pm_Dq hD9
        try simp only [Option.toList_some, Option.toList_none, List.cons_append, List.nil_append]
        refine g_iret (pc := 45) C C2 dX7_above_45 rfl (Nat.le_refl _) (Nat.le_refl _) ?_
        clear C C2
        try clear sBb sPb
        exact ⟨by first | rfl | grind, rfl, by first | rfl | grind, rfl⟩
      · refine g_aload_n (pc := 26) (i := 0) (j := 0) C dX7_above_26 rfl rfl ?_
        refine g_getR (pc := 27) C dX7_above_27 lfX7_10 (by first | rfl | assumption) rfl ?_
        refine g_iload_n (pc := 30) (i := 1) (j := 1) C dX7_above_30 rfl rfl ?_
        refine g_callV (pc := 31) C dX7_above_31 lmX7_151 kcX5_nextAbove (by decide) (by first | rfl | assumption) (c_X5_nextAbove (by omega) hn h6) rfl rfl (Nat.le_of_ble_eq_true rfl) ?_
        intro r9 sh9 I9 J9 hD9; obtain ⟨rfl, rfl, rfl, rfl⟩ := pm_Dq hD9
        try simp only [Option.toList_some, Option.toList_none, List.cons_append, List.nil_append]
        refine g_goto (pc := 34) (tgt := 45) C dX7_above_34 (by decide) ?_
        refine g_iret (pc := 45) C C2 dX7_above_45 rfl (Nat.le_refl _) (Nat.le_refl _) ?_
        clear C C2
        try clear sBb sPb
        exact ⟨by first | rfl | grind, rfl, by first | rfl | grind, rfl⟩
    · refine g_iconst (pc := 20) (v := (-1)) C dX7_above_20 (by decide) ?_
      refine g_iret (pc := 21) C C2 dX7_above_21 rfl (Nat.le_refl _) (Nat.le_refl _) ?_
      clear C C2
      try clear sBb sPb
      exact ⟨by first | rfl | grind, rfl, by first | rfl | grind, rfl⟩

set_option maxHeartbeats 4000000 in
set_option maxRecDepth 100000 in
theorem c_X7_lasts {d : Nat} {x : Int32} {I : pm_I} {J : pm_J} {n : Nat} (hn : I 1 2 = nI n) (h6 : n ≤ 6)  : pm_M (d + 2) 0 0 yX7_lasts cX7_lasts 4 (some .int) [.ref 0, .int x] SHP I J (pm_D (some (.int (if 0 ≤ x ∧ x ≤ I 1 2 - 1 then (if I (5 + 2 * x.toNatClampNeg) 7 = 0 then 0 else if 0 < I (5 + 2 * x.toNatClampNeg) 8 then (I (5 + 2 * x.toNatClampNeg) 7 + I (5 + 2 * x.toNatClampNeg) 8 - 1) / I (5 + 2 * x.toNatClampNeg) 8 else -3) else -1))) SHP I J) := by
  refine pm_start (own := RX7) (nm := "lasts") (by decide) rfl rfl (L := [(0, .ref 0), (1, .int x)]) rfl (Nat.le_of_ble_eq_true rfl) (fun Γ C C2 => ?_)
  refine g_aload_n (pc := 0) (i := 0) (j := 0) C dX7_lasts_0 rfl rfl ?_
  refine g_getR (pc := 1) C dX7_lasts_1 lfX7_10 (by first | rfl | assumption) rfl ?_
  refine g_iload_n (pc := 4) (i := 1) (j := 1) C dX7_lasts_4 rfl rfl ?_
  refine g_callV (pc := 5) C dX7_lasts_5 lmX7_115 kcX5_has (by decide) (by first | rfl | assumption) (c_X5_has) rfl rfl (Nat.le_of_ble_eq_true rfl) ?_
  intro r9 sh9 I9 J9 hD9; obtain ⟨rfl, rfl, rfl, rfl⟩ := pm_Dq hD9
  try simp only [Option.toList_some, Option.toList_none, List.cons_append, List.nil_append]
  refine g_if_neB (pc := 8) (tgt := 13) C dX7_lasts_8 (by decide) (fun h8 => ?_) (fun h8 => ?_)
  · obtain ⟨b, hb, rfl⟩ := pm_has hn h6 h8
    have ecb : (nI b).toNatClampNeg = b := nI_clamp (by omega)
    have sBb := shB b (by omega)
    have sPb := shP b (by omega)
    refine g_aload_n (pc := 13) (i := 0) (j := 0) C dX7_lasts_13 rfl rfl ?_
    refine g_getR (pc := 14) C dX7_lasts_14 lfX7_10 (by first | rfl | assumption) rfl ?_
    refine g_getR (pc := 17) C dX7_lasts_17 lfX7_118 (by first | rfl | assumption) rfl ?_
    refine g_iload_n (pc := 20) (i := 1) (j := 1) C dX7_lasts_20 rfl rfl ?_
    refine g_aald (pc := 21) C dX7_lasts_21 (by first | rfl | assumption) (fun _ => rfl) rfl (by decide) (by first | rfl | assumption) (rsB b (by omega)) ?_
    refine g_getR (pc := 22) C dX7_lasts_22 lfX7_138 (by first | rfl | assumption) rfl ?_
    refine g_bipush (pc := 25) (v := 7) C dX7_lasts_25 (by decide) ?_
    refine g_iald (pc := 27) C dX7_lasts_27 (by first | rfl | assumption) (by decide) (by first | rfl | assumption) (by first | assumption | decide | omega) ?_
    refine g_istore_n (pc := 28) (i := 2) (L2 := [(0, _), (1, _), (2, _)]) C dX7_lasts_28 rfl (by decide) rfl ?_
    refine g_aload_n (pc := 29) (i := 0) (j := 0) C dX7_lasts_29 rfl rfl ?_
    refine g_getR (pc := 30) C dX7_lasts_30 lfX7_10 (by first | rfl | assumption) rfl ?_
    refine g_getR (pc := 33) C dX7_lasts_33 lfX7_118 (by first | rfl | assumption) rfl ?_
    refine g_iload_n (pc := 36) (i := 1) (j := 1) C dX7_lasts_36 rfl rfl ?_
    refine g_aald (pc := 37) C dX7_lasts_37 (by first | rfl | assumption) (fun _ => rfl) rfl (by decide) (by first | rfl | assumption) (rsB b (by omega)) ?_
    refine g_getR (pc := 38) C dX7_lasts_38 lfX7_138 (by first | rfl | assumption) rfl ?_
    refine g_bipush (pc := 41) (v := 8) C dX7_lasts_41 (by decide) ?_
    refine g_iald (pc := 43) C dX7_lasts_43 (by first | rfl | assumption) (by decide) (by first | rfl | assumption) (by first | assumption | decide | omega) ?_
    refine g_istore_n (pc := 44) (i := 3) (L2 := [(0, _), (1, _), (2, _), (3, _)]) C dX7_lasts_44 rfl (by decide) rfl ?_
    refine g_iload_n (pc := 45) (i := 2) (j := 2) C dX7_lasts_45 rfl rfl ?_
    refine g_if_ne (pc := 46) (tgt := 51) C dX7_lasts_46 (by decide) (fun h46 => ?_) (fun h46 => ?_)
    · refine g_iload_n (pc := 51) (i := 3) (j := 3) C dX7_lasts_51 rfl rfl ?_
      refine g_if_gt (pc := 52) (tgt := 58) C dX7_lasts_52 (by decide) (fun h52 => ?_) (fun h52 => ?_)
      · refine g_iload_n (pc := 58) (i := 2) (j := 2) C dX7_lasts_58 rfl rfl ?_
        refine g_iload_n (pc := 59) (i := 3) (j := 3) C dX7_lasts_59 rfl rfl ?_
        refine g_iadd (pc := 60) C dX7_lasts_60 ?_
        refine g_iconst (pc := 61) (v := 1) C dX7_lasts_61 (by decide) ?_
        refine g_isub (pc := 62) C dX7_lasts_62 ?_
        refine g_iload_n (pc := 63) (i := 3) (j := 3) C dX7_lasts_63 rfl rfl ?_
        refine g_idiv (pc := 64) C dX7_lasts_64 (fun q => by rw [q] at h52; exact absurd h52 (by decide)) ?_
        refine g_iret (pc := 65) C C2 dX7_lasts_65 rfl (Nat.le_refl _) (Nat.le_refl _) ?_
        clear C C2
        try clear sBb sPb
        exact ⟨by first | rfl | grind, rfl, by first | rfl | grind, rfl⟩
      · refine g_bipush (pc := 55) (v := (-3)) C dX7_lasts_55 (by decide) ?_
        refine g_iret (pc := 57) C C2 dX7_lasts_57 rfl (Nat.le_refl _) (Nat.le_refl _) ?_
        clear C C2
        try clear sBb sPb
        exact ⟨by first | rfl | grind, rfl, by first | rfl | grind, rfl⟩
    · refine g_iconst (pc := 49) (v := 0) C dX7_lasts_49 (by decide) ?_
      refine g_iret (pc := 50) C C2 dX7_lasts_50 rfl (Nat.le_refl _) (Nat.le_refl _) ?_
      clear C C2
      try clear sBb sPb
      exact ⟨by first | rfl | grind, rfl, by first | rfl | grind, rfl⟩
  · refine g_iconst (pc := 11) (v := (-1)) C dX7_lasts_11 (by decide) ?_
    refine g_iret (pc := 12) C C2 dX7_lasts_12 rfl (Nat.le_refl _) (Nat.le_refl _) ?_
    clear C C2
    try clear sBb sPb
    exact ⟨by first | rfl | grind, rfl, by first | rfl | grind, rfl⟩
