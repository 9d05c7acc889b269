/-! The model: shelves, acts on them -/
abbrev mk_h (I : pm_I) (s : Nat) : Prop := I 117 s = 0 ∧ 0 ≤ I 118 s ∧ I 118 s ≤ I 102 2 - 1
def mk_on (I : pm_I) (s : Nat) : Int32 := if I 117 s = 0 then (if 0 ≤ I 118 s ∧ I 118 s ≤ I 102 2 - 1 then I 104 (I 118 s).toNatClampNeg else -1) else if I 117 s < 0 then -1 else 9
abbrev mk_un (k o : Int32) : Prop := o = 0 ∨ o = k ∨ (o = 1 ∧ k = 4) ∨ (o = 2 ∧ k = 3)
abbrev mk_tk (x w : Int32) : Prop := (0 ≤ x ∧ x ≤ 3) ∧ ((0 ≤ w ∧ w ≤ 5) ∨ (10 ≤ w ∧ w ≤ 13))
abbrev mk_hl (I : pm_I) (w v : Int32) : Prop := (w = 0 ∧ 0 ≤ v ∧ v ≤ I 102 2 - 1) ∨ (w = 1 ∧ 0 ≤ v ∧ v ≤ 3) ∨ w = 2
def mk_sh (I : pm_I) (x : Nat) (w v : Int32) : pm_I := pm_u (pm_u (pm_u I 117 x (if w = 2 ∨ (w = 1 ∧ I 114 v.toNatClampNeg < 0) then -1 else w)) 118 x (if w = 1 then I 114 v.toNatClampNeg else v)) 119 x (if w = 1 then I 115 v.toNatClampNeg else 0)
theorem ma_start {I : pm_I} {k n a : Int32} : ma_S (pm_u (pm_u (pm_u (pm_u (pm_u I 102 37 0) 102 33 k) 102 34 n) 102 35 a) 102 38 0) [] false := by
  refine ⟨?_, by decide, fun k hk => by simp at hk, ?_⟩
  · rw [pm_u_at, pk_un (by decide), pm_u_at, pk_un (by decide), pm_u_at, pk_un (by decide), pm_u_at, pk_un (by decide), pm_u_at, pk_us]
    rfl
  · rw [pm_u_at, pk_us]
    rfl
theorem ma_Q_of {I I2 : pm_I} {k n a : Int32} {ts : List Int32} {pt : Bool} (h : ma_R (pm_u (pm_u (pm_u (pm_u (pm_u I 102 37 0) 102 33 k) 102 34 n) 102 35 a) 102 38 0) ts pt I2) : ma_Q I ts I2 := by
  obtain ⟨h1, h2, h3, h4, h5, h6⟩ := h
  refine ⟨fun q q1 q2 => ?_, fun p hp => ?_, h3, h4, h5⟩
  · rw [h1 q q1 q2, pm_u_off q1, pm_u_off q1, pm_u_off q1, pm_u_off q1, pm_u_off q1]
  · rw [h2 p (by omega) (by omega), pm_u_at, pk_un (by omega), pm_u_at, pk_un (by omega), pm_u_at, pk_un (by omega), pm_u_at, pk_un (by omega), pm_u_at, pk_un (by omega)]
theorem mk_on_37 {I : pm_I} {s : Nat} : mk_on (pm_u I 102 37 0) s = mk_on I s := by
  unfold mk_on
  simp only [pm_u_off (show (117 : Nat) ≠ 102 by decide), pm_u_off (show (118 : Nat) ≠ 102 by decide), pm_u_off (show (104 : Nat) ≠ 102 by decide), pm_u_at, pk_un (show (2 : Nat) ≠ 37 by decide)]
theorem mk_on_no {I : pm_I} {s : Nat} (h : ¬ mk_h I s) : ¬ (0 ≤ mk_on I s ∧ mk_on I s ≤ 5) := by
  have e4 : mk_on I s = -1 ∨ mk_on I s = 9 := by
    unfold mk_on
    grind
  rcases e4 with e4 | e4 <;> rw [e4] <;> decide
set_option maxHeartbeats 4000000 in
set_option maxRecDepth 100000 in
theorem c_X8_kindOn {d : Nat} {I : pm_I} {J : pm_J} {n : Nat} (hn : I 102 2 = nI n) (h6 : n ≤ 6) {s : Nat} (hs : s < 4) : pm_M (d + 2) 0 0 yX8_kindOn cX8_kindOn 2 (some .int) [.ref 102, .int (nI s)] SHP I J (pm_D (some (.int (mk_on I s))) SHP I J) := by
  refine pm_start (own := RX8) (nm := "kindOn") (by decide) rfl rfl (L := [(0, .ref 102), (1, .int (nI s))]) rfl (Nat.le_of_ble_eq_true rfl) (fun Γ C C2 => ?_)
  refine g_aload_n (pc := 0) (i := 0) (j := 0) C dX8_kindOn_0 rfl rfl ?_
  refine g_getR (pc := 1) C dX8_kindOn_1 lfX8_60 (by first | rfl | assumption) rfl ?_
  refine g_iload_n (pc := 4) (i := 1) (j := 1) C dX8_kindOn_4 rfl rfl ?_
  refine g_iald (pc := 5) C dX8_kindOn_5 (by first | rfl | assumption) (by decide) (by first | rfl | assumption) (by first | assumption | decide | omega) ?_
  refine g_if_eq (pc := 6) (tgt := 25) C dX8_kindOn_6 (by decide) (fun h6z => ?_) (fun h6z => ?_)
  · refine g_aload_n (pc := 25) (i := 0) (j := 0) C dX8_kindOn_25 rfl rfl ?_
    refine g_aload_n (pc := 26) (i := 0) (j := 0) C dX8_kindOn_26 rfl rfl ?_
    refine g_getR (pc := 27) C dX8_kindOn_27 lfX8_63 (by first | rfl | assumption) rfl ?_
    refine g_iload_n (pc := 30) (i := 1) (j := 1) C dX8_kindOn_30 rfl rfl ?_
    refine g_iald (pc := 31) C dX8_kindOn_31 (by first | rfl | assumption) (by decide) (by first | rfl | assumption) (by first | assumption | decide | omega) ?_
    refine g_callV (pc := 32) C dX8_kindOn_32 lmX8_234 kcX8_isBalloon (by decide) (by first | rfl | assumption) (c_X8_isBalloon) rfl rfl (Nat.le_of_ble_eq_true rfl) ?_
    intro r9 sh9 I9 J9 hD9; obtain ⟨rfl, rfl, rfl, rfl⟩ := pm_Dq hD9; clear hD9
    try simp only [Option.toList_some, Option.toList_none, List.cons_append, List.nil_append]
    refine g_if_eqB (pc := 35) (tgt := 52) C dX8_kindOn_35 (by decide) (fun h35z => ?_) (fun h35z => ?_)
    · refine g_iconst (pc := 52) (v := (-1)) C dX8_kindOn_52 (by decide) ?_
      refine g_iret (pc := 53) C C2 dX8_kindOn_53 rfl (Nat.le_refl _) (Nat.le_refl _) ?_
      clear C C2
      refine ⟨?_, rfl, rfl, rfl⟩
      unfold mk_on
      first | (rw [if_neg h6z, if_pos (Int32.not_le.mp h15z)]) | (rw [if_neg h6z, if_neg (Int32.not_lt.mpr h15z)]) | (rw [if_pos h6z, if_pos h35z, eb, nI_clamp (by omega)]) | (rw [if_pos h6z, if_neg h35z])
    · obtain ⟨b, hb, eb⟩ := pm_hasN (x := I 118 s) (n := n) (by omega) (by rw [← hn]; exact h35z)
      refine g_aload_n (pc := 38) (i := 0) (j := 0) C dX8_kindOn_38 rfl rfl ?_
      refine g_getR (pc := 39) C dX8_kindOn_39 lfX8_17 (by first | rfl | assumption) rfl ?_
      refine g_aload_n (pc := 42) (i := 0) (j := 0) C dX8_kindOn_42 rfl rfl ?_
      refine g_getR (pc := 43) C dX8_kindOn_43 lfX8_63 (by first | rfl | assumption) rfl ?_
      refine g_iload_n (pc := 46) (i := 1) (j := 1) C dX8_kindOn_46 rfl rfl ?_
      refine g_iald (pc := 47) C dX8_kindOn_47 (by first | rfl | assumption) (by decide) (by first | rfl | assumption) (by first | assumption | decide | omega) ?_
      refine g_iald (pc := 48) (j := b) C dX8_kindOn_48 (by first | rfl | assumption) (by decide) eb (by omega) ?_
      refine g_goto (pc := 49) (tgt := 53) C dX8_kindOn_49 (by decide) ?_
      refine g_iret (pc := 53) C C2 dX8_kindOn_53 rfl (Nat.le_refl _) (Nat.le_refl _) ?_
      clear C C2
      refine ⟨?_, rfl, rfl, rfl⟩
      unfold mk_on
      first | (rw [if_neg h6z, if_pos (Int32.not_le.mp h15z)]) | (rw [if_neg h6z, if_neg (Int32.not_lt.mpr h15z)]) | (rw [if_pos h6z, if_pos h35z, eb, nI_clamp (by omega)]) | (rw [if_pos h6z, if_neg h35z])
  · refine g_aload_n (pc := 9) (i := 0) (j := 0) C dX8_kindOn_9 rfl rfl ?_
    refine g_getR (pc := 10) C dX8_kindOn_10 lfX8_60 (by first | rfl | assumption) rfl ?_
    refine g_iload_n (pc := 13) (i := 1) (j := 1) C dX8_kindOn_13 rfl rfl ?_
    refine g_iald (pc := 14) C dX8_kindOn_14 (by first | rfl | assumption) (by decide) (by first | rfl | assumption) (by first | assumption | decide | omega) ?_
    refine g_if_ge (pc := 15) (tgt := 22) C dX8_kindOn_15 (by decide) (fun h15z => ?_) (fun h15z => ?_)
    · refine g_bipush (pc := 22) (v := 9) C dX8_kindOn_22 (by decide) ?_
      refine g_iret (pc := 24) C C2 dX8_kindOn_24 rfl (Nat.le_refl _) (Nat.le_refl _) ?_
      clear C C2
      refine ⟨?_, rfl, rfl, rfl⟩
      unfold mk_on
      first | (rw [if_neg h6z, if_pos (Int32.not_le.mp h15z)]) | (rw [if_neg h6z, if_neg (Int32.not_lt.mpr h15z)]) | (rw [if_pos h6z, if_pos h35z, eb, nI_clamp (by omega)]) | (rw [if_pos h6z, if_neg h35z])
    · refine g_iconst (pc := 18) (v := (-1)) C dX8_kindOn_18 (by decide) ?_
      refine g_goto (pc := 19) (tgt := 24) C dX8_kindOn_19 (by decide) ?_
      refine g_iret (pc := 24) C C2 dX8_kindOn_24 rfl (Nat.le_refl _) (Nat.le_refl _) ?_
      clear C C2
      refine ⟨?_, rfl, rfl, rfl⟩
      unfold mk_on
      first | (rw [if_neg h6z, if_pos (Int32.not_le.mp h15z)]) | (rw [if_neg h6z, if_neg (Int32.not_lt.mpr h15z)]) | (rw [if_pos h6z, if_pos h35z, eb, nI_clamp (by omega)]) | (rw [if_pos h6z, if_neg h35z])

set_option maxHeartbeats 4000000 in
set_option maxRecDepth 100000 in
theorem c_X8_isUnder {d : Nat} {k z : Int32} {sh : List pm_S} {I : pm_I} {J : pm_J} : pm_M d 0 0 yX8_isUnder cX8_isUnder 2 (some .boolean) [.int k, .int z] sh I J (pm_D (some (.int (pm_b (mk_un k z)))) sh I J) := by
  refine pm_start (own := RX8) (nm := "isUnder") (by decide) rfl rfl (L := [(0, .int k), (1, .int z)]) rfl (Nat.le_of_ble_eq_true rfl) (fun Γ C C2 => ?_)
  refine g_iload_n (pc := 0) (i := 1) (j := 1) C dX8_isUnder_0 rfl rfl ?_
  refine g_if_eq (pc := 1) (tgt := 29) C dX8_isUnder_1 (by decide) (fun h1 => ?_) (fun h1 => ?_)
  · refine g_iconst (pc := 29) (v := 1) C dX8_isUnder_29 (by decide) ?_
    refine g_goto (pc := 30) (tgt := 34) C dX8_isUnder_30 (by decide) ?_
    refine g_iret (pc := 34) C C2 dX8_isUnder_34 (by first | rfl | exact pm_nz) (Nat.le_refl _) (Nat.le_refl _) ?_
    clear C C2
    exact ⟨by grind [pm_b], rfl, rfl, rfl⟩
  · refine g_iload_n (pc := 4) (i := 1) (j := 1) C dX8_isUnder_4 rfl rfl ?_
    refine g_iload_n (pc := 5) (i := 0) (j := 0) C dX8_isUnder_5 rfl rfl ?_
    refine g_icmp_eq (pc := 6) (tgt := 29) C dX8_isUnder_6 (by decide) (fun h6 => ?_) (fun h6 => ?_)
    · refine g_iconst (pc := 29) (v := 1) C dX8_isUnder_29 (by decide) ?_
      refine g_goto (pc := 30) (tgt := 34) C dX8_isUnder_30 (by decide) ?_
      refine g_iret (pc := 34) C C2 dX8_isUnder_34 (by first | rfl | exact pm_nz) (Nat.le_refl _) (Nat.le_refl _) ?_
      clear C C2
      exact ⟨by grind [pm_b], rfl, rfl, rfl⟩
    · refine g_iload_n (pc := 9) (i := 1) (j := 1) C dX8_isUnder_9 rfl rfl ?_
      refine g_iconst (pc := 10) (v := 1) C dX8_isUnder_10 (by decide) ?_
      refine g_icmp_ne (pc := 11) (tgt := 19) C dX8_isUnder_11 (by decide) (fun h11 => ?_) (fun h11 => ?_)
      · refine g_iload_n (pc := 19) (i := 1) (j := 1) C dX8_isUnder_19 rfl rfl ?_
        refine g_iconst (pc := 20) (v := 2) C dX8_isUnder_20 (by decide) ?_
        refine g_icmp_ne (pc := 21) (tgt := 33) C dX8_isUnder_21 (by decide) (fun h21 => ?_) (fun h21 => ?_)
        · refine g_iconst (pc := 33) (v := 0) C dX8_isUnder_33 (by decide) ?_
          refine g_iret (pc := 34) C C2 dX8_isUnder_34 (by first | rfl | exact pm_nz) (Nat.le_refl _) (Nat.le_refl _) ?_
          clear C C2
          exact ⟨by grind [pm_b], rfl, rfl, rfl⟩
        · refine g_iload_n (pc := 24) (i := 0) (j := 0) C dX8_isUnder_24 rfl rfl ?_
          refine g_iconst (pc := 25) (v := 3) C dX8_isUnder_25 (by decide) ?_
          refine g_icmp_ne (pc := 26) (tgt := 33) C dX8_isUnder_26 (by decide) (fun h26 => ?_) (fun h26 => ?_)
          · refine g_iconst (pc := 33) (v := 0) C dX8_isUnder_33 (by decide) ?_
            refine g_iret (pc := 34) C C2 dX8_isUnder_34 (by first | rfl | exact pm_nz) (Nat.le_refl _) (Nat.le_refl _) ?_
            clear C C2
            exact ⟨by grind [pm_b], rfl, rfl, rfl⟩
          · refine g_iconst (pc := 29) (v := 1) C dX8_isUnder_29 (by decide) ?_
            refine g_goto (pc := 30) (tgt := 34) C dX8_isUnder_30 (by decide) ?_
            refine g_iret (pc := 34) C C2 dX8_isUnder_34 (by first | rfl | exact pm_nz) (Nat.le_refl _) (Nat.le_refl _) ?_
            clear C C2
            exact ⟨by grind [pm_b], rfl, rfl, rfl⟩
      · refine g_iload_n (pc := 14) (i := 0) (j := 0) C dX8_isUnder_14 rfl rfl ?_
        refine g_iconst (pc := 15) (v := 4) C dX8_isUnder_15 (by decide) ?_
        refine g_icmp_eq (pc := 16) (tgt := 29) C dX8_isUnder_16 (by decide) (fun h16 => ?_) (fun h16 => ?_)
        · refine g_iconst (pc := 29) (v := 1) C dX8_isUnder_29 (by decide) ?_
          refine g_goto (pc := 30) (tgt := 34) C dX8_isUnder_30 (by decide) ?_
          refine g_iret (pc := 34) C C2 dX8_isUnder_34 (by first | rfl | exact pm_nz) (Nat.le_refl _) (Nat.le_refl _) ?_
          clear C C2
          exact ⟨by grind [pm_b], rfl, rfl, rfl⟩
        · refine g_iload_n (pc := 19) (i := 1) (j := 1) C dX8_isUnder_19 rfl rfl ?_
          refine g_iconst (pc := 20) (v := 2) C dX8_isUnder_20 (by decide) ?_
          refine g_icmp_ne (pc := 21) (tgt := 33) C dX8_isUnder_21 (by decide) (fun h21 => ?_) (fun h21 => ?_)
          · refine g_iconst (pc := 33) (v := 0) C dX8_isUnder_33 (by decide) ?_
            refine g_iret (pc := 34) C C2 dX8_isUnder_34 (by first | rfl | exact pm_nz) (Nat.le_refl _) (Nat.le_refl _) ?_
            clear C C2
            exact ⟨by grind [pm_b], rfl, rfl, rfl⟩
          · refine g_iload_n (pc := 24) (i := 0) (j := 0) C dX8_isUnder_24 rfl rfl ?_
            refine g_iconst (pc := 25) (v := 3) C dX8_isUnder_25 (by decide) ?_
            refine g_icmp_ne (pc := 26) (tgt := 33) C dX8_isUnder_26 (by decide) (fun h26 => ?_) (fun h26 => ?_)
            · refine g_iconst (pc := 33) (v := 0) C dX8_isUnder_33 (by decide) ?_
              refine g_iret (pc := 34) C C2 dX8_isUnder_34 (by first | rfl | exact pm_nz) (Nat.le_refl _) (Nat.le_refl _) ?_
              clear C C2
              exact ⟨by grind [pm_b], rfl, rfl, rfl⟩
            · refine g_iconst (pc := 29) (v := 1) C dX8_isUnder_29 (by decide) ?_
              refine g_goto (pc := 30) (tgt := 34) C dX8_isUnder_30 (by decide) ?_
              refine g_iret (pc := 34) C C2 dX8_isUnder_34 (by first | rfl | exact pm_nz) (Nat.le_refl _) (Nat.le_refl _) ?_
              clear C C2
              exact ⟨by grind [pm_b], rfl, rfl, rfl⟩

set_option maxHeartbeats 4000000 in
set_option maxRecDepth 100000 in
theorem c_X8_taken {d : Nat} {x w : Int32} {I : pm_I} {J : pm_J} {n : Nat} (hn : I 102 2 = nI n) (h6 : n ≤ 6)  : pm_M (d + 3) 0 0 yX8_taken cX8_taken 4 (some .int) [.ref 102, .int x, .int w] SHP I J (pm_D (some (.int (if mk_tk x w then (if mk_on I x.toNatClampNeg < 0 then -11 else if mk_on I x.toNatClampNeg = 9 then (if w = 10 + I 118 x.toNatClampNeg then I 119 x.toNatClampNeg else -13) else (if w < 10 ∧ mk_un (mk_on I x.toNatClampNeg) w then I 118 x.toNatClampNeg else -13)) else -1))) SHP I J) := by
  refine pm_start (own := RX8) (nm := "taken") (by decide) rfl rfl (L := [(0, .ref 102), (1, .int x), (2, .int w)]) rfl (Nat.le_of_ble_eq_true rfl) (fun Γ C C2 => ?_)
  refine g_iload_n (pc := 0) (i := 1) (j := 1) C dX8_taken_0 rfl rfl ?_
  refine g_callS (pc := 1) C dX8_taken_1 lmX8_324 kcX8_isShelf (by decide) (c_X8_isShelf) rfl rfl (Nat.le_of_ble_eq_true rfl) ?_
  intro r9 sh9 I9 J9 hD9; obtain ⟨rfl, rfl, rfl, rfl⟩ := pm_Dq hD9; clear hD9
  try simp only [Option.toList_some, Option.toList_none, List.cons_append, List.nil_append]
  refine g_if_eqB (pc := 4) (tgt := 27) C dX8_taken_4 (by decide) (fun h4z => ?_) (fun h4z => ?_)
  · refine g_iconst (pc := 27) (v := (-1)) C dX8_taken_27 (by decide) ?_
    refine g_iret (pc := 28) C C2 dX8_taken_28 rfl (Nat.le_refl _) (Nat.le_refl _) ?_
    clear C C2
    refine ⟨?_, rfl, rfl, rfl⟩
    try rw [ecs]
    try generalize mk_on I s = on at *
    grind
  · refine g_iload_n (pc := 7) (i := 2) (j := 2) C dX8_taken_7 rfl rfl ?_
    refine g_iconst (pc := 8) (v := 0) C dX8_taken_8 (by decide) ?_
    refine g_iconst (pc := 9) (v := 5) C dX8_taken_9 (by decide) ?_
    refine g_callS (pc := 10) C dX8_taken_10 lmX8_78 kcX8_in (by decide) (c_X8_in) rfl rfl (Nat.le_of_ble_eq_true rfl) ?_
    intro r9 sh9 I9 J9 hD9; obtain ⟨rfl, rfl, rfl, rfl⟩ := pm_Dq hD9; clear hD9
    try simp only [Option.toList_some, Option.toList_none, List.cons_append, List.nil_append]
    refine g_if_neB (pc := 13) (tgt := 29) C dX8_taken_13 (by decide) (fun h13z => ?_) (fun h13z => ?_)
    · have v4 := h4z
      obtain ⟨s, hs, rfl⟩ := pm_ix (N := 4) h4z.1 h4z.2 (by decide)
      have ecs : (nI s).toNatClampNeg = s := nI_clamp (by omega)
      refine g_aload_n (pc := 29) (i := 0) (j := 0) C dX8_taken_29 rfl rfl ?_
      refine g_iload_n (pc := 30) (i := 1) (j := 1) C dX8_taken_30 rfl rfl ?_
      refine g_callV (pc := 31) C dX8_taken_31 lmX8_337 kcX8_kindOn (by decide) (by first | rfl | assumption) (c_X8_kindOn hn h6 hs) rfl rfl (Nat.le_of_ble_eq_true rfl) ?_
      intro r9 sh9 I9 J9 hD9; obtain ⟨rfl, rfl, rfl, rfl⟩ := pm_Dq hD9; clear hD9
      try simp only [Option.toList_some, Option.toList_none, List.cons_append, List.nil_append]
      refine g_istore_n (pc := 34) (i := 3) (L2 := [(0, _), (1, _), (2, _), (3, _)]) C dX8_taken_34 rfl (by decide) rfl ?_
      refine g_iload_n (pc := 35) (i := 3) (j := 3) C dX8_taken_35 rfl rfl ?_
      refine g_if_ge (pc := 36) (tgt := 42) C dX8_taken_36 (by decide) (fun h36z => ?_) (fun h36z => ?_)
      · refine g_iload_n (pc := 42) (i := 3) (j := 3) C dX8_taken_42 rfl rfl ?_
        refine g_bipush (pc := 43) (v := 9) C dX8_taken_43 (by decide) ?_
        refine g_icmp_ne (pc := 45) (tgt := 73) C dX8_taken_45 (by decide) (fun h45z => ?_) (fun h45z => ?_)
        · refine g_iload_n (pc := 73) (i := 2) (j := 2) C dX8_taken_73 rfl rfl ?_
          refine g_bipush (pc := 74) (v := 10) C dX8_taken_74 (by decide) ?_
          refine g_icmp_ge (pc := 76) (tgt := 96) C dX8_taken_76 (by decide) (fun h76z => ?_) (fun h76z => ?_)
          · refine g_bipush (pc := 96) (v := (-13)) C dX8_taken_96 (by decide) ?_
            refine g_iret (pc := 98) C C2 dX8_taken_98 rfl (Nat.le_refl _) (Nat.le_refl _) ?_
            clear C C2
            refine ⟨?_, rfl, rfl, rfl⟩
            try rw [ecs]
            try generalize mk_on I s = on at *
            grind
          · refine g_iload_n (pc := 79) (i := 3) (j := 3) C dX8_taken_79 rfl rfl ?_
            refine g_iload_n (pc := 80) (i := 2) (j := 2) C dX8_taken_80 rfl rfl ?_
            refine g_callS (pc := 81) C dX8_taken_81 lmX8_340 kcX8_isUnder (by decide) (c_X8_isUnder) rfl rfl (Nat.le_of_ble_eq_true rfl) ?_
            intro r9 sh9 I9 J9 hD9; obtain ⟨rfl, rfl, rfl, rfl⟩ := pm_Dq hD9; clear hD9
            try simp only [Option.toList_some, Option.toList_none, List.cons_append, List.nil_append]
            refine g_if_eqB (pc := 84) (tgt := 96) C dX8_taken_84 (by decide) (fun h84z => ?_) (fun h84z => ?_)
            · refine g_bipush (pc := 96) (v := (-13)) C dX8_taken_96 (by decide) ?_
              refine g_iret (pc := 98) C C2 dX8_taken_98 rfl (Nat.le_refl _) (Nat.le_refl _) ?_
              clear C C2
              refine ⟨?_, rfl, rfl, rfl⟩
              try rw [ecs]
              try generalize mk_on I s = on at *
              grind
            · refine g_aload_n (pc := 87) (i := 0) (j := 0) C dX8_taken_87 rfl rfl ?_
              refine g_getR (pc := 88) C dX8_taken_88 lfX8_63 (by first | rfl | assumption) rfl ?_
              refine g_iload_n (pc := 91) (i := 1) (j := 1) C dX8_taken_91 rfl rfl ?_
              refine g_iald (pc := 92) C dX8_taken_92 (by first | rfl | assumption) (by decide) (by first | rfl | assumption) (by first | assumption | decide | omega) ?_
              refine g_goto (pc := 93) (tgt := 98) C dX8_taken_93 (by decide) ?_
              refine g_iret (pc := 98) C C2 dX8_taken_98 rfl (Nat.le_refl _) (Nat.le_refl _) ?_
              clear C C2
              refine ⟨?_, rfl, rfl, rfl⟩
              try rw [ecs]
              try generalize mk_on I s = on at *
              grind
        · refine g_iload_n (pc := 48) (i := 2) (j := 2) C dX8_taken_48 rfl rfl ?_
          refine g_bipush (pc := 49) (v := 10) C dX8_taken_49 (by decide) ?_
          refine g_aload_n (pc := 51) (i := 0) (j := 0) C dX8_taken_51 rfl rfl ?_
          refine g_getR (pc := 52) C dX8_taken_52 lfX8_63 (by first | rfl | assumption) rfl ?_
          refine g_iload_n (pc := 55) (i := 1) (j := 1) C dX8_taken_55 rfl rfl ?_
          refine g_iald (pc := 56) C dX8_taken_56 (by first | rfl | assumption) (by decide) (by first | rfl | assumption) (by first | assumption | decide | omega) ?_
          refine g_iadd (pc := 57) C dX8_taken_57 ?_
          refine g_icmp_ne (pc := 58) (tgt := 70) C dX8_taken_58 (by decide) (fun h58z => ?_) (fun h58z => ?_)
          · refine g_bipush (pc := 70) (v := (-13)) C dX8_taken_70 (by decide) ?_
            refine g_iret (pc := 72) C C2 dX8_taken_72 rfl (Nat.le_refl _) (Nat.le_refl _) ?_
            clear C C2
            refine ⟨?_, rfl, rfl, rfl⟩
            try rw [ecs]
            try generalize mk_on I s = on at *
            grind
          · refine g_aload_n (pc := 61) (i := 0) (j := 0) C dX8_taken_61 rfl rfl ?_
            refine g_getR (pc := 62) C dX8_taken_62 lfX8_66 (by first | rfl | assumption) rfl ?_
            refine g_iload_n (pc := 65) (i := 1) (j := 1) C dX8_taken_65 rfl rfl ?_
            refine g_iald (pc := 66) C dX8_taken_66 (by first | rfl | assumption) (by decide) (by first | rfl | assumption) (by first | assumption | decide | omega) ?_
            refine g_goto (pc := 67) (tgt := 72) C dX8_taken_67 (by decide) ?_
            refine g_iret (pc := 72) C C2 dX8_taken_72 rfl (Nat.le_refl _) (Nat.le_refl _) ?_
            clear C C2
            refine ⟨?_, rfl, rfl, rfl⟩
            try rw [ecs]
            try generalize mk_on I s = on at *
            grind
      · refine g_bipush (pc := 39) (v := (-11)) C dX8_taken_39 (by decide) ?_
        refine g_iret (pc := 41) C C2 dX8_taken_41 rfl (Nat.le_refl _) (Nat.le_refl _) ?_
        clear C C2
        refine ⟨?_, rfl, rfl, rfl⟩
        try rw [ecs]
        try generalize mk_on I s = on at *
        grind
    · refine g_iload_n (pc := 16) (i := 2) (j := 2) C dX8_taken_16 rfl rfl ?_
      refine g_bipush (pc := 17) (v := 10) C dX8_taken_17 (by decide) ?_
      refine g_bipush (pc := 19) (v := 13) C dX8_taken_19 (by decide) ?_
      refine g_callS (pc := 21) C dX8_taken_21 lmX8_78 kcX8_in (by decide) (c_X8_in) rfl rfl (Nat.le_of_ble_eq_true rfl) ?_
      intro r9 sh9 I9 J9 hD9; obtain ⟨rfl, rfl, rfl, rfl⟩ := pm_Dq hD9; clear hD9
      try simp only [Option.toList_some, Option.toList_none, List.cons_append, List.nil_append]
      refine g_if_neB (pc := 24) (tgt := 29) C dX8_taken_24 (by decide) (fun h24z => ?_) (fun h24z => ?_)
      · have v4 := h4z
        obtain ⟨s, hs, rfl⟩ := pm_ix (N := 4) h4z.1 h4z.2 (by decide)
        have ecs : (nI s).toNatClampNeg = s := nI_clamp (by omega)
        refine g_aload_n (pc := 29) (i := 0) (j := 0) C dX8_taken_29 rfl rfl ?_
        refine g_iload_n (pc := 30) (i := 1) (j := 1) C dX8_taken_30 rfl rfl ?_
        refine g_callV (pc := 31) C dX8_taken_31 lmX8_337 kcX8_kindOn (by decide) (by first | rfl | assumption) (c_X8_kindOn hn h6 hs) rfl rfl (Nat.le_of_ble_eq_true rfl) ?_
        intro r9 sh9 I9 J9 hD9; obtain ⟨rfl, rfl, rfl, rfl⟩ := pm_Dq hD9; clear hD9
        try simp only [Option.toList_some, Option.toList_none, List.cons_append, List.nil_append]
        refine g_istore_n (pc := 34) (i := 3) (L2 := [(0, _), (1, _), (2, _), (3, _)]) C dX8_taken_34 rfl (by decide) rfl ?_
        refine g_iload_n (pc := 35) (i := 3) (j := 3) C dX8_taken_35 rfl rfl ?_
        refine g_if_ge (pc := 36) (tgt := 42) C dX8_taken_36 (by decide) (fun h36z => ?_) (fun h36z => ?_)
        · refine g_iload_n (pc := 42) (i := 3) (j := 3) C dX8_taken_42 rfl rfl ?_
          refine g_bipush (pc := 43) (v := 9) C dX8_taken_43 (by decide) ?_
          refine g_icmp_ne (pc := 45) (tgt := 73) C dX8_taken_45 (by decide) (fun h45z => ?_) (fun h45z => ?_)
          · refine g_iload_n (pc := 73) (i := 2) (j := 2) C dX8_taken_73 rfl rfl ?_
            refine g_bipush (pc := 74) (v := 10) C dX8_taken_74 (by decide) ?_
            refine g_icmp_ge (pc := 76) (tgt := 96) C dX8_taken_76 (by decide) (fun h76z => ?_) (fun h76z => ?_)
            · refine g_bipush (pc := 96) (v := (-13)) C dX8_taken_96 (by decide) ?_
              refine g_iret (pc := 98) C C2 dX8_taken_98 rfl (Nat.le_refl _) (Nat.le_refl _) ?_
              clear C C2
              refine ⟨?_, rfl, rfl, rfl⟩
              try rw [ecs]
              try generalize mk_on I s = on at *
              grind
            · refine g_iload_n (pc := 79) (i := 3) (j := 3) C dX8_taken_79 rfl rfl ?_
              refine g_iload_n (pc := 80) (i := 2) (j := 2) C dX8_taken_80 rfl rfl ?_
              refine g_callS (pc := 81) C dX8_taken_81 lmX8_340 kcX8_isUnder (by decide) (c_X8_isUnder) rfl rfl (Nat.le_of_ble_eq_true rfl) ?_
              intro r9 sh9 I9 J9 hD9; obtain ⟨rfl, rfl, rfl, rfl⟩ := pm_Dq hD9; clear hD9
              try simp only [Option.toList_some, Option.toList_none, List.cons_append, List.nil_append]
              refine g_if_eqB (pc := 84) (tgt := 96) C dX8_taken_84 (by decide) (fun h84z => ?_) (fun h84z => ?_)
              · refine g_bipush (pc := 96) (v := (-13)) C dX8_taken_96 (by decide) ?_
                refine g_iret (pc := 98) C C2 dX8_taken_98 rfl (Nat.le_refl _) (Nat.le_refl _) ?_
                clear C C2
                refine ⟨?_, rfl, rfl, rfl⟩
                try rw [ecs]
                try generalize mk_on I s = on at *
                grind
              · refine g_aload_n (pc := 87) (i := 0) (j := 0) C dX8_taken_87 rfl rfl ?_
                refine g_getR (pc := 88) C dX8_taken_88 lfX8_63 (by first | rfl | assumption) rfl ?_
                refine g_iload_n (pc := 91) (i := 1) (j := 1) C dX8_taken_91 rfl rfl ?_
                refine g_iald (pc := 92) C dX8_taken_92 (by first | rfl | assumption) (by decide) (by first | rfl | assumption) (by first | assumption | decide | omega) ?_
                refine g_goto (pc := 93) (tgt := 98) C dX8_taken_93 (by decide) ?_
                refine g_iret (pc := 98) C C2 dX8_taken_98 rfl (Nat.le_refl _) (Nat.le_refl _) ?_
                clear C C2
                refine ⟨?_, rfl, rfl, rfl⟩
                try rw [ecs]
                try generalize mk_on I s = on at *
                grind
          · refine g_iload_n (pc := 48) (i := 2) (j := 2) C dX8_taken_48 rfl rfl ?_
            refine g_bipush (pc := 49) (v := 10) C dX8_taken_49 (by decide) ?_
            refine g_aload_n (pc := 51) (i := 0) (j := 0) C dX8_taken_51 rfl rfl ?_
            refine g_getR (pc := 52) C dX8_taken_52 lfX8_63 (by first | rfl | assumption) rfl ?_
            refine g_iload_n (pc := 55) (i := 1) (j := 1) C dX8_taken_55 rfl rfl ?_
            refine g_iald (pc := 56) C dX8_taken_56 (by first | rfl | assumption) (by decide) (by first | rfl | assumption) (by first | assumption | decide | omega) ?_
            refine g_iadd (pc := 57) C dX8_taken_57 ?_
            refine g_icmp_ne (pc := 58) (tgt := 70) C dX8_taken_58 (by decide) (fun h58z => ?_) (fun h58z => ?_)
            · refine g_bipush (pc := 70) (v := (-13)) C dX8_taken_70 (by decide) ?_
              refine g_iret (pc := 72) C C2 dX8_taken_72 rfl (Nat.le_refl _) (Nat.le_refl _) ?_
              clear C C2
              refine ⟨?_, rfl, rfl, rfl⟩
              try rw [ecs]
              try generalize mk_on I s = on at *
              grind
            · refine g_aload_n (pc := 61) (i := 0) (j := 0) C dX8_taken_61 rfl rfl ?_
              refine g_getR (pc := 62) C dX8_taken_62 lfX8_66 (by first | rfl | assumption) rfl ?_
              refine g_iload_n (pc := 65) (i := 1) (j := 1) C dX8_taken_65 rfl rfl ?_
              refine g_iald (pc := 66) C dX8_taken_66 (by first | rfl | assumption) (by decide) (by first | rfl | assumption) (by first | assumption | decide | omega) ?_
              refine g_goto (pc := 67) (tgt := 72) C dX8_taken_67 (by decide) ?_
              refine g_iret (pc := 72) C C2 dX8_taken_72 rfl (Nat.le_refl _) (Nat.le_refl _) ?_
              clear C C2
              refine ⟨?_, rfl, rfl, rfl⟩
              try rw [ecs]
              try generalize mk_on I s = on at *
              grind
        · refine g_bipush (pc := 39) (v := (-11)) C dX8_taken_39 (by decide) ?_
          refine g_iret (pc := 41) C C2 dX8_taken_41 rfl (Nat.le_refl _) (Nat.le_refl _) ?_
          clear C C2
          refine ⟨?_, rfl, rfl, rfl⟩
          try rw [ecs]
          try generalize mk_on I s = on at *
          grind
      · refine g_iconst (pc := 27) (v := (-1)) C dX8_taken_27 (by decide) ?_
        refine g_iret (pc := 28) C C2 dX8_taken_28 rfl (Nat.le_refl _) (Nat.le_refl _) ?_
        clear C C2
        refine ⟨?_, rfl, rfl, rfl⟩
        try rw [ecs]
        try generalize mk_on I s = on at *
        grind

set_option maxHeartbeats 4000000 in
set_option maxRecDepth 100000 in
theorem c_X8_isHeld {d : Nat} {w v : Int32} {I : pm_I} {J : pm_J} : pm_M (d + 2) 0 0 yX8_isHeld cX8_isHeld 3 (some .boolean) [.ref 102, .int w, .int v] SHP I J (pm_D (some (.int (pm_b (mk_hl I w v)))) SHP I J) := by
  refine pm_start (own := RX8) (nm := "isHeld") (by decide) rfl rfl (L := [(0, .ref 102), (1, .int w), (2, .int v)]) rfl (Nat.le_of_ble_eq_true rfl) (fun Γ C C2 => ?_)
  refine g_iload_n (pc := 0) (i := 1) (j := 1) C dX8_isHeld_0 rfl rfl ?_
  refine g_if_ne (pc := 1) (tgt := 12) C dX8_isHeld_1 (by decide) (fun h1 => ?_) (fun h1 => ?_)
  · refine g_iload_n (pc := 12) (i := 1) (j := 1) C dX8_isHeld_12 rfl rfl ?_
    refine g_iconst (pc := 13) (v := 1) C dX8_isHeld_13 (by decide) ?_
    refine g_icmp_ne (pc := 14) (tgt := 24) C dX8_isHeld_14 (by decide) (fun h14 => ?_) (fun h14 => ?_)
    · refine g_iload_n (pc := 24) (i := 1) (j := 1) C dX8_isHeld_24 rfl rfl ?_
      refine g_iconst (pc := 25) (v := 2) C dX8_isHeld_25 (by decide) ?_
      refine g_icmp_ne (pc := 26) (tgt := 33) C dX8_isHeld_26 (by decide) (fun h26 => ?_) (fun h26 => ?_)
      · refine g_iconst (pc := 33) (v := 0) C dX8_isHeld_33 (by decide) ?_
        refine g_iret (pc := 34) C C2 dX8_isHeld_34 (by first | rfl | exact pm_nz) (Nat.le_refl _) (Nat.le_refl _) ?_
        clear C C2
        exact ⟨by grind [pm_b], rfl, rfl, rfl⟩
      · refine g_iconst (pc := 29) (v := 1) C dX8_isHeld_29 (by decide) ?_
        refine g_goto (pc := 30) (tgt := 34) C dX8_isHeld_30 (by decide) ?_
        refine g_iret (pc := 34) C C2 dX8_isHeld_34 (by first | rfl | exact pm_nz) (Nat.le_refl _) (Nat.le_refl _) ?_
        clear C C2
        exact ⟨by grind [pm_b], rfl, rfl, rfl⟩
    · refine g_iload_n (pc := 17) (i := 2) (j := 2) C dX8_isHeld_17 rfl rfl ?_
      refine g_callS (pc := 18) C dX8_isHeld_18 lmX8_324 kcX8_isShelf (by decide) (c_X8_isShelf) rfl rfl (Nat.le_of_ble_eq_true rfl) ?_
      intro r9 sh9 I9 J9 hD9; obtain ⟨rfl, rfl, rfl, rfl⟩ := pm_Dq hD9; clear hD9
      try simp only [Option.toList_some, Option.toList_none, List.cons_append, List.nil_append]
      refine g_goto (pc := 21) (tgt := 34) C dX8_isHeld_21 (by decide) ?_
      refine g_iret (pc := 34) C C2 dX8_isHeld_34 (by first | rfl | exact pm_nz) (Nat.le_refl _) (Nat.le_refl _) ?_
      clear C C2
      exact ⟨by grind [pm_b], rfl, rfl, rfl⟩
  · refine g_aload_n (pc := 4) (i := 0) (j := 0) C dX8_isHeld_4 rfl rfl ?_
    refine g_iload_n (pc := 5) (i := 2) (j := 2) C dX8_isHeld_5 rfl rfl ?_
    refine g_callV (pc := 6) C dX8_isHeld_6 lmX8_234 kcX8_isBalloon (by decide) (by first | rfl | assumption) (c_X8_isBalloon) rfl rfl (Nat.le_of_ble_eq_true rfl) ?_
    intro r9 sh9 I9 J9 hD9; obtain ⟨rfl, rfl, rfl, rfl⟩ := pm_Dq hD9; clear hD9
    try simp only [Option.toList_some, Option.toList_none, List.cons_append, List.nil_append]
    refine g_goto (pc := 9) (tgt := 34) C dX8_isHeld_9 (by decide) ?_
    refine g_iret (pc := 34) C C2 dX8_isHeld_34 (by first | rfl | exact pm_nz) (Nat.le_refl _) (Nat.le_refl _) ?_
    clear C C2
    exact ⟨by grind [pm_b], rfl, rfl, rfl⟩

set_option maxHeartbeats 4000000 in
set_option maxRecDepth 100000 in
theorem c_X8_shelf {d : Nat} {x w v : Int32} {I : pm_I} {J : pm_J} {n : Nat} (hn : I 102 2 = nI n) (h6 : n ≤ 6)  : pm_M (d + 3) 0 0 yX8_shelf cX8_shelf 4 (some .int) [.ref 102, .int x, .int w, .int v] SHP I J (pm_D (some (.int (if (0 ≤ x ∧ x ≤ 3) ∧ mk_hl I w v then 1 else -1))) SHP (if (0 ≤ x ∧ x ≤ 3) ∧ mk_hl I w v then mk_sh I x.toNatClampNeg w v else I) J) := by
  refine pm_start (own := RX8) (nm := "shelf") (by decide) rfl rfl (L := [(0, .ref 102), (1, .int x), (2, .int w), (3, .int v)]) rfl (Nat.le_of_ble_eq_true rfl) (fun Γ C C2 => ?_)
  refine g_iload_n (pc := 0) (i := 1) (j := 1) C dX8_shelf_0 rfl rfl ?_
  refine g_callS (pc := 1) C dX8_shelf_1 lmX8_324 kcX8_isShelf (by decide) (c_X8_isShelf) rfl rfl (Nat.le_of_ble_eq_true rfl) ?_
  intro r9 sh9 I9 J9 hD9; obtain ⟨rfl, rfl, rfl, rfl⟩ := pm_Dq hD9; clear hD9
  try simp only [Option.toList_some, Option.toList_none, List.cons_append, List.nil_append]
  refine g_if_eqB (pc := 4) (tgt := 16) C dX8_shelf_4 (by decide) (fun h4z => ?_) (fun h4z => ?_)
  · refine g_iconst (pc := 16) (v := (-1)) C dX8_shelf_16 (by decide) ?_
    refine g_iret (pc := 17) C C2 dX8_shelf_17 rfl (Nat.le_refl _) (Nat.le_refl _) ?_
    first | exact ⟨by rw [if_neg (fun q => h4z q.1)], rfl, by rw [if_neg (fun q => h4z q.1)], rfl⟩ | exact ⟨by rw [if_neg (fun q => h13z q.2)], rfl, by rw [if_neg (fun q => h13z q.2)], rfl⟩ | exact absurd h55z h76z | exact absurd h76z h55z | skip
    all_goals refine ⟨by rw [if_pos ⟨v4, h13z⟩], rfl, ?_, rfl⟩
    all_goals rw [if_pos ⟨v4, h13z⟩, mk_sh, ecs]
    all_goals clear C C2
    all_goals (try simp only [pm_u_off (show (114 : Nat) ≠ 117 by decide), pm_u_off (show (115 : Nat) ≠ 117 by decide), pm_u_off (show (115 : Nat) ≠ 118 by decide), pm_u_off (show (114 : Nat) ≠ 118 by decide)])
    all_goals grind
  · refine g_aload_n (pc := 7) (i := 0) (j := 0) C dX8_shelf_7 rfl rfl ?_
    refine g_iload_n (pc := 8) (i := 2) (j := 2) C dX8_shelf_8 rfl rfl ?_
    refine g_iload_n (pc := 9) (i := 3) (j := 3) C dX8_shelf_9 rfl rfl ?_
    refine g_callV (pc := 10) C dX8_shelf_10 lmX8_334 kcX8_isHeld (by decide) (by first | rfl | assumption) (c_X8_isHeld) rfl rfl (Nat.le_of_ble_eq_true rfl) ?_
    intro r9 sh9 I9 J9 hD9; obtain ⟨rfl, rfl, rfl, rfl⟩ := pm_Dq hD9; clear hD9
    try simp only [Option.toList_some, Option.toList_none, List.cons_append, List.nil_append]
    refine g_if_neB (pc := 13) (tgt := 18) C dX8_shelf_13 (by decide) (fun h13z => ?_) (fun h13z => ?_)
    · have v4 := h4z
      obtain ⟨s, hs, rfl⟩ := pm_ix (N := 4) h4z.1 h4z.2 (by decide)
      have ecs : (nI s).toNatClampNeg = s := nI_clamp (by omega)
      refine g_aload_n (pc := 18) (i := 0) (j := 0) C dX8_shelf_18 rfl rfl ?_
      refine g_getR (pc := 19) C dX8_shelf_19 lfX8_60 (by first | rfl | assumption) rfl ?_
      refine g_iload_n (pc := 22) (i := 1) (j := 1) C dX8_shelf_22 rfl rfl ?_
      refine g_iload_n (pc := 23) (i := 2) (j := 2) C dX8_shelf_23 rfl rfl ?_
      refine g_iconst (pc := 24) (v := 2) C dX8_shelf_24 (by decide) ?_
      refine g_icmp_eq (pc := 25) (tgt := 42) C dX8_shelf_25 (by decide) (fun h25z => ?_) (fun h25z => ?_)
      · refine g_iconst (pc := 42) (v := (-1)) C dX8_shelf_42 (by decide) ?_
        refine g_goto (pc := 43) (tgt := 47) C dX8_shelf_43 (by decide) ?_
        refine g_iast (pc := 47) C dX8_shelf_47 (by first | rfl | assumption) (by decide) (by first | rfl | assumption) (by first | assumption | decide | omega) ?_
        refine g_aload_n (pc := 48) (i := 0) (j := 0) C dX8_shelf_48 rfl rfl ?_
        refine g_getR (pc := 49) C dX8_shelf_49 lfX8_63 (by first | rfl | assumption) rfl ?_
        refine g_iload_n (pc := 52) (i := 1) (j := 1) C dX8_shelf_52 rfl rfl ?_
        refine g_iload_n (pc := 53) (i := 2) (j := 2) C dX8_shelf_53 rfl rfl ?_
        refine g_iconst (pc := 54) (v := 1) C dX8_shelf_54 (by decide) ?_
        refine g_icmp_ne (pc := 55) (tgt := 67) C dX8_shelf_55 (by decide) (fun h55z => ?_) (fun h55z => ?_)
        · refine g_iload_n (pc := 67) (i := 3) (j := 3) C dX8_shelf_67 rfl rfl ?_
          refine g_iast (pc := 68) C dX8_shelf_68 (by first | rfl | assumption) (by decide) (by first | rfl | assumption) (by first | assumption | decide | omega) ?_
          refine g_aload_n (pc := 69) (i := 0) (j := 0) C dX8_shelf_69 rfl rfl ?_
          refine g_getR (pc := 70) C dX8_shelf_70 lfX8_66 (by first | rfl | assumption) rfl ?_
          refine g_iload_n (pc := 73) (i := 1) (j := 1) C dX8_shelf_73 rfl rfl ?_
          refine g_iload_n (pc := 74) (i := 2) (j := 2) C dX8_shelf_74 rfl rfl ?_
          refine g_iconst (pc := 75) (v := 1) C dX8_shelf_75 (by decide) ?_
          refine g_icmp_ne (pc := 76) (tgt := 88) C dX8_shelf_76 (by decide) (fun h76z => ?_) (fun h76z => ?_)
          · refine g_iconst (pc := 88) (v := 0) C dX8_shelf_88 (by decide) ?_
            refine g_iast (pc := 89) C dX8_shelf_89 (by first | rfl | assumption) (by decide) (by first | rfl | assumption) (by first | assumption | decide | omega) ?_
            refine g_iconst (pc := 90) (v := 1) C dX8_shelf_90 (by decide) ?_
            refine g_iret (pc := 91) C C2 dX8_shelf_91 rfl (Nat.le_refl _) (Nat.le_refl _) ?_
            first | exact ⟨by rw [if_neg (fun q => h4z q.1)], rfl, by rw [if_neg (fun q => h4z q.1)], rfl⟩ | exact ⟨by rw [if_neg (fun q => h13z q.2)], rfl, by rw [if_neg (fun q => h13z q.2)], rfl⟩ | exact absurd h55z h76z | exact absurd h76z h55z | skip
            all_goals refine ⟨by rw [if_pos ⟨v4, h13z⟩], rfl, ?_, rfl⟩
            all_goals rw [if_pos ⟨v4, h13z⟩, mk_sh, ecs]
            all_goals clear C C2
            all_goals (try simp only [pm_u_off (show (114 : Nat) ≠ 117 by decide), pm_u_off (show (115 : Nat) ≠ 117 by decide), pm_u_off (show (115 : Nat) ≠ 118 by decide), pm_u_off (show (114 : Nat) ≠ 118 by decide)])
            all_goals grind
          · have hv3 : 0 ≤ v ∧ v ≤ 3 := by rcases h13z with q | q | q; (exact absurd (h76z.symm.trans q.1) (by decide)); (exact q.2); exact absurd (h76z.symm.trans q) (by decide)
            refine g_aload_n (pc := 79) (i := 0) (j := 0) C dX8_shelf_79 rfl rfl ?_
            refine g_getR (pc := 80) C dX8_shelf_80 lfX8_53 (by first | rfl | assumption) rfl ?_
            refine g_iload_n (pc := 83) (i := 3) (j := 3) C dX8_shelf_83 rfl rfl ?_
            refine g_iald (pc := 84) (j := v.toNatClampNeg) C dX8_shelf_84 (by first | rfl | assumption) (by decide) (pm_nat hv3.1) (pm_lt hv3.1 hv3.2 (by decide)) ?_
            refine g_goto (pc := 85) (tgt := 89) C dX8_shelf_85 (by decide) ?_
            refine g_iast (pc := 89) C dX8_shelf_89 (by first | rfl | assumption) (by decide) (by first | rfl | assumption) (by first | assumption | decide | omega) ?_
            refine g_iconst (pc := 90) (v := 1) C dX8_shelf_90 (by decide) ?_
            refine g_iret (pc := 91) C C2 dX8_shelf_91 rfl (Nat.le_refl _) (Nat.le_refl _) ?_
            first | exact ⟨by rw [if_neg (fun q => h4z q.1)], rfl, by rw [if_neg (fun q => h4z q.1)], rfl⟩ | exact ⟨by rw [if_neg (fun q => h13z q.2)], rfl, by rw [if_neg (fun q => h13z q.2)], rfl⟩ | exact absurd h55z h76z | exact absurd h76z h55z | skip
            all_goals refine ⟨by rw [if_pos ⟨v4, h13z⟩], rfl, ?_, rfl⟩
            all_goals rw [if_pos ⟨v4, h13z⟩, mk_sh, ecs]
            all_goals clear C C2
            all_goals (try simp only [pm_u_off (show (114 : Nat) ≠ 117 by decide), pm_u_off (show (115 : Nat) ≠ 117 by decide), pm_u_off (show (115 : Nat) ≠ 118 by decide), pm_u_off (show (114 : Nat) ≠ 118 by decide)])
            all_goals grind
        · have hv3 : 0 ≤ v ∧ v ≤ 3 := by rcases h13z with q | q | q; (exact absurd (h55z.symm.trans q.1) (by decide)); (exact q.2); exact absurd (h55z.symm.trans q) (by decide)
          refine g_aload_n (pc := 58) (i := 0) (j := 0) C dX8_shelf_58 rfl rfl ?_
          refine g_getR (pc := 59) C dX8_shelf_59 lfX8_50 (by first | rfl | assumption) rfl ?_
          refine g_iload_n (pc := 62) (i := 3) (j := 3) C dX8_shelf_62 rfl rfl ?_
          refine g_iald (pc := 63) (j := v.toNatClampNeg) C dX8_shelf_63 (by first | rfl | assumption) (by decide) (pm_nat hv3.1) (pm_lt hv3.1 hv3.2 (by decide)) ?_
          refine g_goto (pc := 64) (tgt := 68) C dX8_shelf_64 (by decide) ?_
          refine g_iast (pc := 68) C dX8_shelf_68 (by first | rfl | assumption) (by decide) (by first | rfl | assumption) (by first | assumption | decide | omega) ?_
          refine g_aload_n (pc := 69) (i := 0) (j := 0) C dX8_shelf_69 rfl rfl ?_
          refine g_getR (pc := 70) C dX8_shelf_70 lfX8_66 (by first | rfl | assumption) rfl ?_
          refine g_iload_n (pc := 73) (i := 1) (j := 1) C dX8_shelf_73 rfl rfl ?_
          refine g_iload_n (pc := 74) (i := 2) (j := 2) C dX8_shelf_74 rfl rfl ?_
          refine g_iconst (pc := 75) (v := 1) C dX8_shelf_75 (by decide) ?_
          refine g_icmp_ne (pc := 76) (tgt := 88) C dX8_shelf_76 (by decide) (fun h76z => ?_) (fun h76z => ?_)
          · refine g_iconst (pc := 88) (v := 0) C dX8_shelf_88 (by decide) ?_
            refine g_iast (pc := 89) C dX8_shelf_89 (by first | rfl | assumption) (by decide) (by first | rfl | assumption) (by first | assumption | decide | omega) ?_
            refine g_iconst (pc := 90) (v := 1) C dX8_shelf_90 (by decide) ?_
            refine g_iret (pc := 91) C C2 dX8_shelf_91 rfl (Nat.le_refl _) (Nat.le_refl _) ?_
            first | exact ⟨by rw [if_neg (fun q => h4z q.1)], rfl, by rw [if_neg (fun q => h4z q.1)], rfl⟩ | exact ⟨by rw [if_neg (fun q => h13z q.2)], rfl, by rw [if_neg (fun q => h13z q.2)], rfl⟩ | exact absurd h55z h76z | exact absurd h76z h55z | skip
            all_goals refine ⟨by rw [if_pos ⟨v4, h13z⟩], rfl, ?_, rfl⟩
            all_goals rw [if_pos ⟨v4, h13z⟩, mk_sh, ecs]
            all_goals clear C C2
            all_goals (try simp only [pm_u_off (show (114 : Nat) ≠ 117 by decide), pm_u_off (show (115 : Nat) ≠ 117 by decide), pm_u_off (show (115 : Nat) ≠ 118 by decide), pm_u_off (show (114 : Nat) ≠ 118 by decide)])
            all_goals grind
          · have hv3 : 0 ≤ v ∧ v ≤ 3 := by rcases h13z with q | q | q; (exact absurd (h76z.symm.trans q.1) (by decide)); (exact q.2); exact absurd (h76z.symm.trans q) (by decide)
            refine g_aload_n (pc := 79) (i := 0) (j := 0) C dX8_shelf_79 rfl rfl ?_
            refine g_getR (pc := 80) C dX8_shelf_80 lfX8_53 (by first | rfl | assumption) rfl ?_
            refine g_iload_n (pc := 83) (i := 3) (j := 3) C dX8_shelf_83 rfl rfl ?_
            refine g_iald (pc := 84) (j := v.toNatClampNeg) C dX8_shelf_84 (by first | rfl | assumption) (by decide) (pm_nat hv3.1) (pm_lt hv3.1 hv3.2 (by decide)) ?_
            refine g_goto (pc := 85) (tgt := 89) C dX8_shelf_85 (by decide) ?_
            refine g_iast (pc := 89) C dX8_shelf_89 (by first | rfl | assumption) (by decide) (by first | rfl | assumption) (by first | assumption | decide | omega) ?_
            refine g_iconst (pc := 90) (v := 1) C dX8_shelf_90 (by decide) ?_
            refine g_iret (pc := 91) C C2 dX8_shelf_91 rfl (Nat.le_refl _) (Nat.le_refl _) ?_
            first | exact ⟨by rw [if_neg (fun q => h4z q.1)], rfl, by rw [if_neg (fun q => h4z q.1)], rfl⟩ | exact ⟨by rw [if_neg (fun q => h13z q.2)], rfl, by rw [if_neg (fun q => h13z q.2)], rfl⟩ | exact absurd h55z h76z | exact absurd h76z h55z | skip
            all_goals refine ⟨by rw [if_pos ⟨v4, h13z⟩], rfl, ?_, rfl⟩
            all_goals rw [if_pos ⟨v4, h13z⟩, mk_sh, ecs]
            all_goals clear C C2
            all_goals (try simp only [pm_u_off (show (114 : Nat) ≠ 117 by decide), pm_u_off (show (115 : Nat) ≠ 117 by decide), pm_u_off (show (115 : Nat) ≠ 118 by decide), pm_u_off (show (114 : Nat) ≠ 118 by decide)])
            all_goals grind
      · refine g_iload_n (pc := 28) (i := 2) (j := 2) C dX8_shelf_28 rfl rfl ?_
        refine g_iconst (pc := 29) (v := 1) C dX8_shelf_29 (by decide) ?_
        refine g_icmp_ne (pc := 30) (tgt := 46) C dX8_shelf_30 (by decide) (fun h30z => ?_) (fun h30z => ?_)
        · refine g_iload_n (pc := 46) (i := 2) (j := 2) C dX8_shelf_46 rfl rfl ?_
          refine g_iast (pc := 47) C dX8_shelf_47 (by first | rfl | assumption) (by decide) (by first | rfl | assumption) (by first | assumption | decide | omega) ?_
          refine g_aload_n (pc := 48) (i := 0) (j := 0) C dX8_shelf_48 rfl rfl ?_
          refine g_getR (pc := 49) C dX8_shelf_49 lfX8_63 (by first | rfl | assumption) rfl ?_
          refine g_iload_n (pc := 52) (i := 1) (j := 1) C dX8_shelf_52 rfl rfl ?_
          refine g_iload_n (pc := 53) (i := 2) (j := 2) C dX8_shelf_53 rfl rfl ?_
          refine g_iconst (pc := 54) (v := 1) C dX8_shelf_54 (by decide) ?_
          refine g_icmp_ne (pc := 55) (tgt := 67) C dX8_shelf_55 (by decide) (fun h55z => ?_) (fun h55z => ?_)
          · refine g_iload_n (pc := 67) (i := 3) (j := 3) C dX8_shelf_67 rfl rfl ?_
            refine g_iast (pc := 68) C dX8_shelf_68 (by first | rfl | assumption) (by decide) (by first | rfl | assumption) (by first | assumption | decide | omega) ?_
            refine g_aload_n (pc := 69) (i := 0) (j := 0) C dX8_shelf_69 rfl rfl ?_
            refine g_getR (pc := 70) C dX8_shelf_70 lfX8_66 (by first | rfl | assumption) rfl ?_
            refine g_iload_n (pc := 73) (i := 1) (j := 1) C dX8_shelf_73 rfl rfl ?_
            refine g_iload_n (pc := 74) (i := 2) (j := 2) C dX8_shelf_74 rfl rfl ?_
            refine g_iconst (pc := 75) (v := 1) C dX8_shelf_75 (by decide) ?_
            refine g_icmp_ne (pc := 76) (tgt := 88) C dX8_shelf_76 (by decide) (fun h76z => ?_) (fun h76z => ?_)
            · refine g_iconst (pc := 88) (v := 0) C dX8_shelf_88 (by decide) ?_
              refine g_iast (pc := 89) C dX8_shelf_89 (by first | rfl | assumption) (by decide) (by first | rfl | assumption) (by first | assumption | decide | omega) ?_
              refine g_iconst (pc := 90) (v := 1) C dX8_shelf_90 (by decide) ?_
              refine g_iret (pc := 91) C C2 dX8_shelf_91 rfl (Nat.le_refl _) (Nat.le_refl _) ?_
              first | exact ⟨by rw [if_neg (fun q => h4z q.1)], rfl, by rw [if_neg (fun q => h4z q.1)], rfl⟩ | exact ⟨by rw [if_neg (fun q => h13z q.2)], rfl, by rw [if_neg (fun q => h13z q.2)], rfl⟩ | exact absurd h55z h76z | exact absurd h76z h55z | skip
              all_goals refine ⟨by rw [if_pos ⟨v4, h13z⟩], rfl, ?_, rfl⟩
              all_goals rw [if_pos ⟨v4, h13z⟩, mk_sh, ecs]
              all_goals clear C C2
              all_goals (try simp only [pm_u_off (show (114 : Nat) ≠ 117 by decide), pm_u_off (show (115 : Nat) ≠ 117 by decide), pm_u_off (show (115 : Nat) ≠ 118 by decide), pm_u_off (show (114 : Nat) ≠ 118 by decide)])
              all_goals grind
            · have hv3 : 0 ≤ v ∧ v ≤ 3 := by rcases h13z with q | q | q; (exact absurd (h76z.symm.trans q.1) (by decide)); (exact q.2); exact absurd (h76z.symm.trans q) (by decide)
              refine g_aload_n (pc := 79) (i := 0) (j := 0) C dX8_shelf_79 rfl rfl ?_
              refine g_getR (pc := 80) C dX8_shelf_80 lfX8_53 (by first | rfl | assumption) rfl ?_
              refine g_iload_n (pc := 83) (i := 3) (j := 3) C dX8_shelf_83 rfl rfl ?_
              refine g_iald (pc := 84) (j := v.toNatClampNeg) C dX8_shelf_84 (by first | rfl | assumption) (by decide) (pm_nat hv3.1) (pm_lt hv3.1 hv3.2 (by decide)) ?_
              refine g_goto (pc := 85) (tgt := 89) C dX8_shelf_85 (by decide) ?_
              refine g_iast (pc := 89) C dX8_shelf_89 (by first | rfl | assumption) (by decide) (by first | rfl | assumption) (by first | assumption | decide | omega) ?_
              refine g_iconst (pc := 90) (v := 1) C dX8_shelf_90 (by decide) ?_
              refine g_iret (pc := 91) C C2 dX8_shelf_91 rfl (Nat.le_refl _) (Nat.le_refl _) ?_
              first | exact ⟨by rw [if_neg (fun q => h4z q.1)], rfl, by rw [if_neg (fun q => h4z q.1)], rfl⟩ | exact ⟨by rw [if_neg (fun q => h13z q.2)], rfl, by rw [if_neg (fun q => h13z q.2)], rfl⟩ | exact absurd h55z h76z | exact absurd h76z h55z | skip
              all_goals refine ⟨by rw [if_pos ⟨v4, h13z⟩], rfl, ?_, rfl⟩
              all_goals rw [if_pos ⟨v4, h13z⟩, mk_sh, ecs]
              all_goals clear C C2
              all_goals (try simp only [pm_u_off (show (114 : Nat) ≠ 117 by decide), pm_u_off (show (115 : Nat) ≠ 117 by decide), pm_u_off (show (115 : Nat) ≠ 118 by decide), pm_u_off (show (114 : Nat) ≠ 118 by decide)])
              all_goals grind
          · have hv3 : 0 ≤ v ∧ v ≤ 3 := by rcases h13z with q | q | q; (exact absurd (h55z.symm.trans q.1) (by decide)); (exact q.2); exact absurd (h55z.symm.trans q) (by decide)
            refine g_aload_n (pc := 58) (i := 0) (j := 0) C dX8_shelf_58 rfl rfl ?_
            refine g_getR (pc := 59) C dX8_shelf_59 lfX8_50 (by first | rfl | assumption) rfl ?_
            refine g_iload_n (pc := 62) (i := 3) (j := 3) C dX8_shelf_62 rfl rfl ?_
            refine g_iald (pc := 63) (j := v.toNatClampNeg) C dX8_shelf_63 (by first | rfl | assumption) (by decide) (pm_nat hv3.1) (pm_lt hv3.1 hv3.2 (by decide)) ?_
            refine g_goto (pc := 64) (tgt := 68) C dX8_shelf_64 (by decide) ?_
            refine g_iast (pc := 68) C dX8_shelf_68 (by first | rfl | assumption) (by decide) (by first | rfl | assumption) (by first | assumption | decide | omega) ?_
            refine g_aload_n (pc := 69) (i := 0) (j := 0) C dX8_shelf_69 rfl rfl ?_
            refine g_getR (pc := 70) C dX8_shelf_70 lfX8_66 (by first | rfl | assumption) rfl ?_
            refine g_iload_n (pc := 73) (i := 1) (j := 1) C dX8_shelf_73 rfl rfl ?_
            refine g_iload_n (pc := 74) (i := 2) (j := 2) C dX8_shelf_74 rfl rfl ?_
            refine g_iconst (pc := 75) (v := 1) C dX8_shelf_75 (by decide) ?_
            refine g_icmp_ne (pc := 76) (tgt := 88) C dX8_shelf_76 (by decide) (fun h76z => ?_) (fun h76z => ?_)
            · refine g_iconst (pc := 88) (v := 0) C dX8_shelf_88 (by decide) ?_
              refine g_iast (pc := 89) C dX8_shelf_89 (by first | rfl | assumption) (by decide) (by first | rfl | assumption) (by first | assumption | decide | omega) ?_
              refine g_iconst (pc := 90) (v := 1) C dX8_shelf_90 (by decide) ?_
              refine g_iret (pc := 91) C C2 dX8_shelf_91 rfl (Nat.le_refl _) (Nat.le_refl _) ?_
              first | exact ⟨by rw [if_neg (fun q => h4z q.1)], rfl, by rw [if_neg (fun q => h4z q.1)], rfl⟩ | exact ⟨by rw [if_neg (fun q => h13z q.2)], rfl, by rw [if_neg (fun q => h13z q.2)], rfl⟩ | exact absurd h55z h76z | exact absurd h76z h55z | skip
              all_goals refine ⟨by rw [if_pos ⟨v4, h13z⟩], rfl, ?_, rfl⟩
              all_goals rw [if_pos ⟨v4, h13z⟩, mk_sh, ecs]
              all_goals clear C C2
              all_goals (try simp only [pm_u_off (show (114 : Nat) ≠ 117 by decide), pm_u_off (show (115 : Nat) ≠ 117 by decide), pm_u_off (show (115 : Nat) ≠ 118 by decide), pm_u_off (show (114 : Nat) ≠ 118 by decide)])
              all_goals grind
            · have hv3 : 0 ≤ v ∧ v ≤ 3 := by rcases h13z with q | q | q; (exact absurd (h76z.symm.trans q.1) (by decide)); (exact q.2); exact absurd (h76z.symm.trans q) (by decide)
              refine g_aload_n (pc := 79) (i := 0) (j := 0) C dX8_shelf_79 rfl rfl ?_
              refine g_getR (pc := 80) C dX8_shelf_80 lfX8_53 (by first | rfl | assumption) rfl ?_
              refine g_iload_n (pc := 83) (i := 3) (j := 3) C dX8_shelf_83 rfl rfl ?_
              refine g_iald (pc := 84) (j := v.toNatClampNeg) C dX8_shelf_84 (by first | rfl | assumption) (by decide) (pm_nat hv3.1) (pm_lt hv3.1 hv3.2 (by decide)) ?_
              refine g_goto (pc := 85) (tgt := 89) C dX8_shelf_85 (by decide) ?_
              refine g_iast (pc := 89) C dX8_shelf_89 (by first | rfl | assumption) (by decide) (by first | rfl | assumption) (by first | assumption | decide | omega) ?_
              refine g_iconst (pc := 90) (v := 1) C dX8_shelf_90 (by decide) ?_
              refine g_iret (pc := 91) C C2 dX8_shelf_91 rfl (Nat.le_refl _) (Nat.le_refl _) ?_
              first | exact ⟨by rw [if_neg (fun q => h4z q.1)], rfl, by rw [if_neg (fun q => h4z q.1)], rfl⟩ | exact ⟨by rw [if_neg (fun q => h13z q.2)], rfl, by rw [if_neg (fun q => h13z q.2)], rfl⟩ | exact absurd h55z h76z | exact absurd h76z h55z | skip
              all_goals refine ⟨by rw [if_pos ⟨v4, h13z⟩], rfl, ?_, rfl⟩
              all_goals rw [if_pos ⟨v4, h13z⟩, mk_sh, ecs]
              all_goals clear C C2
              all_goals (try simp only [pm_u_off (show (114 : Nat) ≠ 117 by decide), pm_u_off (show (115 : Nat) ≠ 117 by decide), pm_u_off (show (115 : Nat) ≠ 118 by decide), pm_u_off (show (114 : Nat) ≠ 118 by decide)])
              all_goals grind
        · have hv3 : 0 ≤ v ∧ v ≤ 3 := by rcases h13z with q | q | q; (exact absurd (h30z.symm.trans q.1) (by decide)); (exact q.2); exact absurd q h25z
          refine g_aload_n (pc := 33) (i := 0) (j := 0) C dX8_shelf_33 rfl rfl ?_
          refine g_getR (pc := 34) C dX8_shelf_34 lfX8_50 (by first | rfl | assumption) rfl ?_
          refine g_iload_n (pc := 37) (i := 3) (j := 3) C dX8_shelf_37 rfl rfl ?_
          refine g_iald (pc := 38) (j := v.toNatClampNeg) C dX8_shelf_38 (by first | rfl | assumption) (by decide) (pm_nat hv3.1) (pm_lt hv3.1 hv3.2 (by decide)) ?_
          refine g_if_ge (pc := 39) (tgt := 46) C dX8_shelf_39 (by decide) (fun h39z => ?_) (fun h39z => ?_)
          · refine g_iload_n (pc := 46) (i := 2) (j := 2) C dX8_shelf_46 rfl rfl ?_
            refine g_iast (pc := 47) C dX8_shelf_47 (by first | rfl | assumption) (by decide) (by first | rfl | assumption) (by first | assumption | decide | omega) ?_
            refine g_aload_n (pc := 48) (i := 0) (j := 0) C dX8_shelf_48 rfl rfl ?_
            refine g_getR (pc := 49) C dX8_shelf_49 lfX8_63 (by first | rfl | assumption) rfl ?_
            refine g_iload_n (pc := 52) (i := 1) (j := 1) C dX8_shelf_52 rfl rfl ?_
            refine g_iload_n (pc := 53) (i := 2) (j := 2) C dX8_shelf_53 rfl rfl ?_
            refine g_iconst (pc := 54) (v := 1) C dX8_shelf_54 (by decide) ?_
            refine g_icmp_ne (pc := 55) (tgt := 67) C dX8_shelf_55 (by decide) (fun h55z => ?_) (fun h55z => ?_)
            · refine g_iload_n (pc := 67) (i := 3) (j := 3) C dX8_shelf_67 rfl rfl ?_
              refine g_iast (pc := 68) C dX8_shelf_68 (by first | rfl | assumption) (by decide) (by first | rfl | assumption) (by first | assumption | decide | omega) ?_
              refine g_aload_n (pc := 69) (i := 0) (j := 0) C dX8_shelf_69 rfl rfl ?_
              refine g_getR (pc := 70) C dX8_shelf_70 lfX8_66 (by first | rfl | assumption) rfl ?_
              refine g_iload_n (pc := 73) (i := 1) (j := 1) C dX8_shelf_73 rfl rfl ?_
              refine g_iload_n (pc := 74) (i := 2) (j := 2) C dX8_shelf_74 rfl rfl ?_
              refine g_iconst (pc := 75) (v := 1) C dX8_shelf_75 (by decide) ?_
              refine g_icmp_ne (pc := 76) (tgt := 88) C dX8_shelf_76 (by decide) (fun h76z => ?_) (fun h76z => ?_)
              · refine g_iconst (pc := 88) (v := 0) C dX8_shelf_88 (by decide) ?_
                refine g_iast (pc := 89) C dX8_shelf_89 (by first | rfl | assumption) (by decide) (by first | rfl | assumption) (by first | assumption | decide | omega) ?_
                refine g_iconst (pc := 90) (v := 1) C dX8_shelf_90 (by decide) ?_
                refine g_iret (pc := 91) C C2 dX8_shelf_91 rfl (Nat.le_refl _) (Nat.le_refl _) ?_
                first | exact ⟨by rw [if_neg (fun q => h4z q.1)], rfl, by rw [if_neg (fun q => h4z q.1)], rfl⟩ | exact ⟨by rw [if_neg (fun q => h13z q.2)], rfl, by rw [if_neg (fun q => h13z q.2)], rfl⟩ | exact absurd h55z h76z | exact absurd h76z h55z | skip
                all_goals refine ⟨by rw [if_pos ⟨v4, h13z⟩], rfl, ?_, rfl⟩
                all_goals rw [if_pos ⟨v4, h13z⟩, mk_sh, ecs]
                all_goals clear C C2
                all_goals (try simp only [pm_u_off (show (114 : Nat) ≠ 117 by decide), pm_u_off (show (115 : Nat) ≠ 117 by decide), pm_u_off (show (115 : Nat) ≠ 118 by decide), pm_u_off (show (114 : Nat) ≠ 118 by decide)])
                all_goals grind
              · have hv3 : 0 ≤ v ∧ v ≤ 3 := by rcases h13z with q | q | q; (exact absurd (h76z.symm.trans q.1) (by decide)); (exact q.2); exact absurd (h76z.symm.trans q) (by decide)
                refine g_aload_n (pc := 79) (i := 0) (j := 0) C dX8_shelf_79 rfl rfl ?_
                refine g_getR (pc := 80) C dX8_shelf_80 lfX8_53 (by first | rfl | assumption) rfl ?_
                refine g_iload_n (pc := 83) (i := 3) (j := 3) C dX8_shelf_83 rfl rfl ?_
                refine g_iald (pc := 84) (j := v.toNatClampNeg) C dX8_shelf_84 (by first | rfl | assumption) (by decide) (pm_nat hv3.1) (pm_lt hv3.1 hv3.2 (by decide)) ?_
                refine g_goto (pc := 85) (tgt := 89) C dX8_shelf_85 (by decide) ?_
                refine g_iast (pc := 89) C dX8_shelf_89 (by first | rfl | assumption) (by decide) (by first | rfl | assumption) (by first | assumption | decide | omega) ?_
                refine g_iconst (pc := 90) (v := 1) C dX8_shelf_90 (by decide) ?_
                refine g_iret (pc := 91) C C2 dX8_shelf_91 rfl (Nat.le_refl _) (Nat.le_refl _) ?_
                first | exact ⟨by rw [if_neg (fun q => h4z q.1)], rfl, by rw [if_neg (fun q => h4z q.1)], rfl⟩ | exact ⟨by rw [if_neg (fun q => h13z q.2)], rfl, by rw [if_neg (fun q => h13z q.2)], rfl⟩ | exact absurd h55z h76z | exact absurd h76z h55z | skip
                all_goals refine ⟨by rw [if_pos ⟨v4, h13z⟩], rfl, ?_, rfl⟩
                all_goals rw [if_pos ⟨v4, h13z⟩, mk_sh, ecs]
                all_goals clear C C2
                all_goals (try simp only [pm_u_off (show (114 : Nat) ≠ 117 by decide), pm_u_off (show (115 : Nat) ≠ 117 by decide), pm_u_off (show (115 : Nat) ≠ 118 by decide), pm_u_off (show (114 : Nat) ≠ 118 by decide)])
                all_goals grind
            · have hv3 : 0 ≤ v ∧ v ≤ 3 := by rcases h13z with q | q | q; (exact absurd (h55z.symm.trans q.1) (by decide)); (exact q.2); exact absurd (h55z.symm.trans q) (by decide)
              refine g_aload_n (pc := 58) (i := 0) (j := 0) C dX8_shelf_58 rfl rfl ?_
              refine g_getR (pc := 59) C dX8_shelf_59 lfX8_50 (by first | rfl | assumption) rfl ?_
              refine g_iload_n (pc := 62) (i := 3) (j := 3) C dX8_shelf_62 rfl rfl ?_
              refine g_iald (pc := 63) (j := v.toNatClampNeg) C dX8_shelf_63 (by first | rfl | assumption) (by decide) (pm_nat hv3.1) (pm_lt hv3.1 hv3.2 (by decide)) ?_
              refine g_goto (pc := 64) (tgt := 68) C dX8_shelf_64 (by decide) ?_
              refine g_iast (pc := 68) C dX8_shelf_68 (by first | rfl | assumption) (by decide) (by first | rfl | assumption) (by first | assumption | decide | omega) ?_
              refine g_aload_n (pc := 69) (i := 0) (j := 0) C dX8_shelf_69 rfl rfl ?_
              refine g_getR (pc := 70) C dX8_shelf_70 lfX8_66 (by first | rfl | assumption) rfl ?_
              refine g_iload_n (pc := 73) (i := 1) (j := 1) C dX8_shelf_73 rfl rfl ?_
              refine g_iload_n (pc := 74) (i := 2) (j := 2) C dX8_shelf_74 rfl rfl ?_
              refine g_iconst (pc := 75) (v := 1) C dX8_shelf_75 (by decide) ?_
              refine g_icmp_ne (pc := 76) (tgt := 88) C dX8_shelf_76 (by decide) (fun h76z => ?_) (fun h76z => ?_)
              · refine g_iconst (pc := 88) (v := 0) C dX8_shelf_88 (by decide) ?_
                refine g_iast (pc := 89) C dX8_shelf_89 (by first | rfl | assumption) (by decide) (by first | rfl | assumption) (by first | assumption | decide | omega) ?_
                refine g_iconst (pc := 90) (v := 1) C dX8_shelf_90 (by decide) ?_
                refine g_iret (pc := 91) C C2 dX8_shelf_91 rfl (Nat.le_refl _) (Nat.le_refl _) ?_
                first | exact ⟨by rw [if_neg (fun q => h4z q.1)], rfl, by rw [if_neg (fun q => h4z q.1)], rfl⟩ | exact ⟨by rw [if_neg (fun q => h13z q.2)], rfl, by rw [if_neg (fun q => h13z q.2)], rfl⟩ | exact absurd h55z h76z | exact absurd h76z h55z | skip
                all_goals refine ⟨by rw [if_pos ⟨v4, h13z⟩], rfl, ?_, rfl⟩
                all_goals rw [if_pos ⟨v4, h13z⟩, mk_sh, ecs]
                all_goals clear C C2
                all_goals (try simp only [pm_u_off (show (114 : Nat) ≠ 117 by decide), pm_u_off (show (115 : Nat) ≠ 117 by decide), pm_u_off (show (115 : Nat) ≠ 118 by decide), pm_u_off (show (114 : Nat) ≠ 118 by decide)])
                all_goals grind
              · have hv3 : 0 ≤ v ∧ v ≤ 3 := by rcases h13z with q | q | q; (exact absurd (h76z.symm.trans q.1) (by decide)); (exact q.2); exact absurd (h76z.symm.trans q) (by decide)
                refine g_aload_n (pc := 79) (i := 0) (j := 0) C dX8_shelf_79 rfl rfl ?_
                refine g_getR (pc := 80) C dX8_shelf_80 lfX8_53 (by first | rfl | assumption) rfl ?_
                refine g_iload_n (pc := 83) (i := 3) (j := 3) C dX8_shelf_83 rfl rfl ?_
                refine g_iald (pc := 84) (j := v.toNatClampNeg) C dX8_shelf_84 (by first | rfl | assumption) (by decide) (pm_nat hv3.1) (pm_lt hv3.1 hv3.2 (by decide)) ?_
                refine g_goto (pc := 85) (tgt := 89) C dX8_shelf_85 (by decide) ?_
                refine g_iast (pc := 89) C dX8_shelf_89 (by first | rfl | assumption) (by decide) (by first | rfl | assumption) (by first | assumption | decide | omega) ?_
                refine g_iconst (pc := 90) (v := 1) C dX8_shelf_90 (by decide) ?_
                refine g_iret (pc := 91) C C2 dX8_shelf_91 rfl (Nat.le_refl _) (Nat.le_refl _) ?_
                first | exact ⟨by rw [if_neg (fun q => h4z q.1)], rfl, by rw [if_neg (fun q => h4z q.1)], rfl⟩ | exact ⟨by rw [if_neg (fun q => h13z q.2)], rfl, by rw [if_neg (fun q => h13z q.2)], rfl⟩ | exact absurd h55z h76z | exact absurd h76z h55z | skip
                all_goals refine ⟨by rw [if_pos ⟨v4, h13z⟩], rfl, ?_, rfl⟩
                all_goals rw [if_pos ⟨v4, h13z⟩, mk_sh, ecs]
                all_goals clear C C2
                all_goals (try simp only [pm_u_off (show (114 : Nat) ≠ 117 by decide), pm_u_off (show (115 : Nat) ≠ 117 by decide), pm_u_off (show (115 : Nat) ≠ 118 by decide), pm_u_off (show (114 : Nat) ≠ 118 by decide)])
                all_goals grind
          · refine g_iconst (pc := 42) (v := (-1)) C dX8_shelf_42 (by decide) ?_
            refine g_goto (pc := 43) (tgt := 47) C dX8_shelf_43 (by decide) ?_
            refine g_iast (pc := 47) C dX8_shelf_47 (by first | rfl | assumption) (by decide) (by first | rfl | assumption) (by first | assumption | decide | omega) ?_
            refine g_aload_n (pc := 48) (i := 0) (j := 0) C dX8_shelf_48 rfl rfl ?_
            refine g_getR (pc := 49) C dX8_shelf_49 lfX8_63 (by first | rfl | assumption) rfl ?_
            refine g_iload_n (pc := 52) (i := 1) (j := 1) C dX8_shelf_52 rfl rfl ?_
            refine g_iload_n (pc := 53) (i := 2) (j := 2) C dX8_shelf_53 rfl rfl ?_
            refine g_iconst (pc := 54) (v := 1) C dX8_shelf_54 (by decide) ?_
            refine g_icmp_ne (pc := 55) (tgt := 67) C dX8_shelf_55 (by decide) (fun h55z => ?_) (fun h55z => ?_)
            · refine g_iload_n (pc := 67) (i := 3) (j := 3) C dX8_shelf_67 rfl rfl ?_
              refine g_iast (pc := 68) C dX8_shelf_68 (by first | rfl | assumption) (by decide) (by first | rfl | assumption) (by first | assumption | decide | omega) ?_
              refine g_aload_n (pc := 69) (i := 0) (j := 0) C dX8_shelf_69 rfl rfl ?_
              refine g_getR (pc := 70) C dX8_shelf_70 lfX8_66 (by first | rfl | assumption) rfl ?_
              refine g_iload_n (pc := 73) (i := 1) (j := 1) C dX8_shelf_73 rfl rfl ?_
              refine g_iload_n (pc := 74) (i := 2) (j := 2) C dX8_shelf_74 rfl rfl ?_
              refine g_iconst (pc := 75) (v := 1) C dX8_shelf_75 (by decide) ?_
              refine g_icmp_ne (pc := 76) (tgt := 88) C dX8_shelf_76 (by decide) (fun h76z => ?_) (fun h76z => ?_)
              · refine g_iconst (pc := 88) (v := 0) C dX8_shelf_88 (by decide) ?_
                refine g_iast (pc := 89) C dX8_shelf_89 (by first | rfl | assumption) (by decide) (by first | rfl | assumption) (by first | assumption | decide | omega) ?_
                refine g_iconst (pc := 90) (v := 1) C dX8_shelf_90 (by decide) ?_
                refine g_iret (pc := 91) C C2 dX8_shelf_91 rfl (Nat.le_refl _) (Nat.le_refl _) ?_
                first | exact ⟨by rw [if_neg (fun q => h4z q.1)], rfl, by rw [if_neg (fun q => h4z q.1)], rfl⟩ | exact ⟨by rw [if_neg (fun q => h13z q.2)], rfl, by rw [if_neg (fun q => h13z q.2)], rfl⟩ | exact absurd h55z h76z | exact absurd h76z h55z | skip
                all_goals refine ⟨by rw [if_pos ⟨v4, h13z⟩], rfl, ?_, rfl⟩
                all_goals rw [if_pos ⟨v4, h13z⟩, mk_sh, ecs]
                all_goals clear C C2
                all_goals (try simp only [pm_u_off (show (114 : Nat) ≠ 117 by decide), pm_u_off (show (115 : Nat) ≠ 117 by decide), pm_u_off (show (115 : Nat) ≠ 118 by decide), pm_u_off (show (114 : Nat) ≠ 118 by decide)])
                all_goals grind
              · have hv3 : 0 ≤ v ∧ v ≤ 3 := by rcases h13z with q | q | q; (exact absurd (h76z.symm.trans q.1) (by decide)); (exact q.2); exact absurd (h76z.symm.trans q) (by decide)
                refine g_aload_n (pc := 79) (i := 0) (j := 0) C dX8_shelf_79 rfl rfl ?_
                refine g_getR (pc := 80) C dX8_shelf_80 lfX8_53 (by first | rfl | assumption) rfl ?_
                refine g_iload_n (pc := 83) (i := 3) (j := 3) C dX8_shelf_83 rfl rfl ?_
                refine g_iald (pc := 84) (j := v.toNatClampNeg) C dX8_shelf_84 (by first | rfl | assumption) (by decide) (pm_nat hv3.1) (pm_lt hv3.1 hv3.2 (by decide)) ?_
                refine g_goto (pc := 85) (tgt := 89) C dX8_shelf_85 (by decide) ?_
                refine g_iast (pc := 89) C dX8_shelf_89 (by first | rfl | assumption) (by decide) (by first | rfl | assumption) (by first | assumption | decide | omega) ?_
                refine g_iconst (pc := 90) (v := 1) C dX8_shelf_90 (by decide) ?_
                refine g_iret (pc := 91) C C2 dX8_shelf_91 rfl (Nat.le_refl _) (Nat.le_refl _) ?_
                first | exact ⟨by rw [if_neg (fun q => h4z q.1)], rfl, by rw [if_neg (fun q => h4z q.1)], rfl⟩ | exact ⟨by rw [if_neg (fun q => h13z q.2)], rfl, by rw [if_neg (fun q => h13z q.2)], rfl⟩ | exact absurd h55z h76z | exact absurd h76z h55z | skip
                all_goals refine ⟨by rw [if_pos ⟨v4, h13z⟩], rfl, ?_, rfl⟩
                all_goals rw [if_pos ⟨v4, h13z⟩, mk_sh, ecs]
                all_goals clear C C2
                all_goals (try simp only [pm_u_off (show (114 : Nat) ≠ 117 by decide), pm_u_off (show (115 : Nat) ≠ 117 by decide), pm_u_off (show (115 : Nat) ≠ 118 by decide), pm_u_off (show (114 : Nat) ≠ 118 by decide)])
                all_goals grind
            · have hv3 : 0 ≤ v ∧ v ≤ 3 := by rcases h13z with q | q | q; (exact absurd (h55z.symm.trans q.1) (by decide)); (exact q.2); exact absurd (h55z.symm.trans q) (by decide)
              refine g_aload_n (pc := 58) (i := 0) (j := 0) C dX8_shelf_58 rfl rfl ?_
              refine g_getR (pc := 59) C dX8_shelf_59 lfX8_50 (by first | rfl | assumption) rfl ?_
              refine g_iload_n (pc := 62) (i := 3) (j := 3) C dX8_shelf_62 rfl rfl ?_
              refine g_iald (pc := 63) (j := v.toNatClampNeg) C dX8_shelf_63 (by first | rfl | assumption) (by decide) (pm_nat hv3.1) (pm_lt hv3.1 hv3.2 (by decide)) ?_
              refine g_goto (pc := 64) (tgt := 68) C dX8_shelf_64 (by decide) ?_
              refine g_iast (pc := 68) C dX8_shelf_68 (by first | rfl | assumption) (by decide) (by first | rfl | assumption) (by first | assumption | decide | omega) ?_
              refine g_aload_n (pc := 69) (i := 0) (j := 0) C dX8_shelf_69 rfl rfl ?_
              refine g_getR (pc := 70) C dX8_shelf_70 lfX8_66 (by first | rfl | assumption) rfl ?_
              refine g_iload_n (pc := 73) (i := 1) (j := 1) C dX8_shelf_73 rfl rfl ?_
              refine g_iload_n (pc := 74) (i := 2) (j := 2) C dX8_shelf_74 rfl rfl ?_
              refine g_iconst (pc := 75) (v := 1) C dX8_shelf_75 (by decide) ?_
              refine g_icmp_ne (pc := 76) (tgt := 88) C dX8_shelf_76 (by decide) (fun h76z => ?_) (fun h76z => ?_)
              · refine g_iconst (pc := 88) (v := 0) C dX8_shelf_88 (by decide) ?_
                refine g_iast (pc := 89) C dX8_shelf_89 (by first | rfl | assumption) (by decide) (by first | rfl | assumption) (by first | assumption | decide | omega) ?_
                refine g_iconst (pc := 90) (v := 1) C dX8_shelf_90 (by decide) ?_
                refine g_iret (pc := 91) C C2 dX8_shelf_91 rfl (Nat.le_refl _) (Nat.le_refl _) ?_
                first | exact ⟨by rw [if_neg (fun q => h4z q.1)], rfl, by rw [if_neg (fun q => h4z q.1)], rfl⟩ | exact ⟨by rw [if_neg (fun q => h13z q.2)], rfl, by rw [if_neg (fun q => h13z q.2)], rfl⟩ | exact absurd h55z h76z | exact absurd h76z h55z | skip
                all_goals refine ⟨by rw [if_pos ⟨v4, h13z⟩], rfl, ?_, rfl⟩
                all_goals rw [if_pos ⟨v4, h13z⟩, mk_sh, ecs]
                all_goals clear C C2
                all_goals (try simp only [pm_u_off (show (114 : Nat) ≠ 117 by decide), pm_u_off (show (115 : Nat) ≠ 117 by decide), pm_u_off (show (115 : Nat) ≠ 118 by decide), pm_u_off (show (114 : Nat) ≠ 118 by decide)])
                all_goals grind
              · have hv3 : 0 ≤ v ∧ v ≤ 3 := by rcases h13z with q | q | q; (exact absurd (h76z.symm.trans q.1) (by decide)); (exact q.2); exact absurd (h76z.symm.trans q) (by decide)
                refine g_aload_n (pc := 79) (i := 0) (j := 0) C dX8_shelf_79 rfl rfl ?_
                refine g_getR (pc := 80) C dX8_shelf_80 lfX8_53 (by first | rfl | assumption) rfl ?_
                refine g_iload_n (pc := 83) (i := 3) (j := 3) C dX8_shelf_83 rfl rfl ?_
                refine g_iald (pc := 84) (j := v.toNatClampNeg) C dX8_shelf_84 (by first | rfl | assumption) (by decide) (pm_nat hv3.1) (pm_lt hv3.1 hv3.2 (by decide)) ?_
                refine g_goto (pc := 85) (tgt := 89) C dX8_shelf_85 (by decide) ?_
                refine g_iast (pc := 89) C dX8_shelf_89 (by first | rfl | assumption) (by decide) (by first | rfl | assumption) (by first | assumption | decide | omega) ?_
                refine g_iconst (pc := 90) (v := 1) C dX8_shelf_90 (by decide) ?_
                refine g_iret (pc := 91) C C2 dX8_shelf_91 rfl (Nat.le_refl _) (Nat.le_refl _) ?_
                first | exact ⟨by rw [if_neg (fun q => h4z q.1)], rfl, by rw [if_neg (fun q => h4z q.1)], rfl⟩ | exact ⟨by rw [if_neg (fun q => h13z q.2)], rfl, by rw [if_neg (fun q => h13z q.2)], rfl⟩ | exact absurd h55z h76z | exact absurd h76z h55z | skip
                all_goals refine ⟨by rw [if_pos ⟨v4, h13z⟩], rfl, ?_, rfl⟩
                all_goals rw [if_pos ⟨v4, h13z⟩, mk_sh, ecs]
                all_goals clear C C2
                all_goals (try simp only [pm_u_off (show (114 : Nat) ≠ 117 by decide), pm_u_off (show (115 : Nat) ≠ 117 by decide), pm_u_off (show (115 : Nat) ≠ 118 by decide), pm_u_off (show (114 : Nat) ≠ 118 by decide)])
                all_goals grind
    · refine g_iconst (pc := 16) (v := (-1)) C dX8_shelf_16 (by decide) ?_
      refine g_iret (pc := 17) C C2 dX8_shelf_17 rfl (Nat.le_refl _) (Nat.le_refl _) ?_
      first | exact ⟨by rw [if_neg (fun q => h4z q.1)], rfl, by rw [if_neg (fun q => h4z q.1)], rfl⟩ | exact ⟨by rw [if_neg (fun q => h13z q.2)], rfl, by rw [if_neg (fun q => h13z q.2)], rfl⟩ | exact absurd h55z h76z | exact absurd h76z h55z | skip
      all_goals refine ⟨by rw [if_pos ⟨v4, h13z⟩], rfl, ?_, rfl⟩
      all_goals rw [if_pos ⟨v4, h13z⟩, mk_sh, ecs]
      all_goals clear C C2
      all_goals (try simp only [pm_u_off (show (114 : Nat) ≠ 117 by decide), pm_u_off (show (115 : Nat) ≠ 117 by decide), pm_u_off (show (115 : Nat) ≠ 118 by decide), pm_u_off (show (114 : Nat) ≠ 118 by decide)])
      all_goals grind

set_option maxHeartbeats 4000000 in
set_option maxRecDepth 100000 in
theorem c_X8_act {d : Nat} {w v : Int32} {I : pm_I} {J : pm_J} {n : Nat} (hn : I 102 2 = nI n) (h6 : n ≤ 6) {s b : Nat} (hs : s < 4) (hb : b < n) (hw : 0 ≤ w ∧ w ≤ 3) (hh : I 117 s = 0) (hnb : I 118 s = nI b) (hkd : 0 ≤ I 104 b ∧ I 104 b ≤ 5) : pm_M (d + 8) 0 0 yX8_act cX8_act 6 (some .int) [.ref 102, .int (nI s), .int w, .int v] SHP I J (fun r sh2 I2 J2 => r = some (.int (if ac_prt w (I 104 b) (nI b) (I 105 b) then -15 else ac_val w (I 104 b) v (nI b) (I 105 b))) ∧ sh2 = SHP ∧ J2 = J ∧ ma_Q I (ac_bod w (I 104 b) (nI b) (I 105 b)) I2) := by
  refine pm_start (own := RX8) (nm := "act") (by decide) rfl rfl (L := [(0, .ref 102), (1, .int (nI s)), (2, .int w), (3, .int v)]) rfl (Nat.le_of_ble_eq_true rfl) (fun Γ C C2 => ?_)
  refine g_aload_n (pc := 0) (i := 0) (j := 0) C dX8_act_0 rfl rfl ?_
  refine g_iconst (pc := 1) (v := 0) C dX8_act_1 (by decide) ?_
  refine g_putI (pc := 2) C dX8_act_2 lpX8_343 rfl rfl (by first | rfl | assumption) rfl ?_
  refine g_iload_n (pc := 5) (i := 1) (j := 1) C dX8_act_5 rfl rfl ?_
  refine g_callS (pc := 6) C dX8_act_6 lmX8_324 kcX8_isShelf (by decide) (c_X8_isShelf) rfl rfl (Nat.le_of_ble_eq_true rfl) ?_
  intro r9 sh9 I9 J9 hD9; obtain ⟨rfl, rfl, rfl, rfl⟩ := pm_Dq hD9; clear hD9
  try simp only [Option.toList_some, Option.toList_none, List.cons_append, List.nil_append]
  refine g_if_eqB (pc := 9) (tgt := 20) C dX8_act_9 (by decide) (fun h9z => absurd ⟨by exact nI_pos' (by omega), by exact nI_le (a := s) (b := 3) (by omega) (by decide)⟩ h9z) (fun h9z => ?_)
  refine g_aload_n (pc := 12) (i := 0) (j := 0) C dX8_act_12 rfl rfl ?_
  refine g_iload_n (pc := 13) (i := 1) (j := 1) C dX8_act_13 rfl rfl ?_
  refine g_callV (pc := 14) C dX8_act_14 lmX8_337 kcX8_kindOn (by decide) (by first | rfl | assumption) (c_X8_kindOn (n := n) (by rw [pm_u_at, pk_un (by decide)]; exact hn) h6 hs) rfl rfl (Nat.le_of_ble_eq_true rfl) ?_
  intro r9 sh9 I9 J9 hD9; obtain ⟨rfl, rfl, rfl, rfl⟩ := pm_Dq hD9; clear hD9
  try simp only [Option.toList_some, Option.toList_none, List.cons_append, List.nil_append]
  rw [show mk_on (pm_u I 102 37 0) s = I 104 b by rw [mk_on, pm_u_off (by decide), if_pos hh, pm_u_off (by decide), hnb, if_pos ⟨nI_pos' (by omega), by rw [pm_u_at, pk_un (by decide), hn]; exact pm_leP hb (by omega)⟩, pm_u_off (by decide), nI_clamp (by omega)]]
  refine g_goto (pc := 17) (tgt := 21) C dX8_act_17 (by decide) ?_
  refine g_istore (pc := 21) (L2 := [(0, _), (1, _), (2, _), (3, _), (4, _)]) C dX8_act_21 (by decide) rfl ?_
  refine g_iload_n (pc := 23) (i := 2) (j := 2) C dX8_act_23 rfl rfl ?_
  refine g_iconst (pc := 24) (v := 0) C dX8_act_24 (by decide) ?_
  refine g_iconst (pc := 25) (v := 3) C dX8_act_25 (by decide) ?_
  refine g_callS (pc := 26) C dX8_act_26 lmX8_78 kcX8_in (by decide) (c_X8_in) rfl rfl (Nat.le_of_ble_eq_true rfl) ?_
  intro r9 sh9 I9 J9 hD9; obtain ⟨rfl, rfl, rfl, rfl⟩ := pm_Dq hD9; clear hD9
  try simp only [Option.toList_some, Option.toList_none, List.cons_append, List.nil_append]
  refine g_if_eqB (pc := 29) (tgt := 42) C dX8_act_29 (by decide) (fun h29z => absurd hw h29z) (fun h29z => ?_)
  refine g_iload (pc := 32) (j := 4) C dX8_act_32 rfl ?_
  refine g_iconst (pc := 34) (v := 0) C dX8_act_34 (by decide) ?_
  refine g_iconst (pc := 35) (v := 5) C dX8_act_35 (by decide) ?_
  refine g_callS (pc := 36) C dX8_act_36 lmX8_78 kcX8_in (by decide) (c_X8_in) rfl rfl (Nat.le_of_ble_eq_true rfl) ?_
  intro r9 sh9 I9 J9 hD9; obtain ⟨rfl, rfl, rfl, rfl⟩ := pm_Dq hD9; clear hD9
  try simp only [Option.toList_some, Option.toList_none, List.cons_append, List.nil_append]
  refine g_if_neB (pc := 39) (tgt := 44) C dX8_act_39 (by decide) (fun h39z => ?_) (fun h39z => absurd hkd h39z)
  refine g_aload_n (pc := 44) (i := 0) (j := 0) C dX8_act_44 rfl rfl ?_
  refine g_iload (pc := 45) (j := 4) C dX8_act_45 rfl ?_
  refine g_putI (pc := 47) C dX8_act_47 lpX8_355 rfl rfl (by first | rfl | assumption) rfl ?_
  refine g_aload_n (pc := 50) (i := 0) (j := 0) C dX8_act_50 rfl rfl ?_
  refine g_aload_n (pc := 51) (i := 0) (j := 0) C dX8_act_51 rfl rfl ?_
  refine g_getR (pc := 52) C dX8_act_52 lfX8_63 (by first | rfl | assumption) rfl ?_
  refine g_iload_n (pc := 55) (i := 1) (j := 1) C dX8_act_55 rfl rfl ?_
  refine g_iald (pc := 56) C dX8_act_56 (by first | rfl | assumption) (by decide) (by first | rfl | assumption) (by first | assumption | decide | omega) ?_
  rw [show pm_u (pm_u I 102 37 0) 102 33 (I 104 b) 118 s = nI b by rw [pm_u_off (by decide), pm_u_off (by decide)]; exact hnb]
  refine g_putI (pc := 57) C dX8_act_57 lpX8_349 rfl rfl (by first | rfl | assumption) rfl ?_
  refine g_aload_n (pc := 60) (i := 0) (j := 0) C dX8_act_60 rfl rfl ?_
  refine g_aload_n (pc := 61) (i := 0) (j := 0) C dX8_act_61 rfl rfl ?_
  refine g_getR (pc := 62) C dX8_act_62 lfX8_20 (by first | rfl | assumption) rfl ?_
  refine g_aload_n (pc := 65) (i := 0) (j := 0) C dX8_act_65 rfl rfl ?_
  refine g_getI (pc := 66) C dX8_act_66 lfX8_349 (by first | rfl | assumption) rfl ?_
  refine g_iald (pc := 69) (j := b) C dX8_act_69 (by first | rfl | assumption) (by decide) (show pm_u (pm_u (pm_u I 102 37 0) 102 33 (I 104 b)) 102 34 (nI b) 102 34 = nI b by rw [pm_u_at, pk_us]) (by omega) ?_
  rw [show pm_u (pm_u (pm_u I 102 37 0) 102 33 (I 104 b)) 102 34 (nI b) 105 b = I 105 b by rw [pm_u_off (by decide), pm_u_off (by decide), pm_u_off (by decide)]]
  refine g_putI (pc := 70) C dX8_act_70 lpX8_367 rfl rfl (by first | rfl | assumption) rfl ?_
  refine g_aload_n (pc := 73) (i := 0) (j := 0) C dX8_act_73 rfl rfl ?_
  refine g_iconst (pc := 74) (v := 0) C dX8_act_74 (by decide) ?_
  refine g_putI (pc := 75) C dX8_act_75 lpX8_370 (by first | rfl | exact pm_nz | assumption) rfl (by first | rfl | assumption) rfl ?_
  refine g_iload_n (pc := 78) (i := 2) (j := 2) C dX8_act_78 rfl rfl ?_
  refine g_if_ne (pc := 79) (tgt := 90) C dX8_act_79 (by decide) (fun h79z => ?_) (fun h79z => ?_)
  · refine g_iload_n (pc := 90) (i := 2) (j := 2) C dX8_act_90 rfl rfl ?_
    refine g_iconst (pc := 91) (v := 1) C dX8_act_91 (by decide) ?_
    refine g_icmp_ne (pc := 92) (tgt := 103) C dX8_act_92 (by decide) (fun h92z => ?_) (fun h92z => ?_)
    · refine g_iload_n (pc := 103) (i := 2) (j := 2) C dX8_act_103 rfl rfl ?_
      refine g_iconst (pc := 104) (v := 2) C dX8_act_104 (by decide) ?_
      refine g_icmp_ne (pc := 105) (tgt := 116) C dX8_act_105 (by decide) (fun h105z => ?_) (fun h105z => ?_)
      · refine g_aload_n (pc := 116) (i := 0) (j := 0) C dX8_act_116 rfl rfl ?_
        refine g_iload_n (pc := 117) (i := 3) (j := 3) C dX8_act_117 rfl rfl ?_
        refine g_callV (pc := 118) C dX8_act_118 lmX8_385 kcX8_tellsIt (by decide) (by first | rfl | assumption) (c_X8_tellsIt (show (pm_u (pm_u (pm_u (pm_u (pm_u I 102 37 0) 102 33 (I 104 b)) 102 34 (nI b)) 102 35 (I 105 b)) 102 38 0) 102 33 = I 104 b by rw [pm_u_at, pk_un (by decide), pm_u_at, pk_un (by decide), pm_u_at, pk_un (by decide), pm_u_at, pk_us]) (show (pm_u (pm_u (pm_u (pm_u (pm_u I 102 37 0) 102 33 (I 104 b)) 102 34 (nI b)) 102 35 (I 105 b)) 102 38 0) 102 34 = nI b by rw [pm_u_at, pk_un (by decide), pm_u_at, pk_un (by decide), pm_u_at, pk_us]) (show (pm_u (pm_u (pm_u (pm_u (pm_u I 102 37 0) 102 33 (I 104 b)) 102 34 (nI b)) 102 35 (I 105 b)) 102 38 0) 102 35 = I 105 b by rw [pm_u_at, pk_un (by decide), pm_u_at, pk_us]) ma_start (by simp)) rfl rfl (Nat.le_of_ble_eq_true rfl) ?_
        rintro r118 sh118 I118 J118 ⟨v118, a118, w118, b118, c118, hR118⟩
        try simp only [Option.toList_some, Option.toList_none, List.cons_append, List.nil_append]
        subst a118 b118
        obtain rfl := c118.symm
        try simp only [Option.toList_some, Option.toList_none, List.cons_append, List.nil_append]
        refine g_istore (pc := 121) (L2 := [(0, _), (1, _), (2, _), (3, _), (4, _), (5, _)]) C dX8_act_121 (by decide) rfl ?_
        refine g_aload_n (pc := 123) (i := 0) (j := 0) C dX8_act_123 rfl rfl ?_
        refine g_getI (pc := 124) C dX8_act_124 lfX8_370 (by first | rfl | assumption) rfl ?_
        refine g_if_eq (pc := 127) (tgt := 135) C dX8_act_127 (by decide) (fun h127z => ?_) (fun h127z => ?_)
        · refine g_iload (pc := 135) (j := 5) C dX8_act_135 rfl ?_
          refine g_iret (pc := 137) C C2 dX8_act_137 rfl (Nat.le_refl _) (Nat.le_refl _) ?_
          first | have hT := hR84 | have hT := hR97 | have hT := hR110 | have hT := hR118
          have hpt := hT.2.2.2.2.2
          refine ⟨?_, rfl, rfl, ?_⟩
          · rw [hpt] at h127z
            clear C C2
            try have w9 := w110
            try have w9 := w118
            first
              | (exfalso; revert h127z; decide)
              | (rw [ac_prt, ac_val, h79z]; rfl)
              | (rw [ac_prt, ac_val, h92z]; rfl)
              | (rw [ac_prt, if_neg h79z, if_neg h92z, if_pos h105z]; cases hq : ac_pt (nI b) (I 105 b) with | true => (first | rfl | (rw [hq] at h127z; exact absurd rfl h127z) | (rw [hq] at h127z; exact absurd h127z (by decide))) | false => (first | (rw [hq] at h127z; exact absurd rfl h127z) | (rw [hq] at h127z; exact absurd h127z (by decide)) | (rw [ac_val, if_neg h79z, if_neg h92z, if_pos h105z, w9 (by simpa [ac_pt] using hq)]; rfl)))
              | (rw [ac_prt, if_neg h79z, if_neg h92z, if_neg h105z]; cases hq : ac_tp (I 104 b) (nI b) (I 105 b) with | true => (first | rfl | (rw [hq] at h127z; exact absurd rfl h127z) | (rw [hq] at h127z; exact absurd h127z (by decide))) | false => (first | (rw [hq] at h127z; exact absurd rfl h127z) | (rw [hq] at h127z; exact absurd h127z (by decide)) | (rw [ac_val, if_neg h79z, if_neg h92z, if_neg h105z, w9 hq]; rfl)))
          · have hQ := ma_Q_of hT
            rw [List.nil_append] at hQ
            first | (rw [ac_bod, if_pos h79z]; exact hQ) | (rw [ac_bod, if_neg h79z, if_pos h92z]; exact hQ) | (rw [ac_bod, if_neg h79z, if_neg h92z, if_pos h105z]; exact hQ) | (rw [ac_bod, if_neg h79z, if_neg h92z, if_neg h105z]; exact hQ)
        · refine g_bipush (pc := 130) (v := (-15)) C dX8_act_130 (by decide) ?_
          refine g_goto (pc := 132) (tgt := 137) C dX8_act_132 (by decide) ?_
          refine g_iret (pc := 137) C C2 dX8_act_137 rfl (Nat.le_refl _) (Nat.le_refl _) ?_
          first | have hT := hR84 | have hT := hR97 | have hT := hR110 | have hT := hR118
          have hpt := hT.2.2.2.2.2
          refine ⟨?_, rfl, rfl, ?_⟩
          · rw [hpt] at h127z
            clear C C2
            try have w9 := w110
            try have w9 := w118
            first
              | (exfalso; revert h127z; decide)
              | (rw [ac_prt, ac_val, h79z]; rfl)
              | (rw [ac_prt, ac_val, h92z]; rfl)
              | (rw [ac_prt, if_neg h79z, if_neg h92z, if_pos h105z]; cases hq : ac_pt (nI b) (I 105 b) with | true => (first | rfl | (rw [hq] at h127z; exact absurd rfl h127z) | (rw [hq] at h127z; exact absurd h127z (by decide))) | false => (first | (rw [hq] at h127z; exact absurd rfl h127z) | (rw [hq] at h127z; exact absurd h127z (by decide)) | (rw [ac_val, if_neg h79z, if_neg h92z, if_pos h105z, w9 (by simpa [ac_pt] using hq)]; rfl)))
              | (rw [ac_prt, if_neg h79z, if_neg h92z, if_neg h105z]; cases hq : ac_tp (I 104 b) (nI b) (I 105 b) with | true => (first | rfl | (rw [hq] at h127z; exact absurd rfl h127z) | (rw [hq] at h127z; exact absurd h127z (by decide))) | false => (first | (rw [hq] at h127z; exact absurd rfl h127z) | (rw [hq] at h127z; exact absurd h127z (by decide)) | (rw [ac_val, if_neg h79z, if_neg h92z, if_neg h105z, w9 hq]; rfl)))
          · have hQ := ma_Q_of hT
            rw [List.nil_append] at hQ
            first | (rw [ac_bod, if_pos h79z]; exact hQ) | (rw [ac_bod, if_neg h79z, if_pos h92z]; exact hQ) | (rw [ac_bod, if_neg h79z, if_neg h92z, if_pos h105z]; exact hQ) | (rw [ac_bod, if_neg h79z, if_neg h92z, if_neg h105z]; exact hQ)
      · refine g_aload_n (pc := 108) (i := 0) (j := 0) C dX8_act_108 rfl rfl ?_
        refine g_iload_n (pc := 109) (i := 3) (j := 3) C dX8_act_109 rfl rfl ?_
        refine g_callV (pc := 110) C dX8_act_110 lmX8_382 kcX8_sharesIt (by decide) (by first | rfl | assumption) (c_X8_sharesIt (show (pm_u (pm_u (pm_u (pm_u (pm_u I 102 37 0) 102 33 (I 104 b)) 102 34 (nI b)) 102 35 (I 105 b)) 102 38 0) 102 33 = I 104 b by rw [pm_u_at, pk_un (by decide), pm_u_at, pk_un (by decide), pm_u_at, pk_un (by decide), pm_u_at, pk_us]) (show (pm_u (pm_u (pm_u (pm_u (pm_u I 102 37 0) 102 33 (I 104 b)) 102 34 (nI b)) 102 35 (I 105 b)) 102 38 0) 102 34 = nI b by rw [pm_u_at, pk_un (by decide), pm_u_at, pk_un (by decide), pm_u_at, pk_us]) (show (pm_u (pm_u (pm_u (pm_u (pm_u I 102 37 0) 102 33 (I 104 b)) 102 34 (nI b)) 102 35 (I 105 b)) 102 38 0) 102 35 = I 105 b by rw [pm_u_at, pk_un (by decide), pm_u_at, pk_us]) ma_start (by simp)) rfl rfl (Nat.le_of_ble_eq_true rfl) ?_
        rintro r110 sh110 I110 J110 ⟨v110, a110, w110, b110, c110, hR110⟩
        try simp only [Option.toList_some, Option.toList_none, List.cons_append, List.nil_append]
        subst a110 b110
        obtain rfl := c110.symm
        try simp only [Option.toList_some, Option.toList_none, List.cons_append, List.nil_append]
        refine g_goto (pc := 113) (tgt := 121) C dX8_act_113 (by decide) ?_
        refine g_istore (pc := 121) (L2 := [(0, _), (1, _), (2, _), (3, _), (4, _), (5, _)]) C dX8_act_121 (by decide) rfl ?_
        refine g_aload_n (pc := 123) (i := 0) (j := 0) C dX8_act_123 rfl rfl ?_
        refine g_getI (pc := 124) C dX8_act_124 lfX8_370 (by first | rfl | assumption) rfl ?_
        refine g_if_eq (pc := 127) (tgt := 135) C dX8_act_127 (by decide) (fun h127z => ?_) (fun h127z => ?_)
        · refine g_iload (pc := 135) (j := 5) C dX8_act_135 rfl ?_
          refine g_iret (pc := 137) C C2 dX8_act_137 rfl (Nat.le_refl _) (Nat.le_refl _) ?_
          first | have hT := hR84 | have hT := hR97 | have hT := hR110 | have hT := hR118
          have hpt := hT.2.2.2.2.2
          refine ⟨?_, rfl, rfl, ?_⟩
          · rw [hpt] at h127z
            clear C C2
            try have w9 := w110
            try have w9 := w118
            first
              | (exfalso; revert h127z; decide)
              | (rw [ac_prt, ac_val, h79z]; rfl)
              | (rw [ac_prt, ac_val, h92z]; rfl)
              | (rw [ac_prt, if_neg h79z, if_neg h92z, if_pos h105z]; cases hq : ac_pt (nI b) (I 105 b) with | true => (first | rfl | (rw [hq] at h127z; exact absurd rfl h127z) | (rw [hq] at h127z; exact absurd h127z (by decide))) | false => (first | (rw [hq] at h127z; exact absurd rfl h127z) | (rw [hq] at h127z; exact absurd h127z (by decide)) | (rw [ac_val, if_neg h79z, if_neg h92z, if_pos h105z, w9 (by simpa [ac_pt] using hq)]; rfl)))
              | (rw [ac_prt, if_neg h79z, if_neg h92z, if_neg h105z]; cases hq : ac_tp (I 104 b) (nI b) (I 105 b) with | true => (first | rfl | (rw [hq] at h127z; exact absurd rfl h127z) | (rw [hq] at h127z; exact absurd h127z (by decide))) | false => (first | (rw [hq] at h127z; exact absurd rfl h127z) | (rw [hq] at h127z; exact absurd h127z (by decide)) | (rw [ac_val, if_neg h79z, if_neg h92z, if_neg h105z, w9 hq]; rfl)))
          · have hQ := ma_Q_of hT
            rw [List.nil_append] at hQ
            first | (rw [ac_bod, if_pos h79z]; exact hQ) | (rw [ac_bod, if_neg h79z, if_pos h92z]; exact hQ) | (rw [ac_bod, if_neg h79z, if_neg h92z, if_pos h105z]; exact hQ) | (rw [ac_bod, if_neg h79z, if_neg h92z, if_neg h105z]; exact hQ)
        · refine g_bipush (pc := 130) (v := (-15)) C dX8_act_130 (by decide) ?_
          refine g_goto (pc := 132) (tgt := 137) C dX8_act_132 (by decide) ?_
          refine g_iret (pc := 137) C C2 dX8_act_137 rfl (Nat.le_refl _) (Nat.le_refl _) ?_
          first | have hT := hR84 | have hT := hR97 | have hT := hR110 | have hT := hR118
          have hpt := hT.2.2.2.2.2
          refine ⟨?_, rfl, rfl, ?_⟩
          · rw [hpt] at h127z
            clear C C2
            try have w9 := w110
            try have w9 := w118
            first
              | (exfalso; revert h127z; decide)
              | (rw [ac_prt, ac_val, h79z]; rfl)
              | (rw [ac_prt, ac_val, h92z]; rfl)
              | (rw [ac_prt, if_neg h79z, if_neg h92z, if_pos h105z]; cases hq : ac_pt (nI b) (I 105 b) with | true => (first | rfl | (rw [hq] at h127z; exact absurd rfl h127z) | (rw [hq] at h127z; exact absurd h127z (by decide))) | false => (first | (rw [hq] at h127z; exact absurd rfl h127z) | (rw [hq] at h127z; exact absurd h127z (by decide)) | (rw [ac_val, if_neg h79z, if_neg h92z, if_pos h105z, w9 (by simpa [ac_pt] using hq)]; rfl)))
              | (rw [ac_prt, if_neg h79z, if_neg h92z, if_neg h105z]; cases hq : ac_tp (I 104 b) (nI b) (I 105 b) with | true => (first | rfl | (rw [hq] at h127z; exact absurd rfl h127z) | (rw [hq] at h127z; exact absurd h127z (by decide))) | false => (first | (rw [hq] at h127z; exact absurd rfl h127z) | (rw [hq] at h127z; exact absurd h127z (by decide)) | (rw [ac_val, if_neg h79z, if_neg h92z, if_neg h105z, w9 hq]; rfl)))
          · have hQ := ma_Q_of hT
            rw [List.nil_append] at hQ
            first | (rw [ac_bod, if_pos h79z]; exact hQ) | (rw [ac_bod, if_neg h79z, if_pos h92z]; exact hQ) | (rw [ac_bod, if_neg h79z, if_neg h92z, if_pos h105z]; exact hQ) | (rw [ac_bod, if_neg h79z, if_neg h92z, if_neg h105z]; exact hQ)
    · refine g_aload_n (pc := 95) (i := 0) (j := 0) C dX8_act_95 rfl rfl ?_
      refine g_iload_n (pc := 96) (i := 3) (j := 3) C dX8_act_96 rfl rfl ?_
      refine g_callV (pc := 97) C dX8_act_97 lmX8_376 kcX8_sinksIt (by decide) (by first | rfl | assumption) (c_X8_sinksIt (show (pm_u (pm_u (pm_u (pm_u (pm_u I 102 37 0) 102 33 (I 104 b)) 102 34 (nI b)) 102 35 (I 105 b)) 102 38 0) 102 33 = I 104 b by rw [pm_u_at, pk_un (by decide), pm_u_at, pk_un (by decide), pm_u_at, pk_un (by decide), pm_u_at, pk_us]) (show (pm_u (pm_u (pm_u (pm_u (pm_u I 102 37 0) 102 33 (I 104 b)) 102 34 (nI b)) 102 35 (I 105 b)) 102 38 0) 102 34 = nI b by rw [pm_u_at, pk_un (by decide), pm_u_at, pk_un (by decide), pm_u_at, pk_us]) (show (pm_u (pm_u (pm_u (pm_u (pm_u I 102 37 0) 102 33 (I 104 b)) 102 34 (nI b)) 102 35 (I 105 b)) 102 38 0) 102 35 = I 105 b by rw [pm_u_at, pk_un (by decide), pm_u_at, pk_us]) ma_start (by simp)) rfl rfl (Nat.le_of_ble_eq_true rfl) ?_
      rintro r97 sh97 I97 J97 ⟨a97, b97, c97, hR97⟩
      try simp only [Option.toList_some, Option.toList_none, List.cons_append, List.nil_append]
      subst a97 b97
      obtain rfl := c97.symm
      try simp only [Option.toList_some, Option.toList_none, List.cons_append, List.nil_append]
      refine g_goto (pc := 100) (tgt := 121) C dX8_act_100 (by decide) ?_
      refine g_istore (pc := 121) (L2 := [(0, _), (1, _), (2, _), (3, _), (4, _), (5, _)]) C dX8_act_121 (by decide) rfl ?_
      refine g_aload_n (pc := 123) (i := 0) (j := 0) C dX8_act_123 rfl rfl ?_
      refine g_getI (pc := 124) C dX8_act_124 lfX8_370 (by first | rfl | assumption) rfl ?_
      refine g_if_eq (pc := 127) (tgt := 135) C dX8_act_127 (by decide) (fun h127z => ?_) (fun h127z => ?_)
      · refine g_iload (pc := 135) (j := 5) C dX8_act_135 rfl ?_
        refine g_iret (pc := 137) C C2 dX8_act_137 rfl (Nat.le_refl _) (Nat.le_refl _) ?_
        first | have hT := hR84 | have hT := hR97 | have hT := hR110 | have hT := hR118
        have hpt := hT.2.2.2.2.2
        refine ⟨?_, rfl, rfl, ?_⟩
        · rw [hpt] at h127z
          clear C C2
          try have w9 := w110
          try have w9 := w118
          first
            | (exfalso; revert h127z; decide)
            | (rw [ac_prt, ac_val, h79z]; rfl)
            | (rw [ac_prt, ac_val, h92z]; rfl)
            | (rw [ac_prt, if_neg h79z, if_neg h92z, if_pos h105z]; cases hq : ac_pt (nI b) (I 105 b) with | true => (first | rfl | (rw [hq] at h127z; exact absurd rfl h127z) | (rw [hq] at h127z; exact absurd h127z (by decide))) | false => (first | (rw [hq] at h127z; exact absurd rfl h127z) | (rw [hq] at h127z; exact absurd h127z (by decide)) | (rw [ac_val, if_neg h79z, if_neg h92z, if_pos h105z, w9 (by simpa [ac_pt] using hq)]; rfl)))
            | (rw [ac_prt, if_neg h79z, if_neg h92z, if_neg h105z]; cases hq : ac_tp (I 104 b) (nI b) (I 105 b) with | true => (first | rfl | (rw [hq] at h127z; exact absurd rfl h127z) | (rw [hq] at h127z; exact absurd h127z (by decide))) | false => (first | (rw [hq] at h127z; exact absurd rfl h127z) | (rw [hq] at h127z; exact absurd h127z (by decide)) | (rw [ac_val, if_neg h79z, if_neg h92z, if_neg h105z, w9 hq]; rfl)))
        · have hQ := ma_Q_of hT
          rw [List.nil_append] at hQ
          first | (rw [ac_bod, if_pos h79z]; exact hQ) | (rw [ac_bod, if_neg h79z, if_pos h92z]; exact hQ) | (rw [ac_bod, if_neg h79z, if_neg h92z, if_pos h105z]; exact hQ) | (rw [ac_bod, if_neg h79z, if_neg h92z, if_neg h105z]; exact hQ)
      · refine g_bipush (pc := 130) (v := (-15)) C dX8_act_130 (by decide) ?_
        refine g_goto (pc := 132) (tgt := 137) C dX8_act_132 (by decide) ?_
        refine g_iret (pc := 137) C C2 dX8_act_137 rfl (Nat.le_refl _) (Nat.le_refl _) ?_
        first | have hT := hR84 | have hT := hR97 | have hT := hR110 | have hT := hR118
        have hpt := hT.2.2.2.2.2
        refine ⟨?_, rfl, rfl, ?_⟩
        · rw [hpt] at h127z
          clear C C2
          try have w9 := w110
          try have w9 := w118
          first
            | (exfalso; revert h127z; decide)
            | (rw [ac_prt, ac_val, h79z]; rfl)
            | (rw [ac_prt, ac_val, h92z]; rfl)
            | (rw [ac_prt, if_neg h79z, if_neg h92z, if_pos h105z]; cases hq : ac_pt (nI b) (I 105 b) with | true => (first | rfl | (rw [hq] at h127z; exact absurd rfl h127z) | (rw [hq] at h127z; exact absurd h127z (by decide))) | false => (first | (rw [hq] at h127z; exact absurd rfl h127z) | (rw [hq] at h127z; exact absurd h127z (by decide)) | (rw [ac_val, if_neg h79z, if_neg h92z, if_pos h105z, w9 (by simpa [ac_pt] using hq)]; rfl)))
            | (rw [ac_prt, if_neg h79z, if_neg h92z, if_neg h105z]; cases hq : ac_tp (I 104 b) (nI b) (I 105 b) with | true => (first | rfl | (rw [hq] at h127z; exact absurd rfl h127z) | (rw [hq] at h127z; exact absurd h127z (by decide))) | false => (first | (rw [hq] at h127z; exact absurd rfl h127z) | (rw [hq] at h127z; exact absurd h127z (by decide)) | (rw [ac_val, if_neg h79z, if_neg h92z, if_neg h105z, w9 hq]; rfl)))
        · have hQ := ma_Q_of hT
          rw [List.nil_append] at hQ
          first | (rw [ac_bod, if_pos h79z]; exact hQ) | (rw [ac_bod, if_neg h79z, if_pos h92z]; exact hQ) | (rw [ac_bod, if_neg h79z, if_neg h92z, if_pos h105z]; exact hQ) | (rw [ac_bod, if_neg h79z, if_neg h92z, if_neg h105z]; exact hQ)
  · refine g_aload_n (pc := 82) (i := 0) (j := 0) C dX8_act_82 rfl rfl ?_
    refine g_iload_n (pc := 83) (i := 3) (j := 3) C dX8_act_83 rfl rfl ?_
    refine g_callV (pc := 84) C dX8_act_84 lmX8_361 kcX8_liftsIt (by decide) (by first | rfl | assumption) (c_X8_liftsIt (show (pm_u (pm_u (pm_u (pm_u (pm_u I 102 37 0) 102 33 (I 104 b)) 102 34 (nI b)) 102 35 (I 105 b)) 102 38 0) 102 33 = I 104 b by rw [pm_u_at, pk_un (by decide), pm_u_at, pk_un (by decide), pm_u_at, pk_un (by decide), pm_u_at, pk_us]) (show (pm_u (pm_u (pm_u (pm_u (pm_u I 102 37 0) 102 33 (I 104 b)) 102 34 (nI b)) 102 35 (I 105 b)) 102 38 0) 102 34 = nI b by rw [pm_u_at, pk_un (by decide), pm_u_at, pk_un (by decide), pm_u_at, pk_us]) (show (pm_u (pm_u (pm_u (pm_u (pm_u I 102 37 0) 102 33 (I 104 b)) 102 34 (nI b)) 102 35 (I 105 b)) 102 38 0) 102 35 = I 105 b by rw [pm_u_at, pk_un (by decide), pm_u_at, pk_us]) ma_start (by simp)) rfl rfl (Nat.le_of_ble_eq_true rfl) ?_
    rintro r84 sh84 I84 J84 ⟨a84, b84, c84, hR84⟩
    try simp only [Option.toList_some, Option.toList_none, List.cons_append, List.nil_append]
    subst a84 b84
    obtain rfl := c84.symm
    try simp only [Option.toList_some, Option.toList_none, List.cons_append, List.nil_append]
    refine g_goto (pc := 87) (tgt := 121) C dX8_act_87 (by decide) ?_
    refine g_istore (pc := 121) (L2 := [(0, _), (1, _), (2, _), (3, _), (4, _), (5, _)]) C dX8_act_121 (by decide) rfl ?_
    refine g_aload_n (pc := 123) (i := 0) (j := 0) C dX8_act_123 rfl rfl ?_
    refine g_getI (pc := 124) C dX8_act_124 lfX8_370 (by first | rfl | assumption) rfl ?_
    refine g_if_eq (pc := 127) (tgt := 135) C dX8_act_127 (by decide) (fun h127z => ?_) (fun h127z => ?_)
    · refine g_iload (pc := 135) (j := 5) C dX8_act_135 rfl ?_
      refine g_iret (pc := 137) C C2 dX8_act_137 rfl (Nat.le_refl _) (Nat.le_refl _) ?_
      first | have hT := hR84 | have hT := hR97 | have hT := hR110 | have hT := hR118
      have hpt := hT.2.2.2.2.2
      refine ⟨?_, rfl, rfl, ?_⟩
      · rw [hpt] at h127z
        clear C C2
        try have w9 := w110
        try have w9 := w118
        first
          | (exfalso; revert h127z; decide)
          | (rw [ac_prt, ac_val, h79z]; rfl)
          | (rw [ac_prt, ac_val, h92z]; rfl)
          | (rw [ac_prt, if_neg h79z, if_neg h92z, if_pos h105z]; cases hq : ac_pt (nI b) (I 105 b) with | true => (first | rfl | (rw [hq] at h127z; exact absurd rfl h127z) | (rw [hq] at h127z; exact absurd h127z (by decide))) | false => (first | (rw [hq] at h127z; exact absurd rfl h127z) | (rw [hq] at h127z; exact absurd h127z (by decide)) | (rw [ac_val, if_neg h79z, if_neg h92z, if_pos h105z, w9 (by simpa [ac_pt] using hq)]; rfl)))
          | (rw [ac_prt, if_neg h79z, if_neg h92z, if_neg h105z]; cases hq : ac_tp (I 104 b) (nI b) (I 105 b) with | true => (first | rfl | (rw [hq] at h127z; exact absurd rfl h127z) | (rw [hq] at h127z; exact absurd h127z (by decide))) | false => (first | (rw [hq] at h127z; exact absurd rfl h127z) | (rw [hq] at h127z; exact absurd h127z (by decide)) | (rw [ac_val, if_neg h79z, if_neg h92z, if_neg h105z, w9 hq]; rfl)))
      · have hQ := ma_Q_of hT
        rw [List.nil_append] at hQ
        first | (rw [ac_bod, if_pos h79z]; exact hQ) | (rw [ac_bod, if_neg h79z, if_pos h92z]; exact hQ) | (rw [ac_bod, if_neg h79z, if_neg h92z, if_pos h105z]; exact hQ) | (rw [ac_bod, if_neg h79z, if_neg h92z, if_neg h105z]; exact hQ)
    · refine g_bipush (pc := 130) (v := (-15)) C dX8_act_130 (by decide) ?_
      refine g_goto (pc := 132) (tgt := 137) C dX8_act_132 (by decide) ?_
      refine g_iret (pc := 137) C C2 dX8_act_137 rfl (Nat.le_refl _) (Nat.le_refl _) ?_
      first | have hT := hR84 | have hT := hR97 | have hT := hR110 | have hT := hR118
      have hpt := hT.2.2.2.2.2
      refine ⟨?_, rfl, rfl, ?_⟩
      · rw [hpt] at h127z
        clear C C2
        try have w9 := w110
        try have w9 := w118
        first
          | (exfalso; revert h127z; decide)
          | (rw [ac_prt, ac_val, h79z]; rfl)
          | (rw [ac_prt, ac_val, h92z]; rfl)
          | (rw [ac_prt, if_neg h79z, if_neg h92z, if_pos h105z]; cases hq : ac_pt (nI b) (I 105 b) with | true => (first | rfl | (rw [hq] at h127z; exact absurd rfl h127z) | (rw [hq] at h127z; exact absurd h127z (by decide))) | false => (first | (rw [hq] at h127z; exact absurd rfl h127z) | (rw [hq] at h127z; exact absurd h127z (by decide)) | (rw [ac_val, if_neg h79z, if_neg h92z, if_pos h105z, w9 (by simpa [ac_pt] using hq)]; rfl)))
          | (rw [ac_prt, if_neg h79z, if_neg h92z, if_neg h105z]; cases hq : ac_tp (I 104 b) (nI b) (I 105 b) with | true => (first | rfl | (rw [hq] at h127z; exact absurd rfl h127z) | (rw [hq] at h127z; exact absurd h127z (by decide))) | false => (first | (rw [hq] at h127z; exact absurd rfl h127z) | (rw [hq] at h127z; exact absurd h127z (by decide)) | (rw [ac_val, if_neg h79z, if_neg h92z, if_neg h105z, w9 hq]; rfl)))
      · have hQ := ma_Q_of hT
        rw [List.nil_append] at hQ
        first | (rw [ac_bod, if_pos h79z]; exact hQ) | (rw [ac_bod, if_neg h79z, if_pos h92z]; exact hQ) | (rw [ac_bod, if_neg h79z, if_neg h92z, if_pos h105z]; exact hQ) | (rw [ac_bod, if_neg h79z, if_neg h92z, if_neg h105z]; exact hQ)

set_option maxHeartbeats 4000000 in
set_option maxRecDepth 100000 in
theorem c_X8_act0 {d : Nat} {x w v : Int32} {I : pm_I} {J : pm_J} {n : Nat} (hn : I 102 2 = nI n) (h6 : n ≤ 6) (hv : ¬ ((0 ≤ x ∧ x ≤ 3) ∧ (0 ≤ w ∧ w ≤ 3) ∧ mk_h I x.toNatClampNeg)) : pm_M (d + 3) 0 0 yX8_act cX8_act 6 (some .int) [.ref 102, .int x, .int w, .int v] SHP I J (pm_D (some (.int (0))) SHP (pm_u I 102 37 0) J) := by
  refine pm_start (own := RX8) (nm := "act") (by decide) rfl rfl (L := [(0, .ref 102), (1, .int x), (2, .int w), (3, .int v)]) rfl (Nat.le_of_ble_eq_true rfl) (fun Γ C C2 => ?_)
  refine g_aload_n (pc := 0) (i := 0) (j := 0) C dX8_act_0 rfl rfl ?_
  refine g_iconst (pc := 1) (v := 0) C dX8_act_1 (by decide) ?_
  refine g_putI (pc := 2) C dX8_act_2 lpX8_343 rfl rfl (by first | rfl | assumption) rfl ?_
  refine g_iload_n (pc := 5) (i := 1) (j := 1) C dX8_act_5 rfl rfl ?_
  refine g_callS (pc := 6) C dX8_act_6 lmX8_324 kcX8_isShelf (by decide) (c_X8_isShelf) rfl rfl (Nat.le_of_ble_eq_true rfl) ?_
  intro r9 sh9 I9 J9 hD9; obtain ⟨rfl, rfl, rfl, rfl⟩ := pm_Dq hD9; clear hD9
  try simp only [Option.toList_some, Option.toList_none, List.cons_append, List.nil_append]
  refine g_if_eqB (pc := 9) (tgt := 20) C dX8_act_9 (by decide) (fun h9z => ?_) (fun h9z => ?_)
  · refine g_iconst (pc := 20) (v := (-1)) C dX8_act_20 (by decide) ?_
    refine g_istore (pc := 21) (L2 := [(0, _), (1, _), (2, _), (3, _), (4, _)]) C dX8_act_21 (by decide) rfl ?_
    refine g_iload_n (pc := 23) (i := 2) (j := 2) C dX8_act_23 rfl rfl ?_
    refine g_iconst (pc := 24) (v := 0) C dX8_act_24 (by decide) ?_
    refine g_iconst (pc := 25) (v := 3) C dX8_act_25 (by decide) ?_
    refine g_callS (pc := 26) C dX8_act_26 lmX8_78 kcX8_in (by decide) (c_X8_in) rfl rfl (Nat.le_of_ble_eq_true rfl) ?_
    intro r9 sh9 I9 J9 hD9; obtain ⟨rfl, rfl, rfl, rfl⟩ := pm_Dq hD9; clear hD9
    try simp only [Option.toList_some, Option.toList_none, List.cons_append, List.nil_append]
    refine g_if_eqB (pc := 29) (tgt := 42) C dX8_act_29 (by decide) (fun h29z => ?_) (fun h29z => ?_)
    · refine g_iconst (pc := 42) (v := 0) C dX8_act_42 (by decide) ?_
      refine g_iret (pc := 43) C C2 dX8_act_43 rfl (Nat.le_refl _) (Nat.le_refl _) ?_
      exact ⟨rfl, rfl, rfl, rfl⟩
    · refine g_iload (pc := 32) (j := 4) C dX8_act_32 rfl ?_
      refine g_iconst (pc := 34) (v := 0) C dX8_act_34 (by decide) ?_
      refine g_iconst (pc := 35) (v := 5) C dX8_act_35 (by decide) ?_
      refine g_callS (pc := 36) C dX8_act_36 lmX8_78 kcX8_in (by decide) (c_X8_in) rfl rfl (Nat.le_of_ble_eq_true rfl) ?_
      intro r9 sh9 I9 J9 hD9; obtain ⟨rfl, rfl, rfl, rfl⟩ := pm_Dq hD9; clear hD9
      try simp only [Option.toList_some, Option.toList_none, List.cons_append, List.nil_append]
      refine g_if_neB (pc := 39) (tgt := 44) C dX8_act_39 (by decide) (fun h39z => ?_) (fun h39z => ?_)
      · first | exact absurd h39z (by decide) | exact absurd (mk_on_37 ▸ h39z) (mk_on_no (fun q => hv ⟨v9, h29z, ecs.symm ▸ q⟩))
      · refine g_iconst (pc := 42) (v := 0) C dX8_act_42 (by decide) ?_
        refine g_iret (pc := 43) C C2 dX8_act_43 rfl (Nat.le_refl _) (Nat.le_refl _) ?_
        exact ⟨rfl, rfl, rfl, rfl⟩
  · have v9 := h9z
    obtain ⟨s, hs, rfl⟩ := pm_ix (N := 4) h9z.1 h9z.2 (by decide)
    have ecs : (nI s).toNatClampNeg = s := nI_clamp (by omega)
    refine g_aload_n (pc := 12) (i := 0) (j := 0) C dX8_act_12 rfl rfl ?_
    refine g_iload_n (pc := 13) (i := 1) (j := 1) C dX8_act_13 rfl rfl ?_
    refine g_callV (pc := 14) C dX8_act_14 lmX8_337 kcX8_kindOn (by decide) (by first | rfl | assumption) (c_X8_kindOn (n := n) (by rw [pm_u_at, pk_un (by decide)]; exact hn) h6 hs) rfl rfl (Nat.le_of_ble_eq_true rfl) ?_
    intro r9 sh9 I9 J9 hD9; obtain ⟨rfl, rfl, rfl, rfl⟩ := pm_Dq hD9; clear hD9
    try simp only [Option.toList_some, Option.toList_none, List.cons_append, List.nil_append]
    refine g_goto (pc := 17) (tgt := 21) C dX8_act_17 (by decide) ?_
    refine g_istore (pc := 21) (L2 := [(0, _), (1, _), (2, _), (3, _), (4, _)]) C dX8_act_21 (by decide) rfl ?_
    refine g_iload_n (pc := 23) (i := 2) (j := 2) C dX8_act_23 rfl rfl ?_
    refine g_iconst (pc := 24) (v := 0) C dX8_act_24 (by decide) ?_
    refine g_iconst (pc := 25) (v := 3) C dX8_act_25 (by decide) ?_
    refine g_callS (pc := 26) C dX8_act_26 lmX8_78 kcX8_in (by decide) (c_X8_in) rfl rfl (Nat.le_of_ble_eq_true rfl) ?_
    intro r9 sh9 I9 J9 hD9; obtain ⟨rfl, rfl, rfl, rfl⟩ := pm_Dq hD9; clear hD9
    try simp only [Option.toList_some, Option.toList_none, List.cons_append, List.nil_append]
    refine g_if_eqB (pc := 29) (tgt := 42) C dX8_act_29 (by decide) (fun h29z => ?_) (fun h29z => ?_)
    · refine g_iconst (pc := 42) (v := 0) C dX8_act_42 (by decide) ?_
      refine g_iret (pc := 43) C C2 dX8_act_43 rfl (Nat.le_refl _) (Nat.le_refl _) ?_
      exact ⟨rfl, rfl, rfl, rfl⟩
    · refine g_iload (pc := 32) (j := 4) C dX8_act_32 rfl ?_
      refine g_iconst (pc := 34) (v := 0) C dX8_act_34 (by decide) ?_
      refine g_iconst (pc := 35) (v := 5) C dX8_act_35 (by decide) ?_
      refine g_callS (pc := 36) C dX8_act_36 lmX8_78 kcX8_in (by decide) (c_X8_in) rfl rfl (Nat.le_of_ble_eq_true rfl) ?_
      intro r9 sh9 I9 J9 hD9; obtain ⟨rfl, rfl, rfl, rfl⟩ := pm_Dq hD9; clear hD9
      try simp only [Option.toList_some, Option.toList_none, List.cons_append, List.nil_append]
      refine g_if_neB (pc := 39) (tgt := 44) C dX8_act_39 (by decide) (fun h39z => ?_) (fun h39z => ?_)
      · first | exact absurd h39z (by decide) | exact absurd (mk_on_37 ▸ h39z) (mk_on_no (fun q => hv ⟨v9, h29z, ecs.symm ▸ q⟩))
      · refine g_iconst (pc := 42) (v := 0) C dX8_act_42 (by decide) ?_
        refine g_iret (pc := 43) C C2 dX8_act_43 rfl (Nat.le_refl _) (Nat.le_refl _) ?_
        exact ⟨rfl, rfl, rfl, rfl⟩

set_option maxHeartbeats 4000000 in
set_option maxRecDepth 100000 in
theorem c_X8_trace {d : Nat} {x : Int32} {I : pm_I} {J : pm_J} {r : Nat} (hr : I 102 37 = nI r) (hr30 : r ≤ 30) : pm_M (d + 1) 0 0 yX8_trace cX8_trace 2 (some .int) [.ref 102, .int x] SHP I J (pm_D (some (.int (if 0 ≤ x ∧ x ≤ I 102 37 - 1 then I 120 x.toNatClampNeg else -3))) SHP I J) := by
  refine pm_start (own := RX8) (nm := "trace") (by decide) rfl rfl (L := [(0, .ref 102), (1, .int x)]) rfl (Nat.le_of_ble_eq_true rfl) (fun Γ C C2 => ?_)
  refine g_iload_n (pc := 0) (i := 1) (j := 1) C dX8_trace_0 rfl rfl ?_
  refine g_iconst (pc := 1) (v := 0) C dX8_trace_1 (by decide) ?_
  refine g_aload_n (pc := 2) (i := 0) (j := 0) C dX8_trace_2 rfl rfl ?_
  refine g_getI (pc := 3) C dX8_trace_3 lfX8_343 (by first | rfl | assumption) rfl ?_
  refine g_iconst (pc := 6) (v := 1) C dX8_trace_6 (by decide) ?_
  refine g_isub (pc := 7) C dX8_trace_7 ?_
  refine g_callS (pc := 8) C dX8_trace_8 lmX8_78 kcX8_in (by decide) (c_X8_in) rfl rfl (Nat.le_of_ble_eq_true rfl) ?_
  intro r9 sh9 I9 J9 hD9; obtain ⟨rfl, rfl, rfl, rfl⟩ := pm_Dq hD9; clear hD9
  try simp only [Option.toList_some, Option.toList_none, List.cons_append, List.nil_append]
  refine g_if_eqB (pc := 11) (tgt := 23) C dX8_trace_11 (by decide) (fun h11 => ?_) (fun h11 => ?_)
  · refine g_bipush (pc := 23) (v := (-3)) C dX8_trace_23 (by decide) ?_
    refine g_iret (pc := 25) C C2 dX8_trace_25 rfl (Nat.le_refl _) (Nat.le_refl _) ?_
    first | exact ⟨by rw [if_pos v11, nI_clamp (by omega)], rfl, rfl, rfl⟩ | exact ⟨by rw [if_neg h11], rfl, rfl, rfl⟩
  · have v11 := h11
    obtain ⟨z, hz, rfl⟩ := pm_hasN (x := x) (n := r) (by omega) (by rw [← hr]; exact h11)
    refine g_aload_n (pc := 14) (i := 0) (j := 0) C dX8_trace_14 rfl rfl ?_
    refine g_getR (pc := 15) C dX8_trace_15 lfX8_69 (by first | rfl | assumption) rfl ?_
    refine g_iload_n (pc := 18) (i := 1) (j := 1) C dX8_trace_18 rfl rfl ?_
    refine g_iald (pc := 19) C dX8_trace_19 (by first | rfl | assumption) (by decide) (by first | rfl | assumption) (by first | assumption | decide | omega) ?_
    refine g_goto (pc := 20) (tgt := 25) C dX8_trace_20 (by decide) ?_
    refine g_iret (pc := 25) C C2 dX8_trace_25 rfl (Nat.le_refl _) (Nat.le_refl _) ?_
    first | exact ⟨by rw [if_pos v11, nI_clamp (by omega)], rfl, rfl, rfl⟩ | exact ⟨by rw [if_neg h11], rfl, rfl, rfl⟩

set_option maxHeartbeats 4000000 in
set_option maxRecDepth 100000 in
theorem c_X8_many {d : Nat} {x : Int32} {I : pm_I} {J : pm_J} {w : Nat → Int32} {g : Int32} {n t : Nat} {B : Nat → Nat → Int32} (hF : mo_F I w g 0 n) (ht : t ≤ 96) (hok : ∀ b, b < n → mo_ok (B b)) (hW : mo_W I 0 t n B I)  : pm_M (d + 5) 0 0 yX8_many cX8_many 2 (some .int) [.ref 102, .int x] SHP I J (pm_D (some (.int (if x = 0 then I 102 2 else if x = 1 then bl_ends B g n n / 2 else if x = 2 then I 106 0 else if x = 3 then I 102 25 else if x = 4 then I 102 10 else if x = 5 then I 102 37 else -1))) SHP I J) := by
  refine pm_start (own := RX8) (nm := "many") (by decide) rfl rfl (L := [(0, .ref 102), (1, .int x)]) rfl (Nat.le_of_ble_eq_true rfl) (fun Γ C C2 => ?_)
  refine g_iload_n (pc := 0) (i := 1) (j := 1) C dX8_many_0 rfl rfl ?_
  refine pm_sw (0) (fun h1_0 => ?_) (fun h1_0 => ?_)
  · refine g_tsIn (pc := 1) (tgt := 40) (0) C dX8_many_1 (by rw [h1_0]; decide) (by decide) (by decide) rfl (by decide) ?_
    refine g_aload_n (pc := 40) (i := 0) (j := 0) C dX8_many_40 rfl rfl ?_
    refine g_getI (pc := 41) C dX8_many_41 lfX8_82 (by first | rfl | assumption) rfl ?_
    refine g_iret (pc := 44) C C2 dX8_many_44 rfl (Nat.le_refl _) (Nat.le_refl _) ?_
    clear C C2
    exact ⟨by grind, rfl, rfl, rfl⟩
  refine pm_sw (1) (fun h1_1 => ?_) (fun h1_1 => ?_)
  · refine g_tsIn (pc := 1) (tgt := 45) (1) C dX8_many_1 (by rw [h1_1]; decide) (by decide) (by decide) rfl (by decide) ?_
    refine g_aload_n (pc := 45) (i := 0) (j := 0) C dX8_many_45 rfl rfl ?_
    refine g_callV (pc := 46) C dX8_many_46 lmX8_307 kcX8_pairs (by decide) (by first | rfl | assumption) (c_mo_pairs hF (by decide) (by omega) hW) rfl rfl (Nat.le_of_ble_eq_true rfl) ?_
    intro r9 sh9 I9 J9 hD9; obtain ⟨rfl, rfl, rfl, rfl⟩ := pm_Dq hD9; clear hD9
    try simp only [Option.toList_some, Option.toList_none, List.cons_append, List.nil_append]
    refine g_iret (pc := 49) C C2 dX8_many_49 rfl (Nat.le_refl _) (Nat.le_refl _) ?_
    clear C C2
    exact ⟨by grind, rfl, rfl, rfl⟩
  refine pm_sw (2) (fun h1_2 => ?_) (fun h1_2 => ?_)
  · refine g_tsIn (pc := 1) (tgt := 50) (2) C dX8_many_1 (by rw [h1_2]; decide) (by decide) (by decide) rfl (by decide) ?_
    refine g_aload_n (pc := 50) (i := 0) (j := 0) C dX8_many_50 rfl rfl ?_
    refine g_getR (pc := 51) C dX8_many_51 lfX8_23 (by first | rfl | assumption) rfl ?_
    refine g_iconst (pc := 54) (v := 0) C dX8_many_54 (by decide) ?_
    refine g_iald (pc := 55) C dX8_many_55 (by first | rfl | assumption) (by decide) (by first | rfl | assumption) (by first | assumption | decide | omega) ?_
    refine g_iret (pc := 56) C C2 dX8_many_56 rfl (Nat.le_refl _) (Nat.le_refl _) ?_
    clear C C2
    exact ⟨by grind, rfl, rfl, rfl⟩
  refine pm_sw (3) (fun h1_3 => ?_) (fun h1_3 => ?_)
  · refine g_tsIn (pc := 1) (tgt := 57) (3) C dX8_many_1 (by rw [h1_3]; decide) (by decide) (by decide) rfl (by decide) ?_
    refine g_aload_n (pc := 57) (i := 0) (j := 0) C dX8_many_57 rfl rfl ?_
    refine g_getI (pc := 58) C dX8_many_58 lfX8_202 (by first | rfl | assumption) rfl ?_
    refine g_iret (pc := 61) C C2 dX8_many_61 rfl (Nat.le_refl _) (Nat.le_refl _) ?_
    clear C C2
    exact ⟨by grind, rfl, rfl, rfl⟩
  refine pm_sw (4) (fun h1_4 => ?_) (fun h1_4 => ?_)
  · refine g_tsIn (pc := 1) (tgt := 62) (4) C dX8_many_1 (by rw [h1_4]; decide) (by decide) (by decide) rfl (by decide) ?_
    refine g_aload_n (pc := 62) (i := 0) (j := 0) C dX8_many_62 rfl rfl ?_
    refine g_getI (pc := 63) C dX8_many_63 lfX8_88 (by first | rfl | assumption) rfl ?_
    refine g_iret (pc := 66) C C2 dX8_many_66 rfl (Nat.le_refl _) (Nat.le_refl _) ?_
    clear C C2
    exact ⟨by grind, rfl, rfl, rfl⟩
  refine pm_sw (5) (fun h1_5 => ?_) (fun h1_5 => ?_)
  · refine g_tsIn (pc := 1) (tgt := 67) (5) C dX8_many_1 (by rw [h1_5]; decide) (by decide) (by decide) rfl (by decide) ?_
    refine g_aload_n (pc := 67) (i := 0) (j := 0) C dX8_many_67 rfl rfl ?_
    refine g_getI (pc := 68) C dX8_many_68 lfX8_343 (by first | rfl | assumption) rfl ?_
    refine g_iret (pc := 71) C C2 dX8_many_71 rfl (Nat.le_refl _) (Nat.le_refl _) ?_
    clear C C2
    exact ⟨by grind, rfl, rfl, rfl⟩
  refine g_tsOut (pc := 1) (tgt := 72) C dX8_many_1 (by have q0 := lv_neT (a := 0) h1_0 (by decide); have q1 := lv_neT (a := 1) h1_1 (by decide); have q2 := lv_neT (a := 2) h1_2 (by decide); have q3 := lv_neT (a := 3) h1_3 (by decide); have q4 := lv_neT (a := 4) h1_4 (by decide); have q5 := lv_neT (a := 5) h1_5 (by decide); omega) (by decide) ?_
  refine g_iconst (pc := 72) (v := (-1)) C dX8_many_72 (by decide) ?_
  refine g_iret (pc := 73) C C2 dX8_many_73 rfl (Nat.le_refl _) (Nat.le_refl _) ?_
  clear C C2
  exact ⟨by grind, rfl, rfl, rfl⟩
