/-! Public methods: gifts, draws, rows, what is kept, hours -/
theorem pm_hasN {x : Int32} {n : Nat} (hn : n ≤ 100000) (h : 0 ≤ x ∧ x ≤ nI n - 1) : ∃ b, b < n ∧ x = nI b := by
  obtain ⟨h1, h2⟩ := h
  refine ⟨x.toNatClampNeg, ?_, pm_nat h1⟩
  have e1 := Int32.le_iff_toInt_le.mp h1
  have e2 := Int32.le_iff_toInt_le.mp h2
  rw [Int32.toInt_zero] at e1
  show x.toInt.toNat < n
  cases n with
  | zero =>
    have e : (nI 0 - 1).toInt = -1 := by decide
    omega
  | succ k =>
    rw [nI_pred, nI_toInt (by omega)] at e2
    omega
def dr_z (z : Int32) : Int32 := z * 1103515245 + 12345
def dr_u (z : Int32) : Int32 := (z.toUInt32 >>> ((16 : Int32).toUInt32 &&& Int32.toUInt32 31)).toInt32
def dr_v (z : Int32) : Int32 := dr_u z - dr_u z / 61 * 61 + (-20)
/-- the live town k hours on -/
def tw_go (I : pm_I) (n t : Nat) : Nat → pm_I
  | 0 => I
  | k + 1 => pm_u (bl_hr (tw_go I n t k) (I 2 ((t + k) % 24)) (nI ((t + k) % 24)) n) 1 3 (nI (t + k + 1))
theorem tw_go_off {I : pm_I} {n t a : Nat} (h1 : a ≠ 1) (h2 : ∀ b, b < n → a ≠ 5 + 2 * b) : ∀ k, tw_go I n t k a = I a
  | 0 => rfl
  | k + 1 => by
    show pm_u _ _ _ _ a = _
    rw [pm_u_off h1, bl_hr_off h2, tw_go_off h1 h2 k]
theorem tw_go_1 {I : pm_I} {n t p : Nat} (hp : p ≠ 3) : ∀ k, tw_go I n t k 1 p = I 1 p
  | 0 => rfl
  | k + 1 => by
    show pm_u _ _ _ _ 1 p = _
    rw [pm_u_at, pk_un hp, bl_hr_off (fun b hb => by omega), tw_go_1 hp k]
theorem tw_go_now {I : pm_I} {n t : Nat} (ht : I 1 3 = nI t) : ∀ k, tw_go I n t k 1 3 = nI (t + k)
  | 0 => ht
  | k + 1 => by
    show pm_u _ _ _ _ 1 3 = _
    rw [pm_u_at, pk_us]
    rfl
theorem tw_go_L {I : pm_I} {n t b : Nat} (hb : b < n) : ∀ k, tw_go I n t k (5 + 2 * b) = tr_ev (I 2) 0 t (bl_L I b) k
  | 0 => rfl
  | k + 1 => by
    show pm_u _ _ _ _ _ = _
    rw [pm_u_off (by omega), bl_hr_at hb, tw_go_L hb k, tr_ev, Int32.sub_zero]
set_option maxHeartbeats 4000000 in
set_option maxRecDepth 100000 in
theorem c_X7_give {d : Nat} {x y w v : Int32} {I : pm_I} {J : pm_J} {n : Nat} (hn : I 1 2 = nI n) (h6 : n ≤ 6)  : pm_M (d + 5) 0 0 yX7_give cX7_give 6 (some .int) [.ref 0, .int x, .int y, .int w, .int v] SHP I J (pm_D (some (.int (if ((0 ≤ x ∧ x ≤ I 1 2 - 1) ∧ (0 ≤ y ∧ y ≤ I 1 2 - 1) ∧ ¬ x = y) ∧ (0 ≤ w ∧ w ≤ 1) ∧ 1 ≤ v ∧ v ≤ 99 then (if bl_can (bl_L I) x.toNatClampNeg y.toNatClampNeg (if w = 0 then 6 else 7) n v then I (5 + 2 * y.toNatClampNeg) (if w = 0 then 6 else 7) + v else -4) else -1))) SHP (if (((0 ≤ x ∧ x ≤ I 1 2 - 1) ∧ (0 ≤ y ∧ y ≤ I 1 2 - 1) ∧ ¬ x = y) ∧ (0 ≤ w ∧ w ≤ 1) ∧ 1 ≤ v ∧ v ≤ 99) ∧ bl_can (bl_L I) x.toNatClampNeg y.toNatClampNeg (if w = 0 then 6 else 7) n v then pm_u (pm_u I (5 + 2 * x.toNatClampNeg) (if w = 0 then 6 else 7) (I (5 + 2 * x.toNatClampNeg) (if w = 0 then 6 else 7) - v)) (5 + 2 * y.toNatClampNeg) (if w = 0 then 6 else 7) (I (5 + 2 * y.toNatClampNeg) (if w = 0 then 6 else 7) + v) else I) J) := by
  refine pm_start (own := RX7) (nm := "give") (by decide) rfl rfl (L := [(0, .ref 0), (1, .int x), (2, .int y), (3, .int w), (4, .int v)]) rfl (Nat.le_of_ble_eq_true rfl) (fun Γ C C2 => ?_)
  refine g_aload_n (pc := 0) (i := 0) (j := 0) C dX7_give_0 rfl rfl ?_
  refine g_getR (pc := 1) C dX7_give_1 lfX7_10 (by first | rfl | assumption) rfl ?_
  refine g_iload_n (pc := 4) (i := 1) (j := 1) C dX7_give_4 rfl rfl ?_
  refine g_callV (pc := 5) C dX7_give_5 lmX7_115 kcX5_has (by decide) (by first | rfl | assumption) (c_X5_has) rfl rfl (Nat.le_of_ble_eq_true rfl) ?_
  intro r9 sh9 I9 J9 hD9; obtain ⟨rfl, rfl, rfl, rfl⟩ := pm_Dq hD9
  try simp only [Option.toList_some, Option.toList_none, List.cons_append, List.nil_append]
  refine g_if_eqB (pc := 8) (tgt := 27) C dX7_give_8 (by decide) (fun h8 => ?_) (fun h8 => ?_)
  · refine g_iconst (pc := 27) (v := (-1)) C dX7_give_27 (by decide) ?_
    refine g_iret (pc := 28) C C2 dX7_give_28 rfl (Nat.le_refl _) (Nat.le_refl _) ?_
    clear C C2
    try clear sBb sPb sBe sPe
    exact ⟨by first | rfl | grind, rfl, by first | rfl | grind, rfl⟩
  · refine g_aload_n (pc := 11) (i := 0) (j := 0) C dX7_give_11 rfl rfl ?_
    refine g_getR (pc := 12) C dX7_give_12 lfX7_10 (by first | rfl | assumption) rfl ?_
    refine g_iload_n (pc := 15) (i := 2) (j := 2) C dX7_give_15 rfl rfl ?_
    refine g_callV (pc := 16) C dX7_give_16 lmX7_115 kcX5_has (by decide) (by first | rfl | assumption) (c_X5_has) rfl rfl (Nat.le_of_ble_eq_true rfl) ?_
    intro r9 sh9 I9 J9 hD9; obtain ⟨rfl, rfl, rfl, rfl⟩ := pm_Dq hD9
    try simp only [Option.toList_some, Option.toList_none, List.cons_append, List.nil_append]
    refine g_if_eqB (pc := 19) (tgt := 27) C dX7_give_19 (by decide) (fun h19 => ?_) (fun h19 => ?_)
    · refine g_iconst (pc := 27) (v := (-1)) C dX7_give_27 (by decide) ?_
      refine g_iret (pc := 28) C C2 dX7_give_28 rfl (Nat.le_refl _) (Nat.le_refl _) ?_
      clear C C2
      try clear sBb sPb sBe sPe
      exact ⟨by first | rfl | grind, rfl, by first | rfl | grind, rfl⟩
    · refine g_iload_n (pc := 22) (i := 1) (j := 1) C dX7_give_22 rfl rfl ?_
      refine g_iload_n (pc := 23) (i := 2) (j := 2) C dX7_give_23 rfl rfl ?_
      refine g_icmp_ne (pc := 24) (tgt := 29) C dX7_give_24 (by decide) (fun h24 => ?_) (fun h24 => ?_)
      · refine g_iload_n (pc := 29) (i := 3) (j := 3) C dX7_give_29 rfl rfl ?_
        refine g_iconst (pc := 30) (v := 0) C dX7_give_30 (by decide) ?_
        refine g_iconst (pc := 31) (v := 1) C dX7_give_31 (by decide) ?_
        refine g_callS (pc := 32) C dX7_give_32 lmX7_72 kcX7_within (by decide) (c_X7_within) rfl rfl (Nat.le_of_ble_eq_true rfl) ?_
        intro r9 sh9 I9 J9 hD9; obtain ⟨rfl, rfl, rfl, rfl⟩ := pm_Dq hD9
        try simp only [Option.toList_some, Option.toList_none, List.cons_append, List.nil_append]
        refine g_if_eqB (pc := 35) (tgt := 49) C dX7_give_35 (by decide) (fun h35 => ?_) (fun h35 => ?_)
        · refine g_iconst (pc := 49) (v := (-1)) C dX7_give_49 (by decide) ?_
          refine g_iret (pc := 50) C C2 dX7_give_50 rfl (Nat.le_refl _) (Nat.le_refl _) ?_
          clear C C2
          try clear sBb sPb sBe sPe
          exact ⟨by first | rfl | grind, rfl, by first | rfl | grind, rfl⟩
        · refine g_iload (pc := 38) (j := 4) C dX7_give_38 rfl ?_
          refine g_iconst (pc := 40) (v := 1) C dX7_give_40 (by decide) ?_
          refine g_bipush (pc := 41) (v := 99) C dX7_give_41 (by decide) ?_
          refine g_callS (pc := 43) C dX7_give_43 lmX7_72 kcX7_within (by decide) (c_X7_within) rfl rfl (Nat.le_of_ble_eq_true rfl) ?_
          intro r9 sh9 I9 J9 hD9; obtain ⟨rfl, rfl, rfl, rfl⟩ := pm_Dq hD9
          try simp only [Option.toList_some, Option.toList_none, List.cons_append, List.nil_append]
          refine g_if_neB (pc := 46) (tgt := 51) C dX7_give_46 (by decide) (fun h46 => ?_) (fun h46 => ?_)
          · obtain ⟨b, hb, rfl⟩ := pm_has hn h6 h8
            have ecb : (nI b).toNatClampNeg = b := nI_clamp (by omega)
            have sBb := shB b (by omega)
            have sPb := shP b (by omega)
            obtain ⟨e, he, rfl⟩ := pm_has hn h6 h19
            have ece : (nI e).toNatClampNeg = e := nI_clamp (by omega)
            have sBe := shB e (by omega)
            have sPe := shP e (by omega)
            have hne : b ≠ e := fun q => h24 (by rw [q])
            refine g_iload_n (pc := 51) (i := 3) (j := 3) C dX7_give_51 rfl rfl ?_
            refine g_if_ne (pc := 52) (tgt := 60) C dX7_give_52 (by decide) (fun h52 => ?_) (fun h52 => ?_)
            · refine g_bipush (pc := 60) (v := 7) C dX7_give_60 (by decide) ?_
              refine g_istore (pc := 62) (L2 := [(0, _), (1, _), (2, _), (3, _), (4, _), (5, _)]) C dX7_give_62 (by decide) rfl ?_
              refine g_aload_n (pc := 64) (i := 0) (j := 0) C dX7_give_64 rfl rfl ?_
              refine g_getR (pc := 65) C dX7_give_65 lfX7_10 (by first | rfl | assumption) rfl ?_
              refine g_iload_n (pc := 68) (i := 1) (j := 1) C dX7_give_68 rfl rfl ?_
              refine g_iload_n (pc := 69) (i := 2) (j := 2) C dX7_give_69 rfl rfl ?_
              refine g_iload (pc := 70) (j := 5) C dX7_give_70 rfl ?_
              refine g_iload (pc := 72) (j := 4) C dX7_give_72 rfl ?_
              refine g_callV (pc := 74) C dX7_give_74 lmX7_144 kcX5_canGive (by decide) (by first | rfl | assumption) (c_X5_canGive (p := 7) (by omega) (by omega) (by decide) hn h6) rfl rfl (Nat.le_of_ble_eq_true rfl) ?_
              intro r9 sh9 I9 J9 hD9; obtain ⟨rfl, rfl, rfl, rfl⟩ := pm_Dq hD9
              try simp only [Option.toList_some, Option.toList_none, List.cons_append, List.nil_append]
              refine g_if_neB (pc := 77) (tgt := 83) C dX7_give_77 (by decide) (fun h77 => ?_) (fun h77 => ?_)
              · refine g_aload_n (pc := 83) (i := 0) (j := 0) C dX7_give_83 rfl rfl ?_
                refine g_getR (pc := 84) C dX7_give_84 lfX7_10 (by first | rfl | assumption) rfl ?_
                refine g_getR (pc := 87) C dX7_give_87 lfX7_118 (by first | rfl | assumption) rfl ?_
                refine g_iload_n (pc := 90) (i := 1) (j := 1) C dX7_give_90 rfl rfl ?_
                refine g_aald (pc := 91) C dX7_give_91 (by first | rfl | assumption) (fun _ => rfl) rfl (by decide) (by first | rfl | assumption) (rsB b (by omega)) ?_
                refine g_getR (pc := 92) C dX7_give_92 lfX7_138 (by first | rfl | assumption) rfl ?_
                refine g_iload (pc := 95) (j := 5) C dX7_give_95 rfl ?_
                refine g_dup2 (pc := 97) C dX7_give_97 rfl rfl ?_
                refine g_iald (pc := 98) (j := 7) C dX7_give_98 (by first | rfl | assumption) (by decide) rfl (by decide) ?_
                refine g_iload (pc := 99) (j := 4) C dX7_give_99 rfl ?_
                refine g_isub (pc := 101) C dX7_give_101 ?_
                refine g_iast (pc := 102) (j := 7) C dX7_give_102 (by first | rfl | assumption) (by decide) rfl (by decide) ?_
                refine g_aload_n (pc := 103) (i := 0) (j := 0) C dX7_give_103 rfl rfl ?_
                refine g_getR (pc := 104) C dX7_give_104 lfX7_10 (by first | rfl | assumption) rfl ?_
                refine g_getR (pc := 107) C dX7_give_107 lfX7_118 (by first | rfl | assumption) rfl ?_
                refine g_iload_n (pc := 110) (i := 2) (j := 2) C dX7_give_110 rfl rfl ?_
                refine g_aald (pc := 111) C dX7_give_111 (by first | rfl | assumption) (fun _ => rfl) rfl (by decide) (by first | rfl | assumption) (rsB e (by omega)) ?_
                refine g_getR (pc := 112) C dX7_give_112 lfX7_138 (by first | rfl | assumption) rfl ?_
                refine g_iload (pc := 115) (j := 5) C dX7_give_115 rfl ?_
                refine g_dup2 (pc := 117) C dX7_give_117 rfl rfl ?_
                refine g_iald (pc := 118) (j := 7) C dX7_give_118 (by first | rfl | assumption) (by decide) rfl (by decide) ?_
                refine g_iload (pc := 119) (j := 4) C dX7_give_119 rfl ?_
                refine g_iadd (pc := 121) C dX7_give_121 ?_
                refine g_iast (pc := 122) (j := 7) C dX7_give_122 (by first | rfl | assumption) (by decide) rfl (by decide) ?_
                refine g_aload_n (pc := 123) (i := 0) (j := 0) C dX7_give_123 rfl rfl ?_
                refine g_getR (pc := 124) C dX7_give_124 lfX7_10 (by first | rfl | assumption) rfl ?_
                refine g_getR (pc := 127) C dX7_give_127 lfX7_118 (by first | rfl | assumption) rfl ?_
                refine g_iload_n (pc := 130) (i := 2) (j := 2) C dX7_give_130 rfl rfl ?_
                refine g_aald (pc := 131) C dX7_give_131 (by first | rfl | assumption) (fun _ => rfl) rfl (by decide) (by first | rfl | assumption) (rsB e (by omega)) ?_
                refine g_getR (pc := 132) C dX7_give_132 lfX7_138 (by first | rfl | assumption) rfl ?_
                refine g_iload (pc := 135) (j := 5) C dX7_give_135 rfl ?_
                refine g_iald (pc := 137) (j := 7) C dX7_give_137 (by first | rfl | assumption) (by decide) rfl (by decide) ?_
                rw [pm_u_at, pk_us, pm_u_off (show 5 + 2 * e ≠ 5 + 2 * b by omega)]
                refine g_iret (pc := 138) C C2 dX7_give_138 rfl (Nat.le_refl _) (Nat.le_refl _) ?_
                clear C C2
                try clear sBb sPb sBe sPe
                exact ⟨by first | rfl | grind, rfl, by first | rfl | grind, rfl⟩
              · refine g_bipush (pc := 80) (v := (-4)) C dX7_give_80 (by decide) ?_
                refine g_iret (pc := 82) C C2 dX7_give_82 rfl (Nat.le_refl _) (Nat.le_refl _) ?_
                clear C C2
                try clear sBb sPb sBe sPe
                exact ⟨by first | rfl | grind, rfl, by first | rfl | grind, rfl⟩
            · refine g_bipush (pc := 55) (v := 6) C dX7_give_55 (by decide) ?_
              refine g_goto (pc := 57) (tgt := 62) C dX7_give_57 (by decide) ?_
              refine g_istore (pc := 62) (L2 := [(0, _), (1, _), (2, _), (3, _), (4, _), (5, _)]) C dX7_give_62 (by decide) rfl ?_
              refine g_aload_n (pc := 64) (i := 0) (j := 0) C dX7_give_64 rfl rfl ?_
              refine g_getR (pc := 65) C dX7_give_65 lfX7_10 (by first | rfl | assumption) rfl ?_
              refine g_iload_n (pc := 68) (i := 1) (j := 1) C dX7_give_68 rfl rfl ?_
              refine g_iload_n (pc := 69) (i := 2) (j := 2) C dX7_give_69 rfl rfl ?_
              refine g_iload (pc := 70) (j := 5) C dX7_give_70 rfl ?_
              refine g_iload (pc := 72) (j := 4) C dX7_give_72 rfl ?_
              refine g_callV (pc := 74) C dX7_give_74 lmX7_144 kcX5_canGive (by decide) (by first | rfl | assumption) (c_X5_canGive (p := 6) (by omega) (by omega) (by decide) hn h6) rfl rfl (Nat.le_of_ble_eq_true rfl) ?_
              intro r9 sh9 I9 J9 hD9; obtain ⟨rfl, rfl, rfl, rfl⟩ := pm_Dq hD9
              try simp only [Option.toList_some, Option.toList_none, List.cons_append, List.nil_append]
              refine g_if_neB (pc := 77) (tgt := 83) C dX7_give_77 (by decide) (fun h77 => ?_) (fun h77 => ?_)
              · refine g_aload_n (pc := 83) (i := 0) (j := 0) C dX7_give_83 rfl rfl ?_
                refine g_getR (pc := 84) C dX7_give_84 lfX7_10 (by first | rfl | assumption) rfl ?_
                refine g_getR (pc := 87) C dX7_give_87 lfX7_118 (by first | rfl | assumption) rfl ?_
                refine g_iload_n (pc := 90) (i := 1) (j := 1) C dX7_give_90 rfl rfl ?_
                refine g_aald (pc := 91) C dX7_give_91 (by first | rfl | assumption) (fun _ => rfl) rfl (by decide) (by first | rfl | assumption) (rsB b (by omega)) ?_
                refine g_getR (pc := 92) C dX7_give_92 lfX7_138 (by first | rfl | assumption) rfl ?_
                refine g_iload (pc := 95) (j := 5) C dX7_give_95 rfl ?_
                refine g_dup2 (pc := 97) C dX7_give_97 rfl rfl ?_
                refine g_iald (pc := 98) (j := 6) C dX7_give_98 (by first | rfl | assumption) (by decide) rfl (by decide) ?_
                refine g_iload (pc := 99) (j := 4) C dX7_give_99 rfl ?_
                refine g_isub (pc := 101) C dX7_give_101 ?_
                refine g_iast (pc := 102) (j := 6) C dX7_give_102 (by first | rfl | assumption) (by decide) rfl (by decide) ?_
                refine g_aload_n (pc := 103) (i := 0) (j := 0) C dX7_give_103 rfl rfl ?_
                refine g_getR (pc := 104) C dX7_give_104 lfX7_10 (by first | rfl | assumption) rfl ?_
                refine g_getR (pc := 107) C dX7_give_107 lfX7_118 (by first | rfl | assumption) rfl ?_
                refine g_iload_n (pc := 110) (i := 2) (j := 2) C dX7_give_110 rfl rfl ?_
                refine g_aald (pc := 111) C dX7_give_111 (by first | rfl | assumption) (fun _ => rfl) rfl (by decide) (by first | rfl | assumption) (rsB e (by omega)) ?_
                refine g_getR (pc := 112) C dX7_give_112 lfX7_138 (by first | rfl | assumption) rfl ?_
                refine g_iload (pc := 115) (j := 5) C dX7_give_115 rfl ?_
                refine g_dup2 (pc := 117) C dX7_give_117 rfl rfl ?_
                refine g_iald (pc := 118) (j := 6) C dX7_give_118 (by first | rfl | assumption) (by decide) rfl (by decide) ?_
                refine g_iload (pc := 119) (j := 4) C dX7_give_119 rfl ?_
                refine g_iadd (pc := 121) C dX7_give_121 ?_
                refine g_iast (pc := 122) (j := 6) C dX7_give_122 (by first | rfl | assumption) (by decide) rfl (by decide) ?_
                refine g_aload_n (pc := 123) (i := 0) (j := 0) C dX7_give_123 rfl rfl ?_
                refine g_getR (pc := 124) C dX7_give_124 lfX7_10 (by first | rfl | assumption) rfl ?_
                refine g_getR (pc := 127) C dX7_give_127 lfX7_118 (by first | rfl | assumption) rfl ?_
                refine g_iload_n (pc := 130) (i := 2) (j := 2) C dX7_give_130 rfl rfl ?_
                refine g_aald (pc := 131) C dX7_give_131 (by first | rfl | assumption) (fun _ => rfl) rfl (by decide) (by first | rfl | assumption) (rsB e (by omega)) ?_
                refine g_getR (pc := 132) C dX7_give_132 lfX7_138 (by first | rfl | assumption) rfl ?_
                refine g_iload (pc := 135) (j := 5) C dX7_give_135 rfl ?_
                refine g_iald (pc := 137) (j := 6) C dX7_give_137 (by first | rfl | assumption) (by decide) rfl (by decide) ?_
                rw [pm_u_at, pk_us, pm_u_off (show 5 + 2 * e ≠ 5 + 2 * b by omega)]
                refine g_iret (pc := 138) C C2 dX7_give_138 rfl (Nat.le_refl _) (Nat.le_refl _) ?_
                clear C C2
                try clear sBb sPb sBe sPe
                exact ⟨by first | rfl | grind, rfl, by first | rfl | grind, rfl⟩
              · refine g_bipush (pc := 80) (v := (-4)) C dX7_give_80 (by decide) ?_
                refine g_iret (pc := 82) C C2 dX7_give_82 rfl (Nat.le_refl _) (Nat.le_refl _) ?_
                clear C C2
                try clear sBb sPb sBe sPe
                exact ⟨by first | rfl | grind, rfl, by first | rfl | grind, rfl⟩
          · refine g_iconst (pc := 49) (v := (-1)) C dX7_give_49 (by decide) ?_
            refine g_iret (pc := 50) C C2 dX7_give_50 rfl (Nat.le_refl _) (Nat.le_refl _) ?_
            clear C C2
            try clear sBb sPb sBe sPe
            exact ⟨by first | rfl | grind, rfl, by first | rfl | grind, rfl⟩
      · refine g_iconst (pc := 27) (v := (-1)) C dX7_give_27 (by decide) ?_
        refine g_iret (pc := 28) C C2 dX7_give_28 rfl (Nat.le_refl _) (Nat.le_refl _) ?_
        clear C C2
        try clear sBb sPb sBe sPe
        exact ⟨by first | rfl | grind, rfl, by first | rfl | grind, rfl⟩

set_option maxHeartbeats 4000000 in
set_option maxRecDepth 100000 in
theorem c_X7_draw {d : Nat} {x : Int32} {I : pm_I} {J : pm_J} : pm_M (d + 2) 0 0 yX7_draw cX7_draw 2 (some .int) [.ref 0, .int x] SHP I J (pm_D (some (.int (if 0 ≤ x ∧ x ≤ 23 then dr_v (dr_z (I 1 5)) + 100 else -1))) SHP (if 0 ≤ x ∧ x ≤ 23 then pm_u (pm_u I 1 5 (dr_z (I 1 5))) 2 x.toNatClampNeg (dr_v (dr_z (I 1 5))) else I) J) := by
  refine pm_start (own := RX7) (nm := "draw") (by decide) rfl rfl (L := [(0, .ref 0), (1, .int x)]) rfl (Nat.le_of_ble_eq_true rfl) (fun Γ C C2 => ?_)
  refine g_iload_n (pc := 0) (i := 1) (j := 1) C dX7_draw_0 rfl rfl ?_
  refine g_callS (pc := 1) C dX7_draw_1 lmX7_96 kcX7_isHour (by decide) (c_X7_isHour) rfl rfl (Nat.le_of_ble_eq_true rfl) ?_
  intro r9 sh9 I9 J9 hD9; obtain ⟨rfl, rfl, rfl, rfl⟩ := pm_Dq hD9
  try simp only [Option.toList_some, Option.toList_none, List.cons_append, List.nil_append]
  refine g_if_neB (pc := 4) (tgt := 9) C dX7_draw_4 (by decide) (fun h4 => ?_) (fun h4 => ?_)
  · have e1 := pm_nat h4.1
    have e2 : x.toNatClampNeg < 24 := pm_lt h4.1 h4.2 (by decide)
    refine g_aload_n (pc := 9) (i := 0) (j := 0) C dX7_draw_9 rfl rfl ?_
    refine g_getR (pc := 10) C dX7_draw_10 lfX7_10 (by first | rfl | assumption) rfl ?_
    refine g_aload_n (pc := 13) (i := 0) (j := 0) C dX7_draw_13 rfl rfl ?_
    refine g_getR (pc := 14) C dX7_draw_14 lfX7_10 (by first | rfl | assumption) rfl ?_
    refine g_getI (pc := 17) C dX7_draw_17 lfX7_87 (by first | rfl | assumption) rfl ?_
    refine g_ldc (pc := 20) C dX7_draw_20 lcX7_196 ?_
    refine g_imul (pc := 22) C dX7_draw_22 ?_
    refine g_sipush (pc := 23) (v := 12345) C dX7_draw_23 (by decide) ?_
    refine g_iadd (pc := 26) C dX7_draw_26 ?_
    refine g_putI (pc := 27) C dX7_draw_27 lpX7_87 rfl rfl (by first | rfl | assumption) rfl ?_
    refine g_aload_n (pc := 30) (i := 0) (j := 0) C dX7_draw_30 rfl rfl ?_
    refine g_getR (pc := 31) C dX7_draw_31 lfX7_10 (by first | rfl | assumption) rfl ?_
    refine g_getR (pc := 34) C dX7_draw_34 lfX7_100 (by first | rfl | assumption) rfl ?_
    refine g_iload_n (pc := 37) (i := 1) (j := 1) C dX7_draw_37 rfl rfl ?_
    refine g_aload_n (pc := 38) (i := 0) (j := 0) C dX7_draw_38 rfl rfl ?_
    refine g_getR (pc := 39) C dX7_draw_39 lfX7_10 (by first | rfl | assumption) rfl ?_
    refine g_getI (pc := 42) C dX7_draw_42 lfX7_87 (by first | rfl | assumption) rfl ?_
    refine g_bipush (pc := 45) (v := 16) C dX7_draw_45 (by decide) ?_
    refine g_iushr (pc := 47) C dX7_draw_47 ?_
    refine g_bipush (pc := 48) (v := 61) C dX7_draw_48 (by decide) ?_
    refine g_irem (pc := 50) C dX7_draw_50 (by first | decide | assumption) ?_
    refine g_bipush (pc := 51) (v := (-20)) C dX7_draw_51 (by decide) ?_
    refine g_iadd (pc := 53) C dX7_draw_53 ?_
    refine g_iast (pc := 54) C dX7_draw_54 (by first | rfl | assumption) (by decide) (by first | rfl | assumption) (by first | assumption | decide | omega) ?_
    refine g_aload_n (pc := 55) (i := 0) (j := 0) C dX7_draw_55 rfl rfl ?_
    refine g_getR (pc := 56) C dX7_draw_56 lfX7_10 (by first | rfl | assumption) rfl ?_
    refine g_getR (pc := 59) C dX7_draw_59 lfX7_100 (by first | rfl | assumption) rfl ?_
    refine g_iload_n (pc := 62) (i := 1) (j := 1) C dX7_draw_62 rfl rfl ?_
    refine g_iald (pc := 63) C dX7_draw_63 (by first | rfl | assumption) (by decide) (by first | rfl | assumption) (by first | assumption | decide | omega) ?_
    refine g_bipush (pc := 64) (v := 100) C dX7_draw_64 (by decide) ?_
    refine g_iadd (pc := 66) C dX7_draw_66 ?_
    rw [pm_u_at, pk_us, pm_u_at, pk_us]
    refine g_iret (pc := 67) C C2 dX7_draw_67 rfl (Nat.le_refl _) (Nat.le_refl _) ?_
    clear C C2
    exact ⟨by first | (rw [if_neg h4]) | (rw [if_pos h4]; simp only [dr_v, dr_u, dr_z]), rfl, by first | (rw [if_neg h4]) | (rw [if_pos h4]; simp only [dr_v, dr_u, dr_z]), rfl⟩
  · refine g_iconst (pc := 7) (v := (-1)) C dX7_draw_7 (by decide) ?_
    refine g_iret (pc := 8) C C2 dX7_draw_8 rfl (Nat.le_refl _) (Nat.le_refl _) ?_
    clear C C2
    exact ⟨by first | (rw [if_neg h4]) | (rw [if_pos h4]; simp only [dr_v, dr_u, dr_z]), rfl, by first | (rw [if_neg h4]) | (rw [if_pos h4]; simp only [dr_v, dr_u, dr_z]), rfl⟩

set_option maxHeartbeats 4000000 in
set_option maxRecDepth 100000 in
theorem c_X7_isRowPart {d : Nat} {i w : Int32} {I : pm_I} {J : pm_J} : pm_M (d + 1) 0 0 yX7_isRowPart cX7_isRowPart 3 (some .boolean) [.ref 0, .int i, .int w] SHP I J (pm_D (some (.int (pm_b ((0 ≤ i ∧ i ≤ I 0 7 - 1) ∧ 0 ≤ w ∧ w ≤ 2)))) SHP I J) := by
  refine pm_start (own := RX7) (nm := "isRowPart") (by decide) rfl rfl (L := [(0, .ref 0), (1, .int i), (2, .int w)]) rfl (Nat.le_of_ble_eq_true rfl) (fun Γ C C2 => ?_)
  refine g_iload_n (pc := 0) (i := 1) (j := 1) C dX7_isRowPart_0 rfl rfl ?_
  refine g_iconst (pc := 1) (v := 0) C dX7_isRowPart_1 (by decide) ?_
  refine g_aload_n (pc := 2) (i := 0) (j := 0) C dX7_isRowPart_2 rfl rfl ?_
  refine g_getI (pc := 3) C dX7_isRowPart_3 lfX7_47 (by first | rfl | assumption) rfl ?_
  refine g_iconst (pc := 6) (v := 1) C dX7_isRowPart_6 (by decide) ?_
  refine g_isub (pc := 7) C dX7_isRowPart_7 ?_
  refine g_callS (pc := 8) C dX7_isRowPart_8 lmX7_72 kcX7_within (by decide) (c_X7_within) rfl rfl (Nat.le_of_ble_eq_true rfl) ?_
  intro r9 sh9 I9 J9 hD9; obtain ⟨rfl, rfl, rfl, rfl⟩ := pm_Dq hD9
  try simp only [Option.toList_some, Option.toList_none, List.cons_append, List.nil_append]
  refine g_if_eqB (pc := 11) (tgt := 27) C dX7_isRowPart_11 (by decide) (fun h11 => ?_) (fun h11 => ?_)
  · refine g_iconst (pc := 27) (v := 0) C dX7_isRowPart_27 (by decide) ?_
    refine g_iret (pc := 28) C C2 dX7_isRowPart_28 (by first | rfl | exact pm_nz) (Nat.le_refl _) (Nat.le_refl _) ?_
    clear C C2
    exact ⟨by first | rfl | grind [pm_b], rfl, by first | rfl | grind [pm_b], rfl⟩
  · refine g_iload_n (pc := 14) (i := 2) (j := 2) C dX7_isRowPart_14 rfl rfl ?_
    refine g_iconst (pc := 15) (v := 0) C dX7_isRowPart_15 (by decide) ?_
    refine g_iconst (pc := 16) (v := 2) C dX7_isRowPart_16 (by decide) ?_
    refine g_callS (pc := 17) C dX7_isRowPart_17 lmX7_72 kcX7_within (by decide) (c_X7_within) rfl rfl (Nat.le_of_ble_eq_true rfl) ?_
    intro r9 sh9 I9 J9 hD9; obtain ⟨rfl, rfl, rfl, rfl⟩ := pm_Dq hD9
    try simp only [Option.toList_some, Option.toList_none, List.cons_append, List.nil_append]
    refine g_if_eqB (pc := 20) (tgt := 27) C dX7_isRowPart_20 (by decide) (fun h20 => ?_) (fun h20 => ?_)
    · refine g_iconst (pc := 27) (v := 0) C dX7_isRowPart_27 (by decide) ?_
      refine g_iret (pc := 28) C C2 dX7_isRowPart_28 (by first | rfl | exact pm_nz) (Nat.le_refl _) (Nat.le_refl _) ?_
      clear C C2
      exact ⟨by first | rfl | grind [pm_b], rfl, by first | rfl | grind [pm_b], rfl⟩
    · refine g_iconst (pc := 23) (v := 1) C dX7_isRowPart_23 (by decide) ?_
      refine g_goto (pc := 24) (tgt := 28) C dX7_isRowPart_24 (by decide) ?_
      refine g_iret (pc := 28) C C2 dX7_isRowPart_28 (by first | rfl | exact pm_nz) (Nat.le_refl _) (Nat.le_refl _) ?_
      clear C C2
      exact ⟨by first | rfl | grind [pm_b], rfl, by first | rfl | grind [pm_b], rfl⟩

set_option maxHeartbeats 4000000 in
set_option maxRecDepth 100000 in
theorem c_X7_row {d : Nat} {i w : Int32} {I : pm_I} {J : pm_J} {rc : Nat} (hrc : I 0 7 = nI rc) (hrc20 : rc ≤ 20)  : pm_M (d + 2) 0 0 yX7_row cX7_row 3 (some .int) [.ref 0, .int i, .int w] SHP I J (pm_D (some (.int (if (0 ≤ i ∧ i ≤ I 0 7 - 1) ∧ 0 ≤ w ∧ w ≤ 2 then I (66 + i.toNatClampNeg) w.toNatClampNeg else -9))) SHP I J) := by
  refine pm_start (own := RX7) (nm := "row") (by decide) rfl rfl (L := [(0, .ref 0), (1, .int i), (2, .int w)]) rfl (Nat.le_of_ble_eq_true rfl) (fun Γ C C2 => ?_)
  refine g_aload_n (pc := 0) (i := 0) (j := 0) C dX7_row_0 rfl rfl ?_
  refine g_iload_n (pc := 1) (i := 1) (j := 1) C dX7_row_1 rfl rfl ?_
  refine g_iload_n (pc := 2) (i := 2) (j := 2) C dX7_row_2 rfl rfl ?_
  refine g_callV (pc := 3) C dX7_row_3 lmX7_200 kcX7_isRowPart (by decide) (by first | rfl | assumption) (c_X7_isRowPart) rfl rfl (Nat.le_of_ble_eq_true rfl) ?_
  intro r9 sh9 I9 J9 hD9; obtain ⟨rfl, rfl, rfl, rfl⟩ := pm_Dq hD9
  try simp only [Option.toList_some, Option.toList_none, List.cons_append, List.nil_append]
  refine g_if_eqB (pc := 6) (tgt := 20) C dX7_row_6 (by decide) (fun h6 => ?_) (fun h6 => ?_)
  · refine g_bipush (pc := 20) (v := (-9)) C dX7_row_20 (by decide) ?_
    refine g_iret (pc := 22) C C2 dX7_row_22 rfl (Nat.le_refl _) (Nat.le_refl _) ?_
    clear C C2
    try clear sR
    exact ⟨by first | rfl | grind, rfl, by first | rfl | grind, rfl⟩
  · obtain ⟨a, ha, rfl⟩ := pm_hasN (n := rc) (by omega) (by rw [← hrc]; exact h6.1)
    obtain ⟨z, hz, rfl⟩ := pm_ix (N := 3) h6.2.1 h6.2.2 (by decide)
    have eca : (nI a).toNatClampNeg = a := nI_clamp (by omega)
    have ecz : (nI z).toNatClampNeg = z := nI_clamp (by omega)
    have sR := shR a (by omega)
    refine g_aload_n (pc := 9) (i := 0) (j := 0) C dX7_row_9 rfl rfl ?_
    refine g_getR (pc := 10) C dX7_row_10 lfX7_44 (by first | rfl | assumption) rfl ?_
    refine g_iload_n (pc := 13) (i := 1) (j := 1) C dX7_row_13 rfl rfl ?_
    refine g_aald (pc := 14) C dX7_row_14 (by first | rfl | assumption) (fun _ => rfl) rfl (by decide) (by first | rfl | assumption) (rsR a (by omega)) ?_
    refine g_iload_n (pc := 15) (i := 2) (j := 2) C dX7_row_15 rfl rfl ?_
    refine g_iald (pc := 16) C dX7_row_16 (by first | rfl | assumption) (by decide) (by first | rfl | assumption) (by first | assumption | decide | omega) ?_
    refine g_goto (pc := 17) (tgt := 22) C dX7_row_17 (by decide) ?_
    refine g_iret (pc := 22) C C2 dX7_row_22 rfl (Nat.le_refl _) (Nat.le_refl _) ?_
    clear C C2
    try clear sR
    exact ⟨by first | rfl | grind, rfl, by first | rfl | grind, rfl⟩

set_option maxHeartbeats 4000000 in
set_option maxRecDepth 100000 in
theorem c_X7_alterRow {d : Nat} {i w v : Int32} {I : pm_I} {J : pm_J} {rc : Nat} (hrc : I 0 7 = nI rc) (hrc20 : rc ≤ 20)  : pm_M (d + 2) 0 0 yX7_alterRow cX7_alterRow 5 (some .int) [.ref 0, .int i, .int w, .int v] SHP I J (pm_D (some (.int (if (0 ≤ i ∧ i ≤ I 0 7 - 1) ∧ 0 ≤ w ∧ w ≤ 2 then I (66 + i.toNatClampNeg) w.toNatClampNeg else -9))) SHP (if (0 ≤ i ∧ i ≤ I 0 7 - 1) ∧ 0 ≤ w ∧ w ≤ 2 then pm_u I (66 + i.toNatClampNeg) w.toNatClampNeg v else I) J) := by
  refine pm_start (own := RX7) (nm := "alterRow") (by decide) rfl rfl (L := [(0, .ref 0), (1, .int i), (2, .int w), (3, .int v)]) rfl (Nat.le_of_ble_eq_true rfl) (fun Γ C C2 => ?_)
  refine g_aload_n (pc := 0) (i := 0) (j := 0) C dX7_alterRow_0 rfl rfl ?_
  refine g_iload_n (pc := 1) (i := 1) (j := 1) C dX7_alterRow_1 rfl rfl ?_
  refine g_iload_n (pc := 2) (i := 2) (j := 2) C dX7_alterRow_2 rfl rfl ?_
  refine g_callV (pc := 3) C dX7_alterRow_3 lmX7_200 kcX7_isRowPart (by decide) (by first | rfl | assumption) (c_X7_isRowPart) rfl rfl (Nat.le_of_ble_eq_true rfl) ?_
  intro r9 sh9 I9 J9 hD9; obtain ⟨rfl, rfl, rfl, rfl⟩ := pm_Dq hD9
  try simp only [Option.toList_some, Option.toList_none, List.cons_append, List.nil_append]
  refine g_if_neB (pc := 6) (tgt := 12) C dX7_alterRow_6 (by decide) (fun h6 => ?_) (fun h6 => ?_)
  · obtain ⟨a, ha, rfl⟩ := pm_hasN (n := rc) (by omega) (by rw [← hrc]; exact h6.1)
    obtain ⟨z, hz, rfl⟩ := pm_ix (N := 3) h6.2.1 h6.2.2 (by decide)
    have eca : (nI a).toNatClampNeg = a := nI_clamp (by omega)
    have ecz : (nI z).toNatClampNeg = z := nI_clamp (by omega)
    have sR := shR a (by omega)
    refine g_aload_n (pc := 12) (i := 0) (j := 0) C dX7_alterRow_12 rfl rfl ?_
    refine g_getR (pc := 13) C dX7_alterRow_13 lfX7_44 (by first | rfl | assumption) rfl ?_
    refine g_iload_n (pc := 16) (i := 1) (j := 1) C dX7_alterRow_16 rfl rfl ?_
    refine g_aald (pc := 17) C dX7_alterRow_17 (by first | rfl | assumption) (fun _ => rfl) rfl (by decide) (by first | rfl | assumption) (rsR a (by omega)) ?_
    refine g_iload_n (pc := 18) (i := 2) (j := 2) C dX7_alterRow_18 rfl rfl ?_
    refine g_iald (pc := 19) C dX7_alterRow_19 (by first | rfl | assumption) (by decide) (by first | rfl | assumption) (by first | assumption | decide | omega) ?_
    refine g_istore (pc := 20) (L2 := [(0, _), (1, _), (2, _), (3, _), (4, _)]) C dX7_alterRow_20 (by decide) rfl ?_
    refine g_aload_n (pc := 22) (i := 0) (j := 0) C dX7_alterRow_22 rfl rfl ?_
    refine g_getR (pc := 23) C dX7_alterRow_23 lfX7_44 (by first | rfl | assumption) rfl ?_
    refine g_iload_n (pc := 26) (i := 1) (j := 1) C dX7_alterRow_26 rfl rfl ?_
    refine g_aald (pc := 27) C dX7_alterRow_27 (by first | rfl | assumption) (fun _ => rfl) rfl (by decide) (by first | rfl | assumption) (rsR a (by omega)) ?_
    refine g_iload_n (pc := 28) (i := 2) (j := 2) C dX7_alterRow_28 rfl rfl ?_
    refine g_iload_n (pc := 29) (i := 3) (j := 3) C dX7_alterRow_29 rfl rfl ?_
    refine g_iast (pc := 30) C dX7_alterRow_30 (by first | rfl | assumption) (by decide) (by first | rfl | assumption) (by first | assumption | decide | omega) ?_
    refine g_iload (pc := 31) (j := 4) C dX7_alterRow_31 rfl ?_
    refine g_iret (pc := 33) C C2 dX7_alterRow_33 rfl (Nat.le_refl _) (Nat.le_refl _) ?_
    clear C C2
    try clear sR
    exact ⟨by first | rfl | grind, rfl, by first | rfl | grind, rfl⟩
  · refine g_bipush (pc := 9) (v := (-9)) C dX7_alterRow_9 (by decide) ?_
    refine g_iret (pc := 11) C C2 dX7_alterRow_11 rfl (Nat.le_refl _) (Nat.le_refl _) ?_
    clear C C2
    try clear sR
    exact ⟨by first | rfl | grind, rfl, by first | rfl | grind, rfl⟩

set_option maxHeartbeats 4000000 in
set_option maxRecDepth 100000 in
theorem c_X7_keep {d : Nat} {I : pm_I} {J : pm_J} {n : Nat} (hn : I 1 2 = nI n) (h6 : n ≤ 6)  : pm_M (d + 3) 0 0 yX7_keep cX7_keep 1 (some .int) [.ref 0] SHP I J (pm_D (some (.int (1))) SHP (pm_u (pm_u (pm_u (pm_u (pm_u (bl_cps (pm_s I 17 (bl_cp (I 17) (I 2) 24)) 5 20 n) 16 2 (nI n)) 16 3 (I 1 3)) 16 4 (I 1 4)) 16 5 (I 1 5)) 0 2 1) J) := by
  refine pm_start (own := RX7) (nm := "keep") (by decide) rfl rfl (L := [(0, .ref 0)]) rfl (Nat.le_of_ble_eq_true rfl) (fun Γ C C2 => ?_)
  refine g_aload_n (pc := 0) (i := 0) (j := 0) C dX7_keep_0 rfl rfl ?_
  refine g_getR (pc := 1) C dX7_keep_1 lfX7_16 (by first | rfl | assumption) rfl ?_
  refine g_aload_n (pc := 4) (i := 0) (j := 0) C dX7_keep_4 rfl rfl ?_
  refine g_getR (pc := 5) C dX7_keep_5 lfX7_10 (by first | rfl | assumption) rfl ?_
  refine g_callV (pc := 8) C dX7_keep_8 lmX7_90 kcX5_copyFrom (by decide) (by first | rfl | assumption) (c_X5_copyFrom_16_1 hn h6) rfl rfl (Nat.le_of_ble_eq_true rfl) ?_
  intro r9 sh9 I9 J9 hD9; obtain ⟨rfl, rfl, rfl, rfl⟩ := pm_Dq hD9
  try simp only [Option.toList_some, Option.toList_none, List.cons_append, List.nil_append]
  refine g_aload_n (pc := 11) (i := 0) (j := 0) C dX7_keep_11 rfl rfl ?_
  refine g_iconst (pc := 12) (v := 1) C dX7_keep_12 (by decide) ?_
  refine g_putI (pc := 13) C dX7_keep_13 lpX7_19 (by first | rfl | exact pm_nz | assumption) rfl (by first | rfl | assumption) rfl ?_
  refine g_iconst (pc := 16) (v := 1) C dX7_keep_16 (by decide) ?_
  refine g_iret (pc := 17) C C2 dX7_keep_17 rfl (Nat.le_refl _) (Nat.le_refl _) ?_
  exact ⟨rfl, rfl, rfl, rfl⟩

set_option maxHeartbeats 4000000 in
set_option maxRecDepth 100000 in
theorem c_X7_again0 {d : Nat} {I : pm_I} {J : pm_J} (hz : I 0 2 = 0) : pm_M (d + 3) 0 0 yX7_again cX7_again 1 (some .int) [.ref 0] SHP I J (pm_D (some (.int (-3))) SHP I J) := by
  refine pm_start (own := RX7) (nm := "again") (by decide) rfl rfl (L := [(0, .ref 0)]) rfl (Nat.le_of_ble_eq_true rfl) (fun Γ C C2 => ?_)
  refine g_aload_n (pc := 0) (i := 0) (j := 0) C dX7_again_0 rfl rfl ?_
  refine g_getI (pc := 1) C dX7_again_1 lfX7_19 (by first | rfl | assumption) rfl ?_
  refine g_if_ne (pc := 4) (tgt := 10) C dX7_again_4 (by decide) (fun h4 => absurd hz h4) (fun h4 => ?_)
  refine g_bipush (pc := 7) (v := (-3)) C dX7_again_7 (by decide) ?_
  refine g_iret (pc := 9) C C2 dX7_again_9 rfl (Nat.le_refl _) (Nat.le_refl _) ?_
  exact ⟨rfl, rfl, rfl, rfl⟩

set_option maxHeartbeats 4000000 in
set_option maxRecDepth 100000 in
theorem c_X7_again1 {d : Nat} {I : pm_I} {J : pm_J} (hz : ¬ I 0 2 = 0) {n : Nat} (hn : I 16 2 = nI n) (h6 : n ≤ 6) : pm_M (d + 3) 0 0 yX7_again cX7_again 1 (some .int) [.ref 0] SHP I J (pm_D (some (.int (I 16 3))) SHP (pm_u (pm_u (pm_u (pm_u (bl_cps (pm_s I 2 (bl_cp (I 2) (I 17) 24)) 20 5 n) 1 2 (nI n)) 1 3 (I 16 3)) 1 4 (I 16 4)) 1 5 (I 16 5)) J) := by
  refine pm_start (own := RX7) (nm := "again") (by decide) rfl rfl (L := [(0, .ref 0)]) rfl (Nat.le_of_ble_eq_true rfl) (fun Γ C C2 => ?_)
  refine g_aload_n (pc := 0) (i := 0) (j := 0) C dX7_again_0 rfl rfl ?_
  refine g_getI (pc := 1) C dX7_again_1 lfX7_19 (by first | rfl | assumption) rfl ?_
  refine g_if_ne (pc := 4) (tgt := 10) C dX7_again_4 (by decide) (fun h4 => ?_) (fun h4 => absurd h4 hz)
  refine g_aload_n (pc := 10) (i := 0) (j := 0) C dX7_again_10 rfl rfl ?_
  refine g_getR (pc := 11) C dX7_again_11 lfX7_10 (by first | rfl | assumption) rfl ?_
  refine g_aload_n (pc := 14) (i := 0) (j := 0) C dX7_again_14 rfl rfl ?_
  refine g_getR (pc := 15) C dX7_again_15 lfX7_16 (by first | rfl | assumption) rfl ?_
  refine g_callV (pc := 18) C dX7_again_18 lmX7_90 kcX5_copyFrom (by decide) (by first | rfl | assumption) (c_X5_copyFrom_1_16 hn h6) rfl rfl (Nat.le_of_ble_eq_true rfl) ?_
  intro r9 sh9 I9 J9 hD9; obtain ⟨rfl, rfl, rfl, rfl⟩ := pm_Dq hD9
  try simp only [Option.toList_some, Option.toList_none, List.cons_append, List.nil_append]
  refine g_aload_n (pc := 21) (i := 0) (j := 0) C dX7_again_21 rfl rfl ?_
  refine g_getR (pc := 22) C dX7_again_22 lfX7_10 (by first | rfl | assumption) rfl ?_
  refine g_getI (pc := 25) C dX7_again_25 lfX7_157 (by first | rfl | assumption) rfl ?_
  refine g_iret (pc := 28) C C2 dX7_again_28 rfl (Nat.le_refl _) (Nat.le_refl _) ?_
  refine ⟨?_, rfl, rfl, rfl⟩
  simp only [pm_u_at]
  rw [pk_un (by decide), pk_un (by decide), pk_us]

set_option maxHeartbeats 4000000 in
set_option maxRecDepth 100000 in
theorem c_X7_hours {d : Nat} {I : pm_I} {J : pm_J} {n : Nat} (hn : I 1 2 = nI n) (h6 : n ≤ 6) {t : Nat} {h : Nat} (ht : I 1 3 = nI t) (ht96 : t ≤ 96) (hh : h ≤ 48) : pm_M (d + 4) 0 0 yX7_hours cX7_hours 3 (some .int) [.ref 0, .int (nI h)] SHP I J (pm_D (some (.int (nI (t + min h (96 - t))))) SHP (tw_go I n t (min h (96 - t))) J) := by
  refine pm_start (own := RX7) (nm := "hours") (by decide) rfl rfl (L := [(0, .ref 0), (1, .int (nI h))]) rfl (Nat.le_of_ble_eq_true rfl) (fun Γ C C2 => ?_)
  generalize hm : min h (96 - t) = m at C2
  have hloop : ∀ j, j ≤ m → pm_G Γ 0 0 14 [(0, .ref 0), (1, .int (nI h)), (2, .int (nI j))] [] SHP (tw_go I n t j) J := by
    refine pm_up (fun j => pm_G Γ 0 0 14 [(0, .ref 0), (1, .int (nI h)), (2, .int (nI j))] [] SHP (tw_go I n t j) J) m (fun j hj ih => ?_)
    refine g_iload_n (pc := 14) (i := 2) (j := 2) C dX7_hours_14 rfl rfl ?_
    refine g_iload_n (pc := 15) (i := 1) (j := 1) C dX7_hours_15 rfl rfl ?_
    refine g_icmp_ge (pc := 16) (tgt := 44) C dX7_hours_16 (by decide) (fun h16 => ?_) (fun h16 => ?_)
    · have ej : j = m := by first | (have := (nI_leI (a := h) (b := j) (by omega) (by omega)).mp h16; omega) | (rw [tw_go_now ht] at h28; have := (nI_leI (a := 96) (b := t + j) (by omega) (by omega)).mp h28; omega)
      subst ej
      refine g_aload_n (pc := 44) (i := 0) (j := 0) C dX7_hours_44 rfl rfl ?_
      refine g_getR (pc := 45) C dX7_hours_45 lfX7_10 (by first | rfl | assumption) rfl ?_
      refine g_getI (pc := 48) C dX7_hours_48 lfX7_157 (by first | rfl | assumption) rfl ?_
      refine g_iret (pc := 51) C C2 dX7_hours_51 rfl (Nat.le_refl _) (Nat.le_refl _) ?_
      refine ⟨?_, rfl, rfl, rfl⟩
      rw [tw_go_now ht]
    · have hjh : j < h := Nat.lt_of_not_le (fun q => h16 ((nI_leI (a := h) (b := j) (by omega) (by omega)).mpr q))
      refine g_aload_n (pc := 19) (i := 0) (j := 0) C dX7_hours_19 rfl rfl ?_
      refine g_getR (pc := 20) C dX7_hours_20 lfX7_10 (by first | rfl | assumption) rfl ?_
      refine g_getI (pc := 23) C dX7_hours_23 lfX7_157 (by first | rfl | assumption) rfl ?_
      refine g_bipush (pc := 26) (v := 96) C dX7_hours_26 (by decide) ?_
      refine g_icmp_ge (pc := 28) (tgt := 44) C dX7_hours_28 (by decide) (fun h28 => ?_) (fun h28 => ?_)
      · have ej : j = m := by first | (have := (nI_leI (a := h) (b := j) (by omega) (by omega)).mp h16; omega) | (rw [tw_go_now ht] at h28; have := (nI_leI (a := 96) (b := t + j) (by omega) (by omega)).mp h28; omega)
        subst ej
        refine g_aload_n (pc := 44) (i := 0) (j := 0) C dX7_hours_44 rfl rfl ?_
        refine g_getR (pc := 45) C dX7_hours_45 lfX7_10 (by first | rfl | assumption) rfl ?_
        refine g_getI (pc := 48) C dX7_hours_48 lfX7_157 (by first | rfl | assumption) rfl ?_
        refine g_iret (pc := 51) C C2 dX7_hours_51 rfl (Nat.le_refl _) (Nat.le_refl _) ?_
        refine ⟨?_, rfl, rfl, rfl⟩
        rw [tw_go_now ht]
      · have hlt : j < m := by rw [tw_go_now ht] at h28; have := Nat.lt_of_not_le (fun q => h28 ((nI_leI (a := 96) (b := t + j) (by omega) (by omega)).mpr q)); omega
        refine g_aload_n (pc := 31) (i := 0) (j := 0) C dX7_hours_31 rfl rfl ?_
        refine g_getR (pc := 32) C dX7_hours_32 lfX7_10 (by first | rfl | assumption) rfl ?_
        refine g_callV (pc := 35) C dX7_hours_35 lmX7_160 kcX5_passHour (by decide) (by first | rfl | assumption) (c_X5_passHour (n := n) (h := (t + j) % 24) (by rw [tw_go_1 (by decide)]; exact hn) h6 (by rw [tw_go_now ht]; exact pk_rem (d := 24) (by omega) (by decide) (by decide)) (Nat.mod_lt _ (by decide))) rfl rfl (Nat.le_of_ble_eq_true rfl) ?_
        intro r9 sh9 I9 J9 hD9; obtain ⟨rfl, rfl, rfl, rfl⟩ := pm_Dq hD9
        try simp only [Option.toList_some, Option.toList_none, List.cons_append, List.nil_append]
        refine g_iinc (pc := 38) (j := 2) (v := _ + 1) (L2 := [(0, _), (1, _), (2, _)]) C dX7_hours_38 rfl (by first | rfl | exact pm_inc _) (by decide) rfl ?_
        refine g_goto (pc := 41) (tgt := 14) C dX7_hours_41 (by decide) ?_
        refine pm_Geq (ih hlt) ?_ rfl ?_ rfl
        · simp only [nI_1]
        · rw [tw_go_now ht, nI_1, tw_go_off (by decide) (fun b hb => by omega)]; rfl
  refine g_iload_n (pc := 0) (i := 1) (j := 1) C dX7_hours_0 rfl rfl ?_
  refine g_iconst (pc := 1) (v := 0) C dX7_hours_1 (by decide) ?_
  refine g_bipush (pc := 2) (v := 48) C dX7_hours_2 (by decide) ?_
  refine g_callS (pc := 4) C dX7_hours_4 lmX7_72 kcX7_within (by decide) (c_X7_within) rfl rfl (Nat.le_of_ble_eq_true rfl) ?_
  intro r9 sh9 I9 J9 hD9; obtain ⟨rfl, rfl, rfl, rfl⟩ := pm_Dq hD9
  try simp only [Option.toList_some, Option.toList_none, List.cons_append, List.nil_append]
  refine g_if_neB (pc := 7) (tgt := 12) C dX7_hours_7 (by decide) (fun h7 => ?_) (fun h7 => absurd ⟨by exact nI_pos' (by omega), by exact nI_le (b := 48) hh (by decide)⟩ h7)
  refine g_iconst (pc := 12) (v := 0) C dX7_hours_12 (by decide) ?_
  refine g_istore_n (pc := 13) (i := 2) (L2 := [(0, _), (1, _), (2, _)]) C dX7_hours_13 rfl (by decide) rfl ?_
  exact hloop 0 (Nat.zero_le _)

set_option maxHeartbeats 4000000 in
set_option maxRecDepth 100000 in
theorem c_X7_hours0 {d : Nat} {I : pm_I} {J : pm_J} {x : Int32} (hv : ¬ (0 ≤ x ∧ x ≤ 48)) : pm_M (d + 1) 0 0 yX7_hours cX7_hours 3 (some .int) [.ref 0, .int x] SHP I J (pm_D (some (.int (-1))) SHP I J) := by
  refine pm_start (own := RX7) (nm := "hours") (by decide) rfl rfl (L := [(0, .ref 0), (1, .int x)]) rfl (Nat.le_of_ble_eq_true rfl) (fun Γ C C2 => ?_)
  refine g_iload_n (pc := 0) (i := 1) (j := 1) C dX7_hours_0 rfl rfl ?_
  refine g_iconst (pc := 1) (v := 0) C dX7_hours_1 (by decide) ?_
  refine g_bipush (pc := 2) (v := 48) C dX7_hours_2 (by decide) ?_
  refine g_callS (pc := 4) C dX7_hours_4 lmX7_72 kcX7_within (by decide) (c_X7_within) rfl rfl (Nat.le_of_ble_eq_true rfl) ?_
  intro r9 sh9 I9 J9 hD9; obtain ⟨rfl, rfl, rfl, rfl⟩ := pm_Dq hD9
  try simp only [Option.toList_some, Option.toList_none, List.cons_append, List.nil_append]
  refine g_if_neB (pc := 7) (tgt := 12) C dX7_hours_7 (by decide) (fun h7 => absurd h7 hv) (fun h7 => ?_)
  refine g_iconst (pc := 10) (v := (-1)) C dX7_hours_10 (by decide) ?_
  refine g_iret (pc := 11) C C2 dX7_hours_11 rfl (Nat.le_refl _) (Nat.le_refl _) ?_
  exact ⟨rfl, rfl, rfl, rfl⟩
