/-! The host's calls: acts on shelves, sheets, rows; counts; feed -/
def ac_Q (I : pm_I) (ts : List Int32) (I2 : pm_I) : Prop := (∀ a, a ≠ 88 → a ≠ 89 → I2 a = I a) ∧ I2 88 1 = nI ts.length ∧ ts.length ≤ 30 ∧ ∀ k, k < ts.length → I2 89 k = ts.getD k 0
theorem ac_start {I : pm_I} {k n a : Int32} (h1 : I 88 1 = 0) (h2 : I 88 2 = 0) : ac_S (pm_u (pm_u (pm_u I 88 3 k) 88 5 a) 88 4 n) [] false ∧ pm_u (pm_u (pm_u I 88 3 k) 88 5 a) 88 4 n 88 3 = k ∧ pm_u (pm_u (pm_u I 88 3 k) 88 5 a) 88 4 n 88 4 = n ∧ pm_u (pm_u (pm_u I 88 3 k) 88 5 a) 88 4 n 88 5 = a := by
  refine ⟨⟨?_, by decide, fun k hk => by simp at hk, ?_⟩, ?_, ?_, ?_⟩
  · rw [pm_u_at, pk_un (by decide), pm_u_at, pk_un (by decide), pm_u_at, pk_un (by decide), h1]
    rfl
  · rw [pm_u_at, pk_un (by decide), pm_u_at, pk_un (by decide), pm_u_at, pk_un (by decide), h2]
    rfl
  · rw [pm_u_at, pk_un (by decide), pm_u_at, pk_un (by decide), pm_u_at, pk_us]
  · rw [pm_u_at, pk_us]
  · rw [pm_u_at, pk_un (by decide), pm_u_at, pk_us]
theorem ac_Q_of {I I1 I2 : pm_I} {ts : List Int32} {pt : Bool} (h0 : ∀ a, a ≠ 88 → I1 a = I a) (h : ac_R I1 ts pt I2) : ac_Q I ts I2 := ⟨fun a h1 h2 => (h.1 a h1 h2).trans (h0 a h1), h.2.2.1, h.2.2.2.1, h.2.2.2.2.1⟩
abbrev sf_holds (I : pm_I) (s : Nat) : Prop := I (98 + s) 0 = 0 ∧ 0 ≤ I (98 + s) 1 ∧ I (98 + s) 1 ≤ I 1 2 - 1
/-- kind k is under o -/
def kd_up (k : Nat) : Int32 := (pm_tv 0).getD k 0
def kd_under (k o : Int32) : Bool := o == 0 || o == k || (o == 1 && k == 4) || (o == 2 && k == 3)
def sh_nar (s v : Int32) : Int32 := if s = 0 then v.toInt8.toInt32 else if s = 1 then v.toInt16.toInt32 else v
set_option maxHeartbeats 4000000 in
set_option maxRecDepth 100000 in
theorem c_X0_answer {d : Nat} {I : pm_I} {J : pm_J} {b : Nat} (hb : b < 6) {w x : Int32} (h1 : I 88 1 = 0) (h2 : I 88 2 = 0) (hw : 0 ≤ w ∧ w ≤ 3) : pm_M (d + 4) 0 0 yX0_answer cX0_answer 6 (some .int) [.ref 88, .ref (4 + 2 * b), .int (nI b), .int w, .int x] SHP I J (fun r sh2 I2 J2 => r = some (.int (if ac_prt w (I (5 + 2 * b) 0) (nI b) (I (5 + 2 * b) 1) then -15 else ac_val w (I (5 + 2 * b) 0) x (nI b) (I (5 + 2 * b) 1))) ∧ sh2 = SHP ∧ J2 = J ∧ ac_Q I (ac_bod w (I (5 + 2 * b) 0) (nI b) (I (5 + 2 * b) 1)) I2) := by
  refine pm_start (own := RX0) (nm := "answer") (by decide) rfl rfl (L := [(0, .ref 88), (1, .ref (4 + 2 * b)), (2, .int (nI b)), (3, .int w), (4, .int x)]) rfl (Nat.le_of_ble_eq_true rfl) (fun Γ C C2 => ?_)
  have sB := shB b hb
  have sP := shP b hb
  refine g_aload_n (pc := 0) (i := 0) (j := 0) C dX0_answer_0 rfl rfl ?_
  refine g_aload_n (pc := 1) (i := 1) (j := 1) C dX0_answer_1 rfl rfl ?_
  refine g_getR (pc := 2) C dX0_answer_2 lfX0_32 (by first | rfl | assumption) rfl ?_
  refine g_iconst (pc := 5) (v := 0) C dX0_answer_5 (by decide) ?_
  refine g_iald (pc := 6) C dX0_answer_6 (by first | rfl | assumption) (by decide) (by first | rfl | assumption) (by first | assumption | decide | omega) ?_
  refine g_putI (pc := 7) C dX0_answer_7 lpX0_23 rfl rfl (by first | rfl | assumption) rfl ?_
  refine g_aload_n (pc := 10) (i := 0) (j := 0) C dX0_answer_10 rfl rfl ?_
  refine g_aload_n (pc := 11) (i := 1) (j := 1) C dX0_answer_11 rfl rfl ?_
  refine g_getR (pc := 12) C dX0_answer_12 lfX0_32 (by first | rfl | assumption) rfl ?_
  refine g_iconst (pc := 15) (v := 1) C dX0_answer_15 (by decide) ?_
  refine g_iald (pc := 16) C dX0_answer_16 (by first | rfl | assumption) (by decide) (by first | rfl | assumption) (by first | assumption | decide | omega) ?_
  refine g_putI (pc := 17) C dX0_answer_17 lpX0_29 rfl rfl (by first | rfl | assumption) rfl ?_
  refine g_aload_n (pc := 20) (i := 0) (j := 0) C dX0_answer_20 rfl rfl ?_
  refine g_iload_n (pc := 21) (i := 2) (j := 2) C dX0_answer_21 rfl rfl ?_
  refine g_putI (pc := 22) C dX0_answer_22 lpX0_26 rfl rfl (by first | rfl | assumption) rfl ?_
  have e88 : pm_u I 88 3 (I (5 + 2 * b) 0) (5 + 2 * b) = I (5 + 2 * b) := pm_u_off (by omega)
  rw [e88]
  obtain ⟨q0, q1, q2, q3⟩ := ac_start (k := I (5 + 2 * b) 0) (n := nI b) (a := I (5 + 2 * b) 1) h1 h2
  have qo : ∀ z, z ≠ 88 → (pm_u (pm_u (pm_u I 88 3 (I (5 + 2 * b) 0)) 88 5 (I (5 + 2 * b) 1)) 88 4 (nI b)) z = I z := fun z hz => by rw [pm_u_off hz, pm_u_off hz, pm_u_off hz]
  generalize (pm_u (pm_u (pm_u I 88 3 (I (5 + 2 * b) 0)) 88 5 (I (5 + 2 * b) 1)) 88 4 (nI b)) = I3 at q0 q1 q2 q3 qo ⊢
  refine g_iconst (pc := 25) (v := 0) C dX0_answer_25 (by decide) ?_
  refine g_istore (pc := 26) (L2 := [(0, _), (1, _), (2, _), (3, _), (4, _), (5, _)]) C dX0_answer_26 (by decide) rfl ?_
  refine g_iload_n (pc := 28) (i := 3) (j := 3) C dX0_answer_28 rfl rfl ?_
  refine pm_sw (0) (fun h29_0 => ?_) (fun h29_0 => ?_)
  · refine g_tsIn (pc := 29) (tgt := 56) (0) C dX0_answer_29 (by rw [h29_0]; decide) (by decide) (by decide) rfl (by decide) ?_
    refine g_aload_n (pc := 56) (i := 0) (j := 0) C dX0_answer_56 rfl rfl ?_
    refine g_iload (pc := 57) (j := 4) C dX0_answer_57 rfl ?_
    refine g_callV (pc := 59) C dX0_answer_59 lmX0_37 kcX0_lifts (by decide) (by first | rfl | assumption) (c_X0_lifts q1 q2 q3 q0 (by decide)) rfl rfl (Nat.le_of_ble_eq_true rfl) ?_
    rintro r59 sh59 I59 J59 ⟨a59, b59, c59, hR59⟩
    try simp only [Option.toList_some, Option.toList_none, List.cons_append, List.nil_append]
    subst a59 b59
    obtain rfl := c59.symm
    try simp only [Option.toList_some, Option.toList_none, List.cons_append, List.nil_append]
    refine g_istore (pc := 62) (L2 := [(0, _), (1, _), (2, _), (3, _), (4, _), (5, _)]) C dX0_answer_62 (by decide) rfl ?_
    refine g_goto (pc := 64) (tgt := 97) C dX0_answer_64 (by decide) ?_
    refine g_aload_n (pc := 97) (i := 0) (j := 0) C dX0_answer_97 rfl rfl ?_
    refine g_getI (pc := 98) C dX0_answer_98 lfX0_19 (by first | rfl | assumption) rfl ?_
    refine g_if_eq (pc := 101) (tgt := 109) C dX0_answer_101 (by decide) (fun h101 => ?_) (fun h101 => ?_)
    · refine g_iload (pc := 109) (j := 5) C dX0_answer_109 rfl ?_
      refine g_iret (pc := 111) C C2 dX0_answer_111 rfl (Nat.le_refl _) (Nat.le_refl _) ?_
      refine ⟨?_, rfl, rfl, ?_⟩
      · have e2 := hR59.2.2.2.2.2
        have ep : ac_prt w (I (5 + 2 * b) 0) (nI b) (I (5 + 2 * b) 1) = false := by clear C C2; grind [ac_prt]
        have ev : ac_val w (I (5 + 2 * b) 0) x (nI b) (I (5 + 2 * b) 1) = ac_lv (I (5 + 2 * b) 0) x (nI b) := by clear C C2; grind [ac_val]
        rw [ep, ev]
        first | rfl | exact absurd e2 h101
      · have eb : ac_bod w (I (5 + 2 * b) 0) (nI b) (I (5 + 2 * b) 1) = ac_L (I (5 + 2 * b) 0) := by clear C C2; grind [ac_bod]
        rw [eb]
        exact ac_Q_of qo hR59
    · refine g_bipush (pc := 104) (v := (-15)) C dX0_answer_104 (by decide) ?_
      refine g_goto (pc := 106) (tgt := 111) C dX0_answer_106 (by decide) ?_
      refine g_iret (pc := 111) C C2 dX0_answer_111 rfl (Nat.le_refl _) (Nat.le_refl _) ?_
      refine ⟨?_, rfl, rfl, ?_⟩
      · have e2 := hR59.2.2.2.2.2
        have ep : ac_prt w (I (5 + 2 * b) 0) (nI b) (I (5 + 2 * b) 1) = false := by clear C C2; grind [ac_prt]
        have ev : ac_val w (I (5 + 2 * b) 0) x (nI b) (I (5 + 2 * b) 1) = ac_lv (I (5 + 2 * b) 0) x (nI b) := by clear C C2; grind [ac_val]
        rw [ep, ev]
        first | rfl | exact absurd e2 h101
      · have eb : ac_bod w (I (5 + 2 * b) 0) (nI b) (I (5 + 2 * b) 1) = ac_L (I (5 + 2 * b) 0) := by clear C C2; grind [ac_bod]
        rw [eb]
        exact ac_Q_of qo hR59
  refine pm_sw (1) (fun h29_1 => ?_) (fun h29_1 => ?_)
  · refine g_tsIn (pc := 29) (tgt := 67) (1) C dX0_answer_29 (by rw [h29_1]; decide) (by decide) (by decide) rfl (by decide) ?_
    refine g_aload_n (pc := 67) (i := 0) (j := 0) C dX0_answer_67 rfl rfl ?_
    refine g_iload (pc := 68) (j := 4) C dX0_answer_68 rfl ?_
    refine g_callV (pc := 70) C dX0_answer_70 lmX0_41 kcX0_sinks (by decide) (by first | rfl | assumption) (c_X0_sinks q1 q2 q3 q0 (by decide)) rfl rfl (Nat.le_of_ble_eq_true rfl) ?_
    rintro r70 sh70 I70 J70 ⟨a70, b70, c70, hR70⟩
    try simp only [Option.toList_some, Option.toList_none, List.cons_append, List.nil_append]
    subst a70 b70
    obtain rfl := c70.symm
    try simp only [Option.toList_some, Option.toList_none, List.cons_append, List.nil_append]
    refine g_istore (pc := 73) (L2 := [(0, _), (1, _), (2, _), (3, _), (4, _), (5, _)]) C dX0_answer_73 (by decide) rfl ?_
    refine g_goto (pc := 75) (tgt := 97) C dX0_answer_75 (by decide) ?_
    refine g_aload_n (pc := 97) (i := 0) (j := 0) C dX0_answer_97 rfl rfl ?_
    refine g_getI (pc := 98) C dX0_answer_98 lfX0_19 (by first | rfl | assumption) rfl ?_
    refine g_if_eq (pc := 101) (tgt := 109) C dX0_answer_101 (by decide) (fun h101 => ?_) (fun h101 => ?_)
    · refine g_iload (pc := 109) (j := 5) C dX0_answer_109 rfl ?_
      refine g_iret (pc := 111) C C2 dX0_answer_111 rfl (Nat.le_refl _) (Nat.le_refl _) ?_
      refine ⟨?_, rfl, rfl, ?_⟩
      · have e2 := hR70.2.2.2.2.2
        have ep : ac_prt w (I (5 + 2 * b) 0) (nI b) (I (5 + 2 * b) 1) = false := by clear C C2; grind [ac_prt]
        have ev : ac_val w (I (5 + 2 * b) 0) x (nI b) (I (5 + 2 * b) 1) = ac_sv (I (5 + 2 * b) 0) x (nI b) (I (5 + 2 * b) 1) := by clear C C2; grind [ac_val]
        rw [ep, ev]
        first | rfl | exact absurd e2 h101
      · have eb : ac_bod w (I (5 + 2 * b) 0) (nI b) (I (5 + 2 * b) 1) = ac_Sb (I (5 + 2 * b) 0) := by clear C C2; grind [ac_bod]
        rw [eb]
        exact ac_Q_of qo hR70
    · refine g_bipush (pc := 104) (v := (-15)) C dX0_answer_104 (by decide) ?_
      refine g_goto (pc := 106) (tgt := 111) C dX0_answer_106 (by decide) ?_
      refine g_iret (pc := 111) C C2 dX0_answer_111 rfl (Nat.le_refl _) (Nat.le_refl _) ?_
      refine ⟨?_, rfl, rfl, ?_⟩
      · have e2 := hR70.2.2.2.2.2
        have ep : ac_prt w (I (5 + 2 * b) 0) (nI b) (I (5 + 2 * b) 1) = false := by clear C C2; grind [ac_prt]
        have ev : ac_val w (I (5 + 2 * b) 0) x (nI b) (I (5 + 2 * b) 1) = ac_sv (I (5 + 2 * b) 0) x (nI b) (I (5 + 2 * b) 1) := by clear C C2; grind [ac_val]
        rw [ep, ev]
        first | rfl | exact absurd e2 h101
      · have eb : ac_bod w (I (5 + 2 * b) 0) (nI b) (I (5 + 2 * b) 1) = ac_Sb (I (5 + 2 * b) 0) := by clear C C2; grind [ac_bod]
        rw [eb]
        exact ac_Q_of qo hR70
  refine pm_sw (2) (fun h29_2 => ?_) (fun h29_2 => ?_)
  · refine g_tsIn (pc := 29) (tgt := 78) (2) C dX0_answer_29 (by rw [h29_2]; decide) (by decide) (by decide) rfl (by decide) ?_
    refine g_aload_n (pc := 78) (i := 0) (j := 0) C dX0_answer_78 rfl rfl ?_
    refine g_iload (pc := 79) (j := 4) C dX0_answer_79 rfl ?_
    refine g_callV (pc := 81) C dX0_answer_81 lmX0_44 kcX0_shares (by decide) (by first | rfl | assumption) (c_X0_shares q1 q2 q3 q0 (by decide)) rfl rfl (Nat.le_of_ble_eq_true rfl) ?_
    rintro r81 sh81 I81 J81 ⟨v81, a81, w81, b81, c81, hR81⟩
    try simp only [Option.toList_some, Option.toList_none, List.cons_append, List.nil_append]
    subst a81 b81
    obtain rfl := c81.symm
    try simp only [Option.toList_some, Option.toList_none, List.cons_append, List.nil_append]
    refine g_istore (pc := 84) (L2 := [(0, _), (1, _), (2, _), (3, _), (4, _), (5, _)]) C dX0_answer_84 (by decide) rfl ?_
    refine g_goto (pc := 86) (tgt := 97) C dX0_answer_86 (by decide) ?_
    refine g_aload_n (pc := 97) (i := 0) (j := 0) C dX0_answer_97 rfl rfl ?_
    refine g_getI (pc := 98) C dX0_answer_98 lfX0_19 (by first | rfl | assumption) rfl ?_
    refine g_if_eq (pc := 101) (tgt := 109) C dX0_answer_101 (by decide) (fun h101 => ?_) (fun h101 => ?_)
    · refine g_iload (pc := 109) (j := 5) C dX0_answer_109 rfl ?_
      refine g_iret (pc := 111) C C2 dX0_answer_111 rfl (Nat.le_refl _) (Nat.le_refl _) ?_
      refine ⟨?_, rfl, rfl, ?_⟩
      · have e2 := hR81.2.2.2.2.2
        have ep : ac_prt w (I (5 + 2 * b) 0) (nI b) (I (5 + 2 * b) 1) = ac_pt (nI b) (I (5 + 2 * b) 1) := by clear C C2; grind [ac_prt]
        have ev : ac_val w (I (5 + 2 * b) 0) x (nI b) (I (5 + 2 * b) 1) = ac_hv (I (5 + 2 * b) 0) x (nI b) (I (5 + 2 * b) 1) := by clear C C2; grind [ac_val]
        rw [ep, ev]
        cases hp : ac_pt (nI b) (I (5 + 2 * b) 1)
        · rw [hp] at e2
          have hne : ¬ (I (5 + 2 * b) 1) = nI b := by simpa [ac_pt] using hp
          first | exact absurd e2 h101 | (rw [w81 hne]; rfl)
        · rw [hp] at e2
          first | rfl | exact absurd (h101.symm.trans e2) (by decide)
      · have eb : ac_bod w (I (5 + 2 * b) 0) (nI b) (I (5 + 2 * b) 1) = ac_Hb (I (5 + 2 * b) 0) (nI b) (I (5 + 2 * b) 1) := by clear C C2; grind [ac_bod]
        rw [eb]
        exact ac_Q_of qo hR81
    · refine g_bipush (pc := 104) (v := (-15)) C dX0_answer_104 (by decide) ?_
      refine g_goto (pc := 106) (tgt := 111) C dX0_answer_106 (by decide) ?_
      refine g_iret (pc := 111) C C2 dX0_answer_111 rfl (Nat.le_refl _) (Nat.le_refl _) ?_
      refine ⟨?_, rfl, rfl, ?_⟩
      · have e2 := hR81.2.2.2.2.2
        have ep : ac_prt w (I (5 + 2 * b) 0) (nI b) (I (5 + 2 * b) 1) = ac_pt (nI b) (I (5 + 2 * b) 1) := by clear C C2; grind [ac_prt]
        have ev : ac_val w (I (5 + 2 * b) 0) x (nI b) (I (5 + 2 * b) 1) = ac_hv (I (5 + 2 * b) 0) x (nI b) (I (5 + 2 * b) 1) := by clear C C2; grind [ac_val]
        rw [ep, ev]
        cases hp : ac_pt (nI b) (I (5 + 2 * b) 1)
        · rw [hp] at e2
          have hne : ¬ (I (5 + 2 * b) 1) = nI b := by simpa [ac_pt] using hp
          first | exact absurd e2 h101 | (rw [w81 hne]; rfl)
        · rw [hp] at e2
          first | rfl | exact absurd (h101.symm.trans e2) (by decide)
      · have eb : ac_bod w (I (5 + 2 * b) 0) (nI b) (I (5 + 2 * b) 1) = ac_Hb (I (5 + 2 * b) 0) (nI b) (I (5 + 2 * b) 1) := by clear C C2; grind [ac_bod]
        rw [eb]
        exact ac_Q_of qo hR81
  refine g_tsOut (pc := 29) (tgt := 89) C dX0_answer_29 (by have q0 := lv_neT (a := 0) h29_0 (by decide); have q1 := lv_neT (a := 1) h29_1 (by decide); have q2 := lv_neT (a := 2) h29_2 (by decide); omega) (by decide) ?_
  refine g_aload_n (pc := 89) (i := 0) (j := 0) C dX0_answer_89 rfl rfl ?_
  refine g_iload (pc := 90) (j := 4) C dX0_answer_90 rfl ?_
  refine g_callV (pc := 92) C dX0_answer_92 lmX0_47 kcX0_tells (by decide) (by first | rfl | assumption) (c_X0_tells q1 q2 q3 q0 (by decide)) rfl rfl (Nat.le_of_ble_eq_true rfl) ?_
  rintro r92 sh92 I92 J92 ⟨v92, a92, w92, b92, c92, hR92⟩
  try simp only [Option.toList_some, Option.toList_none, List.cons_append, List.nil_append]
  subst a92 b92
  obtain rfl := c92.symm
  try simp only [Option.toList_some, Option.toList_none, List.cons_append, List.nil_append]
  refine g_istore (pc := 95) (L2 := [(0, _), (1, _), (2, _), (3, _), (4, _), (5, _)]) C dX0_answer_95 (by decide) rfl ?_
  refine g_aload_n (pc := 97) (i := 0) (j := 0) C dX0_answer_97 rfl rfl ?_
  refine g_getI (pc := 98) C dX0_answer_98 lfX0_19 (by first | rfl | assumption) rfl ?_
  refine g_if_eq (pc := 101) (tgt := 109) C dX0_answer_101 (by decide) (fun h101 => ?_) (fun h101 => ?_)
  · refine g_iload (pc := 109) (j := 5) C dX0_answer_109 rfl ?_
    refine g_iret (pc := 111) C C2 dX0_answer_111 rfl (Nat.le_refl _) (Nat.le_refl _) ?_
    refine ⟨?_, rfl, rfl, ?_⟩
    · have e2 := hR92.2.2.2.2.2
      have ep : ac_prt w (I (5 + 2 * b) 0) (nI b) (I (5 + 2 * b) 1) = ac_tp (I (5 + 2 * b) 0) (nI b) (I (5 + 2 * b) 1) := by clear C C2; grind [ac_prt]
      have ev : ac_val w (I (5 + 2 * b) 0) x (nI b) (I (5 + 2 * b) 1) = ac_tv (I (5 + 2 * b) 0) x (nI b) (I (5 + 2 * b) 1) := by clear C C2; grind [ac_val]
      rw [ep, ev]
      cases hp : ac_tp (I (5 + 2 * b) 0) (nI b) (I (5 + 2 * b) 1)
      · rw [hp] at e2
        first | exact absurd e2 h101 | (rw [w92 hp]; rfl)
      · rw [hp] at e2
        first | rfl | exact absurd (h101.symm.trans e2) (by decide)
    · have eb : ac_bod w (I (5 + 2 * b) 0) (nI b) (I (5 + 2 * b) 1) = ac_Tb (I (5 + 2 * b) 0) (nI b) (I (5 + 2 * b) 1) := by clear C C2; grind [ac_bod]
      rw [eb]
      exact ac_Q_of qo hR92
  · refine g_bipush (pc := 104) (v := (-15)) C dX0_answer_104 (by decide) ?_
    refine g_goto (pc := 106) (tgt := 111) C dX0_answer_106 (by decide) ?_
    refine g_iret (pc := 111) C C2 dX0_answer_111 rfl (Nat.le_refl _) (Nat.le_refl _) ?_
    refine ⟨?_, rfl, rfl, ?_⟩
    · have e2 := hR92.2.2.2.2.2
      have ep : ac_prt w (I (5 + 2 * b) 0) (nI b) (I (5 + 2 * b) 1) = ac_tp (I (5 + 2 * b) 0) (nI b) (I (5 + 2 * b) 1) := by clear C C2; grind [ac_prt]
      have ev : ac_val w (I (5 + 2 * b) 0) x (nI b) (I (5 + 2 * b) 1) = ac_tv (I (5 + 2 * b) 0) x (nI b) (I (5 + 2 * b) 1) := by clear C C2; grind [ac_val]
      rw [ep, ev]
      cases hp : ac_tp (I (5 + 2 * b) 0) (nI b) (I (5 + 2 * b) 1)
      · rw [hp] at e2
        first | exact absurd e2 h101 | (rw [w92 hp]; rfl)
      · rw [hp] at e2
        first | rfl | exact absurd (h101.symm.trans e2) (by decide)
    · have eb : ac_bod w (I (5 + 2 * b) 0) (nI b) (I (5 + 2 * b) 1) = ac_Tb (I (5 + 2 * b) 0) (nI b) (I (5 + 2 * b) 1) := by clear C C2; grind [ac_bod]
      rw [eb]
      exact ac_Q_of qo hR92

set_option maxHeartbeats 4000000 in
set_option maxRecDepth 100000 in
theorem c_X7_holdsBalloon {d : Nat} {s : Nat} (hs : s < 4) {I : pm_I} {J : pm_J} : pm_M (d + 2) 0 0 yX7_holdsBalloon cX7_holdsBalloon 2 (some .boolean) [.ref 0, .ref (98 + s)] SHP I J (pm_D (some (.int (pm_b (sf_holds I s)))) SHP I J) := by
  refine pm_start (own := RX7) (nm := "holdsBalloon") (by decide) rfl rfl (L := [(0, .ref 0), (1, .ref (98 + s))]) rfl (Nat.le_of_ble_eq_true rfl) (fun Γ C C2 => ?_)
  have sS := shS s hs
  refine g_aload_n (pc := 0) (i := 1) (j := 1) C dX7_holdsBalloon_0 rfl rfl ?_
  refine g_getI (pc := 1) C dX7_holdsBalloon_1 lfX7_238 (by first | rfl | assumption) rfl ?_
  refine g_if_ne (pc := 4) (tgt := 25) C dX7_holdsBalloon_4 (by decide) (fun h4 => ?_) (fun h4 => ?_)
  · refine g_iconst (pc := 25) (v := 0) C dX7_holdsBalloon_25 (by decide) ?_
    refine g_iret (pc := 26) C C2 dX7_holdsBalloon_26 (by first | rfl | exact pm_nz) (Nat.le_refl _) (Nat.le_refl _) ?_
    clear C C2
    try clear sS
    exact ⟨by first | rfl | grind [pm_b], rfl, by first | rfl | grind [pm_b], rfl⟩
  · refine g_aload_n (pc := 7) (i := 0) (j := 0) C dX7_holdsBalloon_7 rfl rfl ?_
    refine g_getR (pc := 8) C dX7_holdsBalloon_8 lfX7_10 (by first | rfl | assumption) rfl ?_
    refine g_aload_n (pc := 11) (i := 1) (j := 1) C dX7_holdsBalloon_11 rfl rfl ?_
    refine g_getI (pc := 12) C dX7_holdsBalloon_12 lfX7_245 (by first | rfl | assumption) rfl ?_
    refine g_callV (pc := 15) C dX7_holdsBalloon_15 lmX7_115 kcX5_has (by decide) (by first | rfl | assumption) (c_X5_has) rfl rfl (Nat.le_of_ble_eq_true rfl) ?_
    intro r9 sh9 I9 J9 hD9; obtain ⟨rfl, rfl, rfl, rfl⟩ := pm_Dq hD9
    try simp only [Option.toList_some, Option.toList_none, List.cons_append, List.nil_append]
    refine g_if_eqB (pc := 18) (tgt := 25) C dX7_holdsBalloon_18 (by decide) (fun h18 => ?_) (fun h18 => ?_)
    · refine g_iconst (pc := 25) (v := 0) C dX7_holdsBalloon_25 (by decide) ?_
      refine g_iret (pc := 26) C C2 dX7_holdsBalloon_26 (by first | rfl | exact pm_nz) (Nat.le_refl _) (Nat.le_refl _) ?_
      clear C C2
      try clear sS
      exact ⟨by first | rfl | grind [pm_b], rfl, by first | rfl | grind [pm_b], rfl⟩
    · refine g_iconst (pc := 21) (v := 1) C dX7_holdsBalloon_21 (by decide) ?_
      refine g_goto (pc := 22) (tgt := 26) C dX7_holdsBalloon_22 (by decide) ?_
      refine g_iret (pc := 26) C C2 dX7_holdsBalloon_26 (by first | rfl | exact pm_nz) (Nat.le_refl _) (Nat.le_refl _) ?_
      clear C C2
      try clear sS
      exact ⟨by first | rfl | grind [pm_b], rfl, by first | rfl | grind [pm_b], rfl⟩

set_option maxHeartbeats 4000000 in
set_option maxRecDepth 100000 in
theorem c_X7_act {d : Nat} {I : pm_I} {J : pm_J} {n : Nat} (hn : I 1 2 = nI n) (h6 : n ≤ 6) {s b : Nat} {w v : Int32} (hs : s < 4) (hb : b < n) (hw : 0 ≤ w ∧ w ≤ 3) (hh : I (98 + s) 0 = 0) (hnb : I (98 + s) 1 = nI b) : pm_M (d + 5) 0 0 yX7_act cX7_act 5 (some .int) [.ref 0, .int (nI s), .int w, .int v] SHP I J (fun r sh2 I2 J2 => r = some (.int (if ac_prt w (I (5 + 2 * b) 0) (nI b) (I (5 + 2 * b) 1) then -15 else ac_val w (I (5 + 2 * b) 0) v (nI b) (I (5 + 2 * b) 1))) ∧ sh2 = SHP ∧ J2 = J ∧ ac_Q I (ac_bod w (I (5 + 2 * b) 0) (nI b) (I (5 + 2 * b) 1)) I2) := by
  refine pm_start (own := RX7) (nm := "act") (by decide) rfl rfl (L := [(0, .ref 0), (1, .int (nI s)), (2, .int w), (3, .int v)]) rfl (Nat.le_of_ble_eq_true rfl) (fun Γ C C2 => ?_)
  have sS := shS s hs
  have eo : ∀ z, z ≠ 88 → (pm_u (pm_u I 88 1 0) 88 2 0) z = I z := fun z hz => by rw [pm_u_off hz, pm_u_off hz]
  have e5 : (pm_u (pm_u I 88 1 0) 88 2 0) (5 + 2 * b) = I (5 + 2 * b) := eo _ (by omega)
  have e98 : (pm_u (pm_u I 88 1 0) 88 2 0) (98 + s) = I (98 + s) := eo _ (by omega)
  have e1 : (pm_u (pm_u I 88 1 0) 88 2 0) 1 = I 1 := eo _ (by decide)
  have hsf : sf_holds (pm_u (pm_u I 88 1 0) 88 2 0) s := by unfold sf_holds; rw [e98, e1, hnb, hn]; exact ⟨hh, nI_pos' (by omega), pm_leP hb (by omega)⟩
  refine g_aload_n (pc := 0) (i := 0) (j := 0) C dX7_act_0 rfl rfl ?_
  refine g_getR (pc := 1) C dX7_act_1 lfX7_66 (by first | rfl | assumption) rfl ?_
  refine g_callV (pc := 4) C dX7_act_4 lmX7_253 kcX0_forget (by decide) (by first | rfl | assumption) (c_X0_forget) rfl rfl (Nat.le_of_ble_eq_true rfl) ?_
  intro r9 sh9 I9 J9 hD9; obtain ⟨rfl, rfl, rfl, rfl⟩ := pm_Dq hD9
  try simp only [Option.toList_some, Option.toList_none, List.cons_append, List.nil_append]
  refine g_iload_n (pc := 7) (i := 1) (j := 1) C dX7_act_7 rfl rfl ?_
  refine g_callS (pc := 8) C dX7_act_8 lmX7_227 kcX7_isShelf (by decide) (c_X7_isShelf) rfl rfl (Nat.le_of_ble_eq_true rfl) ?_
  intro r9 sh9 I9 J9 hD9; obtain ⟨rfl, rfl, rfl, rfl⟩ := pm_Dq hD9
  try simp only [Option.toList_some, Option.toList_none, List.cons_append, List.nil_append]
  refine g_if_eqB (pc := 11) (tgt := 36) C dX7_act_11 (by decide) (fun h11 => absurd ⟨by exact nI_pos' (by omega), by exact nI_le (a := s) (b := 3) (by omega) (by decide)⟩ h11) (fun h11 => ?_)
  refine g_iload_n (pc := 14) (i := 2) (j := 2) C dX7_act_14 rfl rfl ?_
  refine g_iconst (pc := 15) (v := 0) C dX7_act_15 (by decide) ?_
  refine g_iconst (pc := 16) (v := 3) C dX7_act_16 (by decide) ?_
  refine g_callS (pc := 17) C dX7_act_17 lmX7_72 kcX7_within (by decide) (c_X7_within) rfl rfl (Nat.le_of_ble_eq_true rfl) ?_
  intro r9 sh9 I9 J9 hD9; obtain ⟨rfl, rfl, rfl, rfl⟩ := pm_Dq hD9
  try simp only [Option.toList_some, Option.toList_none, List.cons_append, List.nil_append]
  refine g_if_eqB (pc := 20) (tgt := 36) C dX7_act_20 (by decide) (fun h20 => absurd hw h20) (fun h20 => ?_)
  refine g_aload_n (pc := 23) (i := 0) (j := 0) C dX7_act_23 rfl rfl ?_
  refine g_aload_n (pc := 24) (i := 0) (j := 0) C dX7_act_24 rfl rfl ?_
  refine g_getR (pc := 25) C dX7_act_25 lfX7_59 (by first | rfl | assumption) rfl ?_
  refine g_iload_n (pc := 28) (i := 1) (j := 1) C dX7_act_28 rfl rfl ?_
  refine g_aald (pc := 29) C dX7_act_29 (by first | rfl | assumption) (fun _ => rfl) rfl (by decide) (by first | rfl | assumption) (rsS s hs) ?_
  refine g_callV (pc := 30) C dX7_act_30 lmX7_241 kcX7_holdsBalloon (by decide) (by first | rfl | assumption) (c_X7_holdsBalloon hs) rfl rfl (Nat.le_of_ble_eq_true rfl) ?_
  intro r9 sh9 I9 J9 hD9; obtain ⟨rfl, rfl, rfl, rfl⟩ := pm_Dq hD9
  try simp only [Option.toList_some, Option.toList_none, List.cons_append, List.nil_append]
  refine g_if_neB (pc := 33) (tgt := 38) C dX7_act_33 (by decide) (fun h33 => ?_) (fun h33 => absurd hsf h33)
  refine g_aload_n (pc := 38) (i := 0) (j := 0) C dX7_act_38 rfl rfl ?_
  refine g_getR (pc := 39) C dX7_act_39 lfX7_59 (by first | rfl | assumption) rfl ?_
  refine g_iload_n (pc := 42) (i := 1) (j := 1) C dX7_act_42 rfl rfl ?_
  refine g_aald (pc := 43) C dX7_act_43 (by first | rfl | assumption) (fun _ => rfl) rfl (by decide) (by first | rfl | assumption) (rsS s hs) ?_
  refine g_getI (pc := 44) C dX7_act_44 lfX7_245 (by first | rfl | assumption) rfl ?_
  rw [e98, hnb]
  refine g_istore (pc := 47) (L2 := [(0, _), (1, _), (2, _), (3, _), (4, _)]) C dX7_act_47 (by decide) rfl ?_
  refine g_aload_n (pc := 49) (i := 0) (j := 0) C dX7_act_49 rfl rfl ?_
  refine g_getR (pc := 50) C dX7_act_50 lfX7_66 (by first | rfl | assumption) rfl ?_
  refine g_aload_n (pc := 53) (i := 0) (j := 0) C dX7_act_53 rfl rfl ?_
  refine g_getR (pc := 54) C dX7_act_54 lfX7_10 (by first | rfl | assumption) rfl ?_
  refine g_getR (pc := 57) C dX7_act_57 lfX7_118 (by first | rfl | assumption) rfl ?_
  refine g_iload (pc := 60) (j := 4) C dX7_act_60 rfl ?_
  refine g_aald (pc := 62) C dX7_act_62 (by first | rfl | assumption) (fun _ => rfl) rfl (by decide) (by first | rfl | assumption) (rsB b (by omega)) ?_
  refine g_iload (pc := 63) (j := 4) C dX7_act_63 rfl ?_
  refine g_iload_n (pc := 65) (i := 2) (j := 2) C dX7_act_65 rfl rfl ?_
  refine g_iload_n (pc := 66) (i := 3) (j := 3) C dX7_act_66 rfl rfl ?_
  refine g_callV (pc := 67) C dX7_act_67 lmX7_256 kcX0_answer (by decide) (by first | rfl | assumption) (c_X0_answer (b := b) (by omega) (by rw [pm_u_at, pk_un (by decide), pm_u_at, pk_us]) (by rw [pm_u_at, pk_us]) hw) rfl rfl (Nat.le_of_ble_eq_true rfl) ?_
  rintro r9 sh9 I9 J9 ⟨a9, b9, c9, hQ9⟩
  try simp only [Option.toList_some, Option.toList_none, List.cons_append, List.nil_append]
  subst a9 b9
  obtain rfl := c9.symm
  simp only [Option.toList_some, List.cons_append, List.nil_append]
  refine g_iret (pc := 70) C C2 dX7_act_70 rfl (Nat.le_refl _) (Nat.le_refl _) ?_
  rw [e5] at hQ9
  refine ⟨by rw [e5], rfl, rfl, fun z h1 h2 => (hQ9.1 z h1 h2).trans (eo z h1), hQ9.2⟩

set_option maxHeartbeats 4000000 in
set_option maxRecDepth 100000 in
theorem c_X7_act0 {d : Nat} {I : pm_I} {J : pm_J} {x w v : Int32} (hv : ¬ ((0 ≤ x ∧ x ≤ 3) ∧ (0 ≤ w ∧ w ≤ 3) ∧ sf_holds I x.toNatClampNeg)) : pm_M (d + 3) 0 0 yX7_act cX7_act 5 (some .int) [.ref 0, .int x, .int w, .int v] SHP I J (pm_D (some (.int (0))) SHP ((pm_u (pm_u I 88 1 0) 88 2 0)) J) := by
  refine pm_start (own := RX7) (nm := "act") (by decide) rfl rfl (L := [(0, .ref 0), (1, .int x), (2, .int w), (3, .int v)]) rfl (Nat.le_of_ble_eq_true rfl) (fun Γ C C2 => ?_)
  refine g_aload_n (pc := 0) (i := 0) (j := 0) C dX7_act_0 rfl rfl ?_
  refine g_getR (pc := 1) C dX7_act_1 lfX7_66 (by first | rfl | assumption) rfl ?_
  refine g_callV (pc := 4) C dX7_act_4 lmX7_253 kcX0_forget (by decide) (by first | rfl | assumption) (c_X0_forget) rfl rfl (Nat.le_of_ble_eq_true rfl) ?_
  intro r9 sh9 I9 J9 hD9; obtain ⟨rfl, rfl, rfl, rfl⟩ := pm_Dq hD9
  try simp only [Option.toList_some, Option.toList_none, List.cons_append, List.nil_append]
  refine g_iload_n (pc := 7) (i := 1) (j := 1) C dX7_act_7 rfl rfl ?_
  refine g_callS (pc := 8) C dX7_act_8 lmX7_227 kcX7_isShelf (by decide) (c_X7_isShelf) rfl rfl (Nat.le_of_ble_eq_true rfl) ?_
  intro r9 sh9 I9 J9 hD9; obtain ⟨rfl, rfl, rfl, rfl⟩ := pm_Dq hD9
  try simp only [Option.toList_some, Option.toList_none, List.cons_append, List.nil_append]
  refine g_if_eqB (pc := 11) (tgt := 36) C dX7_act_11 (by decide) (fun h11 => ?_) (fun h11 => ?_)
  · refine g_iconst (pc := 36) (v := 0) C dX7_act_36 (by decide) ?_
    refine g_iret (pc := 37) C C2 dX7_act_37 rfl (Nat.le_refl _) (Nat.le_refl _) ?_
    exact ⟨rfl, rfl, rfl, rfl⟩
  · refine g_iload_n (pc := 14) (i := 2) (j := 2) C dX7_act_14 rfl rfl ?_
    refine g_iconst (pc := 15) (v := 0) C dX7_act_15 (by decide) ?_
    refine g_iconst (pc := 16) (v := 3) C dX7_act_16 (by decide) ?_
    refine g_callS (pc := 17) C dX7_act_17 lmX7_72 kcX7_within (by decide) (c_X7_within) rfl rfl (Nat.le_of_ble_eq_true rfl) ?_
    intro r9 sh9 I9 J9 hD9; obtain ⟨rfl, rfl, rfl, rfl⟩ := pm_Dq hD9
    try simp only [Option.toList_some, Option.toList_none, List.cons_append, List.nil_append]
    refine g_if_eqB (pc := 20) (tgt := 36) C dX7_act_20 (by decide) (fun h20 => ?_) (fun h20 => ?_)
    · refine g_iconst (pc := 36) (v := 0) C dX7_act_36 (by decide) ?_
      refine g_iret (pc := 37) C C2 dX7_act_37 rfl (Nat.le_refl _) (Nat.le_refl _) ?_
      exact ⟨rfl, rfl, rfl, rfl⟩
    · obtain ⟨s, hs, rfl⟩ := pm_ix (N := 4) h11.1 h11.2 (by decide)
      have ecs : (nI s).toNatClampNeg = s := nI_clamp (by omega)
      have sS := shS s hs
      refine g_aload_n (pc := 23) (i := 0) (j := 0) C dX7_act_23 rfl rfl ?_
      refine g_aload_n (pc := 24) (i := 0) (j := 0) C dX7_act_24 rfl rfl ?_
      refine g_getR (pc := 25) C dX7_act_25 lfX7_59 (by first | rfl | assumption) rfl ?_
      refine g_iload_n (pc := 28) (i := 1) (j := 1) C dX7_act_28 rfl rfl ?_
      refine g_aald (pc := 29) C dX7_act_29 (by first | rfl | assumption) (fun _ => rfl) rfl (by decide) (by first | rfl | assumption) (rsS s hs) ?_
      refine g_callV (pc := 30) C dX7_act_30 lmX7_241 kcX7_holdsBalloon (by decide) (by first | rfl | assumption) (c_X7_holdsBalloon hs) rfl rfl (Nat.le_of_ble_eq_true rfl) ?_
      intro r9 sh9 I9 J9 hD9; obtain ⟨rfl, rfl, rfl, rfl⟩ := pm_Dq hD9
      try simp only [Option.toList_some, Option.toList_none, List.cons_append, List.nil_append]
      refine g_if_neB (pc := 33) (tgt := 38) C dX7_act_33 (by decide) (fun h33 => ?_) (fun h33 => ?_)
      · refine absurd ⟨h11, h20, ?_⟩ hv
        rw [ecs]
        have eo : ∀ z, z ≠ 88 → (pm_u (pm_u I 88 1 0) 88 2 0) z = I z := fun z hz => by rw [pm_u_off hz, pm_u_off hz]
        have e98 : (pm_u (pm_u I 88 1 0) 88 2 0) (98 + s) = I (98 + s) := eo _ (by omega)
        have e1 : (pm_u (pm_u I 88 1 0) 88 2 0) 1 = I 1 := eo _ (by decide)
        unfold sf_holds at h33 ⊢
        rw [e98, e1] at h33
        exact h33
      · refine g_iconst (pc := 36) (v := 0) C dX7_act_36 (by decide) ?_
        refine g_iret (pc := 37) C C2 dX7_act_37 rfl (Nat.le_refl _) (Nat.le_refl _) ?_
        exact ⟨rfl, rfl, rfl, rfl⟩

set_option maxHeartbeats 4000000 in
set_option maxRecDepth 100000 in
theorem c_X7_trace {d : Nat} {I : pm_I} {J : pm_J} {x : Int32} {r : Nat} (hr : I 88 1 = nI r) (hr30 : r ≤ 30) : pm_M (d + 1) 0 0 yX7_trace cX7_trace 2 (some .int) [.ref 0, .int x] SHP I J (pm_D (some (.int (if 0 ≤ x ∧ x ≤ I 88 1 - 1 then I 89 x.toNatClampNeg else -3))) SHP I J) := by
  refine pm_start (own := RX7) (nm := "trace") (by decide) rfl rfl (L := [(0, .ref 0), (1, .int x)]) rfl (Nat.le_of_ble_eq_true rfl) (fun Γ C C2 => ?_)
  refine g_iload_n (pc := 0) (i := 1) (j := 1) C dX7_trace_0 rfl rfl ?_
  refine g_iconst (pc := 1) (v := 0) C dX7_trace_1 (by decide) ?_
  refine g_aload_n (pc := 2) (i := 0) (j := 0) C dX7_trace_2 rfl rfl ?_
  refine g_getR (pc := 3) C dX7_trace_3 lfX7_66 (by first | rfl | assumption) rfl ?_
  refine g_getI (pc := 6) C dX7_trace_6 lfX7_260 (by first | rfl | assumption) rfl ?_
  refine g_iconst (pc := 9) (v := 1) C dX7_trace_9 (by decide) ?_
  refine g_isub (pc := 10) C dX7_trace_10 ?_
  refine g_callS (pc := 11) C dX7_trace_11 lmX7_72 kcX7_within (by decide) (c_X7_within) rfl rfl (Nat.le_of_ble_eq_true rfl) ?_
  intro r9 sh9 I9 J9 hD9; obtain ⟨rfl, rfl, rfl, rfl⟩ := pm_Dq hD9
  try simp only [Option.toList_some, Option.toList_none, List.cons_append, List.nil_append]
  refine g_if_eqB (pc := 14) (tgt := 29) C dX7_trace_14 (by decide) (fun h14 => ?_) (fun h14 => ?_)
  · refine g_bipush (pc := 29) (v := (-3)) C dX7_trace_29 (by decide) ?_
    refine g_iret (pc := 31) C C2 dX7_trace_31 rfl (Nat.le_refl _) (Nat.le_refl _) ?_
    clear C C2
    exact ⟨by first | rfl | grind, rfl, by first | rfl | grind, rfl⟩
  · obtain ⟨s, hs, rfl⟩ := pm_hasN (n := r) (by omega) (by rw [← hr]; exact h14)
    have ecs : (nI s).toNatClampNeg = s := nI_clamp (by omega)
    refine g_aload_n (pc := 17) (i := 0) (j := 0) C dX7_trace_17 rfl rfl ?_
    refine g_getR (pc := 18) C dX7_trace_18 lfX7_66 (by first | rfl | assumption) rfl ?_
    refine g_getR (pc := 21) C dX7_trace_21 lfX7_263 (by first | rfl | assumption) rfl ?_
    refine g_iload_n (pc := 24) (i := 1) (j := 1) C dX7_trace_24 rfl rfl ?_
    refine g_iald (pc := 25) (j := s) C dX7_trace_25 (by first | rfl | assumption) (by decide) rfl (by omega) ?_
    refine g_goto (pc := 26) (tgt := 31) C dX7_trace_26 (by decide) ?_
    refine g_iret (pc := 31) C C2 dX7_trace_31 rfl (Nat.le_refl _) (Nat.le_refl _) ?_
    clear C C2
    exact ⟨by first | rfl | grind, rfl, by first | rfl | grind, rfl⟩

set_option maxHeartbeats 4000000 in
set_option maxRecDepth 100000 in
theorem c_X7_many {d : Nat} {I : pm_I} {J : pm_J} {n : Nat} (hn : I 1 2 = nI n) (h6 : n ≤ 6) {x : Int32} : pm_M (d + 4) 0 0 yX7_many cX7_many 2 (some .int) [.ref 0, .int x] SHP I J (pm_D (some (.int (if x = 0 then I 1 2 else if x = 1 then bl_ends (bl_L I) (I 1 4) n n / 2 else if x = 2 then I 1 3 else if x = 3 then I 0 7 else if x = 4 then I 46 1 else if x = 5 then I 88 1 else -1))) SHP I J) := by
  refine pm_start (own := RX7) (nm := "many") (by decide) rfl rfl (L := [(0, .ref 0), (1, .int x)]) rfl (Nat.le_of_ble_eq_true rfl) (fun Γ C C2 => ?_)
  refine g_iload_n (pc := 0) (i := 1) (j := 1) C dX7_many_0 rfl rfl ?_
  refine pm_sw (0) (fun h1_0 => ?_) (fun h1_0 => ?_)
  · refine g_tsIn (pc := 1) (tgt := 40) (0) C dX7_many_1 (by rw [h1_0]; decide) (by decide) (by decide) rfl (by decide) ?_
    refine g_aload_n (pc := 40) (i := 0) (j := 0) C dX7_many_40 rfl rfl ?_
    refine g_getR (pc := 41) C dX7_many_41 lfX7_10 (by first | rfl | assumption) rfl ?_
    refine g_getI (pc := 44) C dX7_many_44 lfX7_93 (by first | rfl | assumption) rfl ?_
    refine g_iret (pc := 47) C C2 dX7_many_47 rfl (Nat.le_refl _) (Nat.le_refl _) ?_
    clear C C2
    exact ⟨by first | rfl | grind, rfl, by first | rfl | grind, rfl⟩
  refine pm_sw (1) (fun h1_1 => ?_) (fun h1_1 => ?_)
  · refine g_tsIn (pc := 1) (tgt := 48) (1) C dX7_many_1 (by rw [h1_1]; decide) (by decide) (by decide) rfl (by decide) ?_
    refine g_aload_n (pc := 48) (i := 0) (j := 0) C dX7_many_48 rfl rfl ?_
    refine g_getR (pc := 49) C dX7_many_49 lfX7_10 (by first | rfl | assumption) rfl ?_
    refine g_callV (pc := 52) C dX7_many_52 lmX7_266 kcX5_touchingPairs (by decide) (by first | rfl | assumption) (c_X5_touchingPairs hn h6) rfl rfl (Nat.le_of_ble_eq_true rfl) ?_
    intro r9 sh9 I9 J9 hD9; obtain ⟨rfl, rfl, rfl, rfl⟩ := pm_Dq hD9
    try simp only [Option.toList_some, Option.toList_none, List.cons_append, List.nil_append]
    refine g_iret (pc := 55) C C2 dX7_many_55 rfl (Nat.le_refl _) (Nat.le_refl _) ?_
    clear C C2
    exact ⟨by first | rfl | grind, rfl, by first | rfl | grind, rfl⟩
  refine pm_sw (2) (fun h1_2 => ?_) (fun h1_2 => ?_)
  · refine g_tsIn (pc := 1) (tgt := 56) (2) C dX7_many_1 (by rw [h1_2]; decide) (by decide) (by decide) rfl (by decide) ?_
    refine g_aload_n (pc := 56) (i := 0) (j := 0) C dX7_many_56 rfl rfl ?_
    refine g_getR (pc := 57) C dX7_many_57 lfX7_10 (by first | rfl | assumption) rfl ?_
    refine g_getI (pc := 60) C dX7_many_60 lfX7_157 (by first | rfl | assumption) rfl ?_
    refine g_iret (pc := 63) C C2 dX7_many_63 rfl (Nat.le_refl _) (Nat.le_refl _) ?_
    clear C C2
    exact ⟨by first | rfl | grind, rfl, by first | rfl | grind, rfl⟩
  refine pm_sw (3) (fun h1_3 => ?_) (fun h1_3 => ?_)
  · refine g_tsIn (pc := 1) (tgt := 64) (3) C dX7_many_1 (by rw [h1_3]; decide) (by decide) (by decide) rfl (by decide) ?_
    refine g_aload_n (pc := 64) (i := 0) (j := 0) C dX7_many_64 rfl rfl ?_
    refine g_getI (pc := 65) C dX7_many_65 lfX7_47 (by first | rfl | assumption) rfl ?_
    refine g_iret (pc := 68) C C2 dX7_many_68 rfl (Nat.le_refl _) (Nat.le_refl _) ?_
    clear C C2
    exact ⟨by first | rfl | grind, rfl, by first | rfl | grind, rfl⟩
  refine pm_sw (4) (fun h1_4 => ?_) (fun h1_4 => ?_)
  · refine g_tsIn (pc := 1) (tgt := 69) (4) C dX7_many_1 (by rw [h1_4]; decide) (by decide) (by decide) rfl (by decide) ?_
    refine g_aload_n (pc := 69) (i := 0) (j := 0) C dX7_many_69 rfl rfl ?_
    refine g_getR (pc := 70) C dX7_many_70 lfX7_29 (by first | rfl | assumption) rfl ?_
    refine g_getI (pc := 73) C dX7_many_73 lfX7_76 (by first | rfl | assumption) rfl ?_
    refine g_iret (pc := 76) C C2 dX7_many_76 rfl (Nat.le_refl _) (Nat.le_refl _) ?_
    clear C C2
    exact ⟨by first | rfl | grind, rfl, by first | rfl | grind, rfl⟩
  refine pm_sw (5) (fun h1_5 => ?_) (fun h1_5 => ?_)
  · refine g_tsIn (pc := 1) (tgt := 77) (5) C dX7_many_1 (by rw [h1_5]; decide) (by decide) (by decide) rfl (by decide) ?_
    refine g_aload_n (pc := 77) (i := 0) (j := 0) C dX7_many_77 rfl rfl ?_
    refine g_getR (pc := 78) C dX7_many_78 lfX7_66 (by first | rfl | assumption) rfl ?_
    refine g_getI (pc := 81) C dX7_many_81 lfX7_260 (by first | rfl | assumption) rfl ?_
    refine g_iret (pc := 84) C C2 dX7_many_84 rfl (Nat.le_refl _) (Nat.le_refl _) ?_
    clear C C2
    exact ⟨by first | rfl | grind, rfl, by first | rfl | grind, rfl⟩
  refine g_tsOut (pc := 1) (tgt := 85) C dX7_many_1 (by have q0 := lv_neT (a := 0) h1_0 (by decide); have q1 := lv_neT (a := 1) h1_1 (by decide); have q2 := lv_neT (a := 2) h1_2 (by decide); have q3 := lv_neT (a := 3) h1_3 (by decide); have q4 := lv_neT (a := 4) h1_4 (by decide); have q5 := lv_neT (a := 5) h1_5 (by decide); omega) (by decide) ?_
  refine g_iconst (pc := 85) (v := (-1)) C dX7_many_85 (by decide) ?_
  refine g_iret (pc := 86) C C2 dX7_many_86 rfl (Nat.le_refl _) (Nat.le_refl _) ?_
  clear C C2
  exact ⟨by first | rfl | grind, rfl, by first | rfl | grind, rfl⟩
