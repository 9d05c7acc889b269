/-! Acts: shares, tells, the answer; shelves -/
def ac_Tb (k n a : Int32) : List Int32 := if k = 2 ∨ k = 3 then [31, 13] ++ (ac_Sb k ++ ac_Hb k n a) else if k = 5 then [60, 13] ++ ac_Sb k else [13] ++ ac_Sb k
def ac_tp (k n a : Int32) : Bool := if k = 2 ∨ k = 3 then ac_pt n a else false
def ac_tv (k x n a : Int32) : Int32 := if k = 2 ∨ k = 3 then (ac_sv k x n a ^^^ a) + ac_hv k n n a else if k = 5 then (ac_sv k x n a ^^^ a) * 2 else ac_sv k x n a ^^^ a
def ac_bod (w k n a : Int32) : List Int32 := if w = 0 then ac_L k else if w = 1 then ac_Sb k else if w = 2 then ac_Hb k n a else ac_Tb k n a
def ac_prt (w k n a : Int32) : Bool := if w = 0 then false else if w = 1 then false else if w = 2 then ac_pt n a else ac_tp k n a
def ac_val (w k x n a : Int32) : Int32 := if w = 0 then ac_lv k x n else if w = 1 then ac_sv k x n a else if w = 2 then ac_hv k x n a else ac_tv k x n a
theorem ac_Tb_len (k n a : Int32) : (ac_Tb k n a).length ≤ 15 := by
  have := ac_Sb_len k
  have := ac_Hb_len k n a
  unfold ac_Tb
  (repeat' split) <;> simp <;> omega
theorem ac_f (ts l : List Int32) : ac_add ts false l = ts ++ l := rfl
theorem ac_H5 (ts : List Int32) (n a : Int32) (l : List Int32) : ac_add (ts ++ [12]) (ac_pt n a) l = ts ++ ([12] ++ if a = n then [] else l) := by
  by_cases h : a = n
  · simp [ac_add, ac_pt, h]
  · simp [ac_add, ac_pt, h]
set_option maxHeartbeats 4000000 in
set_option maxRecDepth 100000 in
theorem c_X0_shares {d : Nat} {I : pm_I} {J : pm_J} {k nn a : Int32} (hk : I 88 3 = k) (hnn : I 88 4 = nn) (haa : I 88 5 = a) {ts : List Int32} (hS : ac_S I ts false) (hl : ts.length + 5 ≤ 30) {x : Int32} : pm_M (d + 2) 0 0 yX0_shares cX0_shares 2 (some .int) [.ref 88, .int x] SHP I J (fun r sh2 I2 J2 => ∃ v, r = some (.int v) ∧ (¬ a = nn → v = ac_hv k x nn a) ∧ sh2 = SHP ∧ J2 = J ∧ ac_R I (ts ++ ac_Hb k nn a) (ac_pt nn a) I2) := by
  refine pm_start (own := RX0) (nm := "shares") (by decide) rfl rfl (L := [(0, .ref 88), (1, .int x)]) rfl (Nat.le_of_ble_eq_true rfl) (fun Γ C C2 => ?_)
  refine g_aload_n (pc := 0) (i := 0) (j := 0) C dX0_shares_0 rfl rfl ?_
  refine g_getI (pc := 1) C dX0_shares_1 lfX0_23 (by first | rfl | assumption) rfl ?_
  refine pm_sw (4) (fun h4_0 => ?_) (fun h4_0 => ?_)
  · refine g_ls (pc := 4) (off := 28) (tgt := 32) C dX0_shares_4 (by decide) (by show Op.lookupswitch.offset [(4, 28), (5, 44)] (65) _ = _; rw [h4_0]; decide) (by decide) ?_
    refine g_aload_n (pc := 32) (i := 0) (j := 0) C dX0_shares_32 rfl rfl ?_
    refine g_bipush (pc := 33) (v := 50) C dX0_shares_33 (by decide) ?_
    refine g_callV (pc := 35) C dX0_shares_35 lmX0_50 kcX0_begin (by decide) (by first | rfl | assumption) (c_X0_begin (pt := false) hS (by omega)) rfl rfl (Nat.le_of_ble_eq_true rfl) ?_
    rintro r35 sh35 I35 J35 ⟨a35, b35, c35, hR35⟩
    try simp only [Option.toList_some, Option.toList_none, List.cons_append, List.nil_append]
    subst a35 b35
    obtain rfl := c35.symm
    try simp only [Option.toList_some, Option.toList_none, List.cons_append, List.nil_append]
    refine g_aload_n (pc := 38) (i := 0) (j := 0) C dX0_shares_38 rfl rfl ?_
    refine g_iload_n (pc := 39) (i := 1) (j := 1) C dX0_shares_39 rfl rfl ?_
    refine g_iconst (pc := 40) (v := 2) C dX0_shares_40 (by decide) ?_
    refine g_iadd (pc := 41) C dX0_shares_41 ?_
    refine g_callV (pc := 42) C dX0_shares_42 lmX0_54 kcX0_parted (by decide) (by first | rfl | assumption) (c_X0_parted (hR35.2.1.1.trans hk) (hR35.2.1.2.1.trans hnn) (hR35.2.1.2.2.trans haa) hR35.2.2 (by clear C C2; have l2 := ac_L_len k; have l3 := ac_Sb_len k; have l4 := ac_Hb_len k nn a; (try simp only [ac_add]); simp <;> omega)) rfl rfl (Nat.le_of_ble_eq_true rfl) ?_
    rintro r42 sh42 I42 J42 ⟨a42, b42, c42, hR42⟩
    try simp only [Option.toList_some, Option.toList_none, List.cons_append, List.nil_append]
    subst a42 b42
    obtain rfl := c42.symm
    try simp only [Option.toList_some, Option.toList_none, List.cons_append, List.nil_append]
    refine g_iconst (pc := 45) (v := 1) C dX0_shares_45 (by decide) ?_
    refine g_ixor (pc := 46) C dX0_shares_46 ?_
    refine g_iret (pc := 47) C C2 dX0_shares_47 rfl (Nat.le_refl _) (Nat.le_refl _) ?_
    have hT := (hR35.tr hR42)
    refine ⟨_, rfl, fun hne => ?_, rfl, rfl, ?_⟩
    · have g1 := hT.2.1
      have g35 := hR35.2.1
      have g42 := hR42.2.1
      clear C C2
      grind [ac_hv]
    · have e9 : ac_Hb k nn a = [50, 12] := by clear C C2; grind [ac_Hb]
      rw [e9]
      rw [ac_f] at hT
      simpa only [List.append_assoc, List.cons_append, List.nil_append] using hT
  refine pm_sw (5) (fun h4_1 => ?_) (fun h4_1 => ?_)
  · refine g_ls (pc := 4) (off := 44) (tgt := 48) C dX0_shares_4 (by decide) (by show Op.lookupswitch.offset [(4, 28), (5, 44)] (65) _ = _; rw [h4_1]; decide) (by decide) ?_
    refine g_aload_n (pc := 48) (i := 0) (j := 0) C dX0_shares_48 rfl rfl ?_
    refine g_bipush (pc := 49) (v := 61) C dX0_shares_49 (by decide) ?_
    refine g_callV (pc := 51) C dX0_shares_51 lmX0_50 kcX0_begin (by decide) (by first | rfl | assumption) (c_X0_begin (pt := false) hS (by omega)) rfl rfl (Nat.le_of_ble_eq_true rfl) ?_
    rintro r51 sh51 I51 J51 ⟨a51, b51, c51, hR51⟩
    try simp only [Option.toList_some, Option.toList_none, List.cons_append, List.nil_append]
    subst a51 b51
    obtain rfl := c51.symm
    try simp only [Option.toList_some, Option.toList_none, List.cons_append, List.nil_append]
    refine g_aload_n (pc := 54) (i := 0) (j := 0) C dX0_shares_54 rfl rfl ?_
    refine g_iload_n (pc := 55) (i := 1) (j := 1) C dX0_shares_55 rfl rfl ?_
    refine g_callV (pc := 56) C dX0_shares_56 lmX0_54 kcX0_parted (by decide) (by first | rfl | assumption) (c_X0_parted (hR51.2.1.1.trans hk) (hR51.2.1.2.1.trans hnn) (hR51.2.1.2.2.trans haa) hR51.2.2 (by clear C C2; have l2 := ac_L_len k; have l3 := ac_Sb_len k; have l4 := ac_Hb_len k nn a; (try simp only [ac_add]); simp <;> omega)) rfl rfl (Nat.le_of_ble_eq_true rfl) ?_
    rintro r56 sh56 I56 J56 ⟨a56, b56, c56, hR56⟩
    try simp only [Option.toList_some, Option.toList_none, List.cons_append, List.nil_append]
    subst a56 b56
    obtain rfl := c56.symm
    try simp only [Option.toList_some, Option.toList_none, List.cons_append, List.nil_append]
    refine g_aload_n (pc := 59) (i := 0) (j := 0) C dX0_shares_59 rfl rfl ?_
    refine g_aload_n (pc := 60) (i := 0) (j := 0) C dX0_shares_60 rfl rfl ?_
    refine g_getI (pc := 61) C dX0_shares_61 lfX0_29 (by first | rfl | assumption) rfl ?_
    refine g_callV (pc := 64) C dX0_shares_64 lmX0_37 kcX0_lifts (by decide) (by first | rfl | assumption) (c_X0_lifts ((hR51.tr hR56).2.1.1.trans hk) ((hR51.tr hR56).2.1.2.1.trans hnn) ((hR51.tr hR56).2.1.2.2.trans haa) hR56.2.2 (by clear C C2; have l2 := ac_L_len k; have l3 := ac_Sb_len k; have l4 := ac_Hb_len k nn a; (try simp only [ac_add]); simp <;> omega)) rfl rfl (Nat.le_of_ble_eq_true rfl) ?_
    rintro r64 sh64 I64 J64 ⟨a64, b64, c64, hR64⟩
    try simp only [Option.toList_some, Option.toList_none, List.cons_append, List.nil_append]
    subst a64 b64
    obtain rfl := c64.symm
    try simp only [Option.toList_some, Option.toList_none, List.cons_append, List.nil_append]
    refine g_iadd (pc := 67) C dX0_shares_67 ?_
    refine g_iret (pc := 68) C C2 dX0_shares_68 rfl (Nat.le_refl _) (Nat.le_refl _) ?_
    have hT := ((hR51.tr hR56).tr hR64)
    refine ⟨_, rfl, fun hne => ?_, rfl, rfl, ?_⟩
    · have g1 := hT.2.1
      have g51 := hR51.2.1
      have g56 := hR56.2.1
      have g64 := hR64.2.1
      clear C C2
      grind [ac_hv]
    · have e9 : ac_Hb k nn a = [61, 12] ++ (if a = nn then [] else ac_L k) := by clear C C2; grind [ac_Hb]
      rw [e9]
      rw [ac_f, ac_H5] at hT
      simpa only [List.append_assoc, List.cons_append, List.nil_append] using hT
  refine g_ls (pc := 4) (off := 65) (tgt := 69) C dX0_shares_4 (by decide) (by show Op.lookupswitch.offset [(4, 28), (5, 44)] (65) _ = _; rw [lv_osw (k := 4) h4_0 (by decide)]; rw [lv_osw (k := 5) h4_1 (by decide)]; rfl) (by decide) ?_
  refine g_aload_n (pc := 69) (i := 0) (j := 0) C dX0_shares_69 rfl rfl ?_
  refine g_iload_n (pc := 70) (i := 1) (j := 1) C dX0_shares_70 rfl rfl ?_
  refine g_callV (pc := 71) C dX0_shares_71 lmX0_54 kcX0_parted (by decide) (by first | rfl | assumption) (c_X0_parted hk hnn haa hS (by omega)) rfl rfl (Nat.le_of_ble_eq_true rfl) ?_
  rintro r71 sh71 I71 J71 ⟨a71, b71, c71, hR71⟩
  try simp only [Option.toList_some, Option.toList_none, List.cons_append, List.nil_append]
  subst a71 b71
  obtain rfl := c71.symm
  try simp only [Option.toList_some, Option.toList_none, List.cons_append, List.nil_append]
  refine g_iret (pc := 74) C C2 dX0_shares_74 rfl (Nat.le_refl _) (Nat.le_refl _) ?_
  have hT := hR71
  refine ⟨_, rfl, fun hne => ?_, rfl, rfl, ?_⟩
  · have g1 := hT.2.1
    have g71 := hR71.2.1
    clear C C2
    grind [ac_hv]
  · have e9 : ac_Hb k nn a = [12] := by clear C C2; grind [ac_Hb]
    rw [e9]
    exact hT

set_option maxHeartbeats 4000000 in
set_option maxRecDepth 100000 in
theorem c_X0_tells {d : Nat} {I : pm_I} {J : pm_J} {k nn a : Int32} (hk : I 88 3 = k) (hnn : I 88 4 = nn) (haa : I 88 5 = a) {ts : List Int32} (hS : ac_S I ts false) (hl : ts.length + 15 ≤ 30) {x : Int32} : pm_M (d + 3) 0 0 yX0_tells cX0_tells 2 (some .int) [.ref 88, .int x] SHP I J (fun r sh2 I2 J2 => ∃ v, r = some (.int v) ∧ (ac_tp k nn a = false → v = ac_tv k x nn a) ∧ sh2 = SHP ∧ J2 = J ∧ ac_R I (ts ++ ac_Tb k nn a) (ac_tp k nn a) I2) := by
  refine pm_start (own := RX0) (nm := "tells") (by decide) rfl rfl (L := [(0, .ref 88), (1, .int x)]) rfl (Nat.le_of_ble_eq_true rfl) (fun Γ C C2 => ?_)
  refine g_aload_n (pc := 0) (i := 0) (j := 0) C dX0_tells_0 rfl rfl ?_
  refine g_getI (pc := 1) C dX0_tells_1 lfX0_23 (by first | rfl | assumption) rfl ?_
  refine pm_sw (2) (fun h4_0 => ?_) (fun h4_0 => ?_)
  · refine g_tsIn (pc := 4) (tgt := 36) (2) C dX0_tells_4 (by rw [h4_0]; decide) (by decide) (by decide) rfl (by decide) ?_
    refine g_aload_n (pc := 36) (i := 0) (j := 0) C dX0_tells_36 rfl rfl ?_
    refine g_bipush (pc := 37) (v := 31) C dX0_tells_37 (by decide) ?_
    refine g_callV (pc := 39) C dX0_tells_39 lmX0_50 kcX0_begin (by decide) (by first | rfl | assumption) (c_X0_begin (pt := false) hS (by omega)) rfl rfl (Nat.le_of_ble_eq_true rfl) ?_
    rintro r39 sh39 I39 J39 ⟨a39, b39, c39, hR39⟩
    try simp only [Option.toList_some, Option.toList_none, List.cons_append, List.nil_append]
    subst a39 b39
    obtain rfl := c39.symm
    try simp only [Option.toList_some, Option.toList_none, List.cons_append, List.nil_append]
    refine g_aload_n (pc := 42) (i := 0) (j := 0) C dX0_tells_42 rfl rfl ?_
    refine g_bipush (pc := 43) (v := 13) C dX0_tells_43 (by decide) ?_
    refine g_callV (pc := 45) C dX0_tells_45 lmX0_50 kcX0_begin (by decide) (by first | rfl | assumption) (c_X0_begin hR39.2.2 (by clear C C2; have l2 := ac_L_len k; have l3 := ac_Sb_len k; have l4 := ac_Hb_len k nn a; (try simp only [ac_add]); simp <;> omega)) rfl rfl (Nat.le_of_ble_eq_true rfl) ?_
    rintro r45 sh45 I45 J45 ⟨a45, b45, c45, hR45⟩
    try simp only [Option.toList_some, Option.toList_none, List.cons_append, List.nil_append]
    subst a45 b45
    obtain rfl := c45.symm
    try simp only [Option.toList_some, Option.toList_none, List.cons_append, List.nil_append]
    refine g_aload_n (pc := 48) (i := 0) (j := 0) C dX0_tells_48 rfl rfl ?_
    refine g_iload_n (pc := 49) (i := 1) (j := 1) C dX0_tells_49 rfl rfl ?_
    refine g_callV (pc := 50) C dX0_tells_50 lmX0_41 kcX0_sinks (by decide) (by first | rfl | assumption) (c_X0_sinks ((hR39.tr hR45).2.1.1.trans hk) ((hR39.tr hR45).2.1.2.1.trans hnn) ((hR39.tr hR45).2.1.2.2.trans haa) hR45.2.2 (by clear C C2; have l2 := ac_L_len k; have l3 := ac_Sb_len k; have l4 := ac_Hb_len k nn a; (try simp only [ac_add]); simp <;> omega)) rfl rfl (Nat.le_of_ble_eq_true rfl) ?_
    rintro r50 sh50 I50 J50 ⟨a50, b50, c50, hR50⟩
    try simp only [Option.toList_some, Option.toList_none, List.cons_append, List.nil_append]
    subst a50 b50
    obtain rfl := c50.symm
    try simp only [Option.toList_some, Option.toList_none, List.cons_append, List.nil_append]
    refine g_aload_n (pc := 53) (i := 0) (j := 0) C dX0_tells_53 rfl rfl ?_
    refine g_getI (pc := 54) C dX0_tells_54 lfX0_29 (by first | rfl | assumption) rfl ?_
    refine g_ixor (pc := 57) C dX0_tells_57 ?_
    refine g_aload_n (pc := 58) (i := 0) (j := 0) C dX0_tells_58 rfl rfl ?_
    refine g_aload_n (pc := 59) (i := 0) (j := 0) C dX0_tells_59 rfl rfl ?_
    refine g_getI (pc := 60) C dX0_tells_60 lfX0_26 (by first | rfl | assumption) rfl ?_
    refine g_callV (pc := 63) C dX0_tells_63 lmX0_44 kcX0_shares (by decide) (by first | rfl | assumption) (c_X0_shares (((hR39.tr hR45).tr hR50).2.1.1.trans hk) (((hR39.tr hR45).tr hR50).2.1.2.1.trans hnn) (((hR39.tr hR45).tr hR50).2.1.2.2.trans haa) hR50.2.2 (by clear C C2; have l2 := ac_L_len k; have l3 := ac_Sb_len k; have l4 := ac_Hb_len k nn a; (try simp only [ac_add]); simp <;> omega)) rfl rfl (Nat.le_of_ble_eq_true rfl) ?_
    rintro r63 sh63 I63 J63 ⟨v63, a63, w63, b63, c63, hR63⟩
    try simp only [Option.toList_some, Option.toList_none, List.cons_append, List.nil_append]
    subst a63 b63
    obtain rfl := c63.symm
    try simp only [Option.toList_some, Option.toList_none, List.cons_append, List.nil_append]
    refine g_iadd (pc := 66) C dX0_tells_66 ?_
    refine g_iret (pc := 67) C C2 dX0_tells_67 rfl (Nat.le_refl _) (Nat.le_refl _) ?_
    have hT := (((hR39.tr hR45).tr hR50).tr hR63)
    have ep : ac_tp k nn a = ac_pt nn a := by clear C C2; grind [ac_tp]
    have e9 : ac_Tb k nn a = [31, 13] ++ (ac_Sb k ++ ac_Hb k nn a) := by clear C C2; grind [ac_Tb]
    refine ⟨_, rfl, fun hne => ?_, rfl, rfl, ?_⟩
    · have g1 := hT.2.1
      have g39 := hR39.2.1
      have g45 := hR45.2.1
      have g50 := hR50.2.1
      have g63 := hR63.2.1
      have w0 : ¬ a = nn := by rw [ep] at hne; simpa [ac_pt] using hne
      have w1 := w63 w0
      have w2 : I50 88 4 = nn := by have := ((hR39.tr hR45).tr hR50).2.1.2.1; rw [this]; exact hnn
      rw [w2] at w1
      clear C C2
      grind [ac_tv]
    · rw [e9, ep]
      simpa only [ac_f, List.append_assoc, List.cons_append, List.nil_append] using hT
  refine pm_sw (3) (fun h4_1 => ?_) (fun h4_1 => ?_)
  · refine g_tsIn (pc := 4) (tgt := 36) (3) C dX0_tells_4 (by rw [h4_1]; decide) (by decide) (by decide) rfl (by decide) ?_
    refine g_aload_n (pc := 36) (i := 0) (j := 0) C dX0_tells_36 rfl rfl ?_
    refine g_bipush (pc := 37) (v := 31) C dX0_tells_37 (by decide) ?_
    refine g_callV (pc := 39) C dX0_tells_39 lmX0_50 kcX0_begin (by decide) (by first | rfl | assumption) (c_X0_begin (pt := false) hS (by omega)) rfl rfl (Nat.le_of_ble_eq_true rfl) ?_
    rintro r39 sh39 I39 J39 ⟨a39, b39, c39, hR39⟩
    try simp only [Option.toList_some, Option.toList_none, List.cons_append, List.nil_append]
    subst a39 b39
    obtain rfl := c39.symm
    try simp only [Option.toList_some, Option.toList_none, List.cons_append, List.nil_append]
    refine g_aload_n (pc := 42) (i := 0) (j := 0) C dX0_tells_42 rfl rfl ?_
    refine g_bipush (pc := 43) (v := 13) C dX0_tells_43 (by decide) ?_
    refine g_callV (pc := 45) C dX0_tells_45 lmX0_50 kcX0_begin (by decide) (by first | rfl | assumption) (c_X0_begin hR39.2.2 (by clear C C2; have l2 := ac_L_len k; have l3 := ac_Sb_len k; have l4 := ac_Hb_len k nn a; (try simp only [ac_add]); simp <;> omega)) rfl rfl (Nat.le_of_ble_eq_true rfl) ?_
    rintro r45 sh45 I45 J45 ⟨a45, b45, c45, hR45⟩
    try simp only [Option.toList_some, Option.toList_none, List.cons_append, List.nil_append]
    subst a45 b45
    obtain rfl := c45.symm
    try simp only [Option.toList_some, Option.toList_none, List.cons_append, List.nil_append]
    refine g_aload_n (pc := 48) (i := 0) (j := 0) C dX0_tells_48 rfl rfl ?_
    refine g_iload_n (pc := 49) (i := 1) (j := 1) C dX0_tells_49 rfl rfl ?_
    refine g_callV (pc := 50) C dX0_tells_50 lmX0_41 kcX0_sinks (by decide) (by first | rfl | assumption) (c_X0_sinks ((hR39.tr hR45).2.1.1.trans hk) ((hR39.tr hR45).2.1.2.1.trans hnn) ((hR39.tr hR45).2.1.2.2.trans haa) hR45.2.2 (by clear C C2; have l2 := ac_L_len k; have l3 := ac_Sb_len k; have l4 := ac_Hb_len k nn a; (try simp only [ac_add]); simp <;> omega)) rfl rfl (Nat.le_of_ble_eq_true rfl) ?_
    rintro r50 sh50 I50 J50 ⟨a50, b50, c50, hR50⟩
    try simp only [Option.toList_some, Option.toList_none, List.cons_append, List.nil_append]
    subst a50 b50
    obtain rfl := c50.symm
    try simp only [Option.toList_some, Option.toList_none, List.cons_append, List.nil_append]
    refine g_aload_n (pc := 53) (i := 0) (j := 0) C dX0_tells_53 rfl rfl ?_
    refine g_getI (pc := 54) C dX0_tells_54 lfX0_29 (by first | rfl | assumption) rfl ?_
    refine g_ixor (pc := 57) C dX0_tells_57 ?_
    refine g_aload_n (pc := 58) (i := 0) (j := 0) C dX0_tells_58 rfl rfl ?_
    refine g_aload_n (pc := 59) (i := 0) (j := 0) C dX0_tells_59 rfl rfl ?_
    refine g_getI (pc := 60) C dX0_tells_60 lfX0_26 (by first | rfl | assumption) rfl ?_
    refine g_callV (pc := 63) C dX0_tells_63 lmX0_44 kcX0_shares (by decide) (by first | rfl | assumption) (c_X0_shares (((hR39.tr hR45).tr hR50).2.1.1.trans hk) (((hR39.tr hR45).tr hR50).2.1.2.1.trans hnn) (((hR39.tr hR45).tr hR50).2.1.2.2.trans haa) hR50.2.2 (by clear C C2; have l2 := ac_L_len k; have l3 := ac_Sb_len k; have l4 := ac_Hb_len k nn a; (try simp only [ac_add]); simp <;> omega)) rfl rfl (Nat.le_of_ble_eq_true rfl) ?_
    rintro r63 sh63 I63 J63 ⟨v63, a63, w63, b63, c63, hR63⟩
    try simp only [Option.toList_some, Option.toList_none, List.cons_append, List.nil_append]
    subst a63 b63
    obtain rfl := c63.symm
    try simp only [Option.toList_some, Option.toList_none, List.cons_append, List.nil_append]
    refine g_iadd (pc := 66) C dX0_tells_66 ?_
    refine g_iret (pc := 67) C C2 dX0_tells_67 rfl (Nat.le_refl _) (Nat.le_refl _) ?_
    have hT := (((hR39.tr hR45).tr hR50).tr hR63)
    have ep : ac_tp k nn a = ac_pt nn a := by clear C C2; grind [ac_tp]
    have e9 : ac_Tb k nn a = [31, 13] ++ (ac_Sb k ++ ac_Hb k nn a) := by clear C C2; grind [ac_Tb]
    refine ⟨_, rfl, fun hne => ?_, rfl, rfl, ?_⟩
    · have g1 := hT.2.1
      have g39 := hR39.2.1
      have g45 := hR45.2.1
      have g50 := hR50.2.1
      have g63 := hR63.2.1
      have w0 : ¬ a = nn := by rw [ep] at hne; simpa [ac_pt] using hne
      have w1 := w63 w0
      have w2 : I50 88 4 = nn := by have := ((hR39.tr hR45).tr hR50).2.1.2.1; rw [this]; exact hnn
      rw [w2] at w1
      clear C C2
      grind [ac_tv]
    · rw [e9, ep]
      simpa only [ac_f, List.append_assoc, List.cons_append, List.nil_append] using hT
  refine pm_sw (4) (fun h4_2 => ?_) (fun h4_2 => ?_)
  · refine g_tsIn (pc := 4) (tgt := 93) (4) C dX0_tells_4 (by rw [h4_2]; decide) (by decide) (by decide) rfl (by decide) ?_
    refine g_aload_n (pc := 93) (i := 0) (j := 0) C dX0_tells_93 rfl rfl ?_
    refine g_bipush (pc := 94) (v := 13) C dX0_tells_94 (by decide) ?_
    refine g_callV (pc := 96) C dX0_tells_96 lmX0_50 kcX0_begin (by decide) (by first | rfl | assumption) (c_X0_begin (pt := false) hS (by omega)) rfl rfl (Nat.le_of_ble_eq_true rfl) ?_
    rintro r96 sh96 I96 J96 ⟨a96, b96, c96, hR96⟩
    try simp only [Option.toList_some, Option.toList_none, List.cons_append, List.nil_append]
    subst a96 b96
    obtain rfl := c96.symm
    try simp only [Option.toList_some, Option.toList_none, List.cons_append, List.nil_append]
    refine g_aload_n (pc := 99) (i := 0) (j := 0) C dX0_tells_99 rfl rfl ?_
    refine g_iload_n (pc := 100) (i := 1) (j := 1) C dX0_tells_100 rfl rfl ?_
    refine g_callV (pc := 101) C dX0_tells_101 lmX0_41 kcX0_sinks (by decide) (by first | rfl | assumption) (c_X0_sinks (hR96.2.1.1.trans hk) (hR96.2.1.2.1.trans hnn) (hR96.2.1.2.2.trans haa) hR96.2.2 (by clear C C2; have l2 := ac_L_len k; have l3 := ac_Sb_len k; have l4 := ac_Hb_len k nn a; (try simp only [ac_add]); simp <;> omega)) rfl rfl (Nat.le_of_ble_eq_true rfl) ?_
    rintro r101 sh101 I101 J101 ⟨a101, b101, c101, hR101⟩
    try simp only [Option.toList_some, Option.toList_none, List.cons_append, List.nil_append]
    subst a101 b101
    obtain rfl := c101.symm
    try simp only [Option.toList_some, Option.toList_none, List.cons_append, List.nil_append]
    refine g_aload_n (pc := 104) (i := 0) (j := 0) C dX0_tells_104 rfl rfl ?_
    refine g_getI (pc := 105) C dX0_tells_105 lfX0_29 (by first | rfl | assumption) rfl ?_
    refine g_ixor (pc := 108) C dX0_tells_108 ?_
    refine g_iret (pc := 109) C C2 dX0_tells_109 rfl (Nat.le_refl _) (Nat.le_refl _) ?_
    have hT := (hR96.tr hR101)
    have ep : ac_tp k nn a = false := by clear C C2; grind [ac_tp]
    have e9 : ac_Tb k nn a = [13] ++ ac_Sb k := by clear C C2; grind [ac_Tb]
    refine ⟨_, rfl, fun hne => ?_, rfl, rfl, ?_⟩
    · have g1 := hT.2.1
      have g96 := hR96.2.1
      have g101 := hR101.2.1
      clear C C2
      grind [ac_tv]
    · rw [e9, ep]
      simpa only [ac_f, List.append_assoc, List.cons_append, List.nil_append] using hT
  refine pm_sw (5) (fun h4_3 => ?_) (fun h4_3 => ?_)
  · refine g_tsIn (pc := 4) (tgt := 68) (5) C dX0_tells_4 (by rw [h4_3]; decide) (by decide) (by decide) rfl (by decide) ?_
    refine g_aload_n (pc := 68) (i := 0) (j := 0) C dX0_tells_68 rfl rfl ?_
    refine g_bipush (pc := 69) (v := 60) C dX0_tells_69 (by decide) ?_
    refine g_callV (pc := 71) C dX0_tells_71 lmX0_50 kcX0_begin (by decide) (by first | rfl | assumption) (c_X0_begin (pt := false) hS (by omega)) rfl rfl (Nat.le_of_ble_eq_true rfl) ?_
    rintro r71 sh71 I71 J71 ⟨a71, b71, c71, hR71⟩
    try simp only [Option.toList_some, Option.toList_none, List.cons_append, List.nil_append]
    subst a71 b71
    obtain rfl := c71.symm
    try simp only [Option.toList_some, Option.toList_none, List.cons_append, List.nil_append]
    refine g_aload_n (pc := 74) (i := 0) (j := 0) C dX0_tells_74 rfl rfl ?_
    refine g_bipush (pc := 75) (v := 13) C dX0_tells_75 (by decide) ?_
    refine g_callV (pc := 77) C dX0_tells_77 lmX0_50 kcX0_begin (by decide) (by first | rfl | assumption) (c_X0_begin hR71.2.2 (by clear C C2; have l2 := ac_L_len k; have l3 := ac_Sb_len k; have l4 := ac_Hb_len k nn a; (try simp only [ac_add]); simp <;> omega)) rfl rfl (Nat.le_of_ble_eq_true rfl) ?_
    rintro r77 sh77 I77 J77 ⟨a77, b77, c77, hR77⟩
    try simp only [Option.toList_some, Option.toList_none, List.cons_append, List.nil_append]
    subst a77 b77
    obtain rfl := c77.symm
    try simp only [Option.toList_some, Option.toList_none, List.cons_append, List.nil_append]
    refine g_aload_n (pc := 80) (i := 0) (j := 0) C dX0_tells_80 rfl rfl ?_
    refine g_iload_n (pc := 81) (i := 1) (j := 1) C dX0_tells_81 rfl rfl ?_
    refine g_callV (pc := 82) C dX0_tells_82 lmX0_41 kcX0_sinks (by decide) (by first | rfl | assumption) (c_X0_sinks ((hR71.tr hR77).2.1.1.trans hk) ((hR71.tr hR77).2.1.2.1.trans hnn) ((hR71.tr hR77).2.1.2.2.trans haa) hR77.2.2 (by clear C C2; have l2 := ac_L_len k; have l3 := ac_Sb_len k; have l4 := ac_Hb_len k nn a; (try simp only [ac_add]); simp <;> omega)) rfl rfl (Nat.le_of_ble_eq_true rfl) ?_
    rintro r82 sh82 I82 J82 ⟨a82, b82, c82, hR82⟩
    try simp only [Option.toList_some, Option.toList_none, List.cons_append, List.nil_append]
    subst a82 b82
    obtain rfl := c82.symm
    try simp only [Option.toList_some, Option.toList_none, List.cons_append, List.nil_append]
    refine g_aload_n (pc := 85) (i := 0) (j := 0) C dX0_tells_85 rfl rfl ?_
    refine g_getI (pc := 86) C dX0_tells_86 lfX0_29 (by first | rfl | assumption) rfl ?_
    refine g_ixor (pc := 89) C dX0_tells_89 ?_
    refine g_iconst (pc := 90) (v := 2) C dX0_tells_90 (by decide) ?_
    refine g_imul (pc := 91) C dX0_tells_91 ?_
    refine g_iret (pc := 92) C C2 dX0_tells_92 rfl (Nat.le_refl _) (Nat.le_refl _) ?_
    have hT := ((hR71.tr hR77).tr hR82)
    have ep : ac_tp k nn a = false := by clear C C2; grind [ac_tp]
    have e9 : ac_Tb k nn a = [60, 13] ++ ac_Sb k := by clear C C2; grind [ac_Tb]
    refine ⟨_, rfl, fun hne => ?_, rfl, rfl, ?_⟩
    · have g1 := hT.2.1
      have g71 := hR71.2.1
      have g77 := hR77.2.1
      have g82 := hR82.2.1
      clear C C2
      grind [ac_tv]
    · rw [e9, ep]
      simpa only [ac_f, List.append_assoc, List.cons_append, List.nil_append] using hT
  refine g_tsOut (pc := 4) (tgt := 93) C dX0_tells_4 (by have q0 := lv_neT (a := 2) h4_0 (by decide); have q1 := lv_neT (a := 3) h4_1 (by decide); have q2 := lv_neT (a := 4) h4_2 (by decide); have q3 := lv_neT (a := 5) h4_3 (by decide); omega) (by decide) ?_
  refine g_aload_n (pc := 93) (i := 0) (j := 0) C dX0_tells_93 rfl rfl ?_
  refine g_bipush (pc := 94) (v := 13) C dX0_tells_94 (by decide) ?_
  refine g_callV (pc := 96) C dX0_tells_96 lmX0_50 kcX0_begin (by decide) (by first | rfl | assumption) (c_X0_begin (pt := false) hS (by omega)) rfl rfl (Nat.le_of_ble_eq_true rfl) ?_
  rintro r96 sh96 I96 J96 ⟨a96, b96, c96, hR96⟩
  try simp only [Option.toList_some, Option.toList_none, List.cons_append, List.nil_append]
  subst a96 b96
  obtain rfl := c96.symm
  try simp only [Option.toList_some, Option.toList_none, List.cons_append, List.nil_append]
  refine g_aload_n (pc := 99) (i := 0) (j := 0) C dX0_tells_99 rfl rfl ?_
  refine g_iload_n (pc := 100) (i := 1) (j := 1) C dX0_tells_100 rfl rfl ?_
  refine g_callV (pc := 101) C dX0_tells_101 lmX0_41 kcX0_sinks (by decide) (by first | rfl | assumption) (c_X0_sinks (hR96.2.1.1.trans hk) (hR96.2.1.2.1.trans hnn) (hR96.2.1.2.2.trans haa) hR96.2.2 (by clear C C2; have l2 := ac_L_len k; have l3 := ac_Sb_len k; have l4 := ac_Hb_len k nn a; (try simp only [ac_add]); simp <;> omega)) rfl rfl (Nat.le_of_ble_eq_true rfl) ?_
  rintro r101 sh101 I101 J101 ⟨a101, b101, c101, hR101⟩
  try simp only [Option.toList_some, Option.toList_none, List.cons_append, List.nil_append]
  subst a101 b101
  obtain rfl := c101.symm
  try simp only [Option.toList_some, Option.toList_none, List.cons_append, List.nil_append]
  refine g_aload_n (pc := 104) (i := 0) (j := 0) C dX0_tells_104 rfl rfl ?_
  refine g_getI (pc := 105) C dX0_tells_105 lfX0_29 (by first | rfl | assumption) rfl ?_
  refine g_ixor (pc := 108) C dX0_tells_108 ?_
  refine g_iret (pc := 109) C C2 dX0_tells_109 rfl (Nat.le_refl _) (Nat.le_refl _) ?_
  have hT := (hR96.tr hR101)
  have ep : ac_tp k nn a = false := by clear C C2; grind [ac_tp]
  have e9 : ac_Tb k nn a = [13] ++ ac_Sb k := by clear C C2; grind [ac_Tb]
  refine ⟨_, rfl, fun hne => ?_, rfl, rfl, ?_⟩
  · have g1 := hT.2.1
    have g96 := hR96.2.1
    have g101 := hR101.2.1
    clear C C2
    grind [ac_tv]
  · rw [e9, ep]
    simpa only [ac_f, List.append_assoc, List.cons_append, List.nil_append] using hT
