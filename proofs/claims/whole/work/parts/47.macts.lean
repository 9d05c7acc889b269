/-! The model: acts -/
def ma_S (I : pm_I) (ts : List Int32) (pt : Bool) : Prop := I 102 37 = nI ts.length ∧ ts.length ≤ 30 ∧ (∀ k, k < ts.length → I 120 k = ts.getD k 0) ∧ I 102 38 = if pt then 1 else 0
def ma_R (I : pm_I) (ts : List Int32) (pt : Bool) (I2 : pm_I) : Prop := (∀ a, a ≠ 102 → a ≠ 120 → I2 a = I a) ∧ (∀ p, p ≠ 37 → p ≠ 38 → I2 102 p = I 102 p) ∧ ma_S I2 ts pt
theorem ma_R.tr {I I2 I3 : pm_I} {ts ts2 : List Int32} {pt pt2 : Bool} (h : ma_R I ts pt I2) (h2 : ma_R I2 ts2 pt2 I3) : ma_R I ts2 pt2 I3 :=
  ⟨fun a h1 h3 => (h2.1 a h1 h3).trans (h.1 a h1 h3), fun p h1 h3 => (h2.2.1 p h1 h3).trans (h.2.1 p h1 h3), h2.2.2⟩
theorem ma_put {I : pm_I} {ts : List Int32} {pt : Bool} {x : Int32} (h : ma_S I ts pt) (hl : ts.length < 30) : ma_R I (ts ++ [x]) pt (pm_u (pm_u I 120 ts.length x) 102 37 (nI (ts.length + 1))) := by
  obtain ⟨h1, h2, h3, h4⟩ := h
  refine ⟨fun a ha hb => by rw [pm_u_off ha, pm_u_off hb], fun p p1 p2 => by rw [pm_u_at, pk_un p1, pm_u_off (by decide)], ?_, ?_, fun k hk => ?_, ?_⟩
  · rw [pm_u_at, pk_us, List.length_append]
    rfl
  · rw [List.length_append]
    simp
    omega
  · rw [pm_u_off (by decide), pm_u_at]
    rw [List.length_append] at hk
    have hk2 : k < ts.length + 1 := hk
    by_cases e : k = ts.length
    · subst e
      rw [pk_us]
      simp [List.getD]
    · rw [pk_un e, h3 k (by omega)]
      simp only [List.getD_eq_getElem?_getD]
      rw [List.getElem?_append_left (by omega)]
  · rw [pm_u_at, pk_un (by decide), pm_u_off (by decide)]
    exact h4
def ma_Q (I : pm_I) (ts : List Int32) (I2 : pm_I) : Prop := (∀ a, a ≠ 102 → a ≠ 120 → I2 a = I a) ∧ (∀ p, (p < 33 ∨ 38 < p) → I2 102 p = I 102 p) ∧ I2 102 37 = nI ts.length ∧ ts.length ≤ 30 ∧ ∀ k, k < ts.length → I2 120 k = ts.getD k 0
set_option maxHeartbeats 4000000 in
set_option maxRecDepth 100000 in
theorem c_X8_ran {d : Nat} {I : pm_I} {J : pm_J} {x : Int32} {ts : List Int32} {pt : Bool} (hS : ma_S I ts pt) (hl : ts.length < 30) : pm_M d 0 0 yX8_ran cX8_ran 2 (none : Option Jvm.ClassFile.FieldType) [.ref 102, .int x] SHP I J (fun r sh2 I2 J2 => r = none ∧ sh2 = SHP ∧ J2 = J ∧ ma_R I (ts ++ [x]) (pt) I2) := by
  refine pm_start (own := RX8) (nm := "ran") (by decide) rfl rfl (L := [(0, .ref 102), (1, .int x)]) rfl (Nat.le_of_ble_eq_true rfl) (fun Γ C C2 => ?_)
  refine g_aload_n (pc := 0) (i := 0) (j := 0) C dX8_ran_0 rfl rfl ?_
  refine g_getI (pc := 1) C dX8_ran_1 lfX8_343 (by first | rfl | assumption) rfl ?_
  refine g_bipush (pc := 4) (v := 30) C dX8_ran_4 (by decide) ?_
  refine g_icmp_ge (pc := 6) (tgt := 29) C dX8_ran_6 (by decide) (fun h6 => absurd h6 (by rw [hS.1]; exact nI_ge hl (by decide))) (fun h6 => ?_)
  refine g_aload_n (pc := 9) (i := 0) (j := 0) C dX8_ran_9 rfl rfl ?_
  refine g_getR (pc := 10) C dX8_ran_10 lfX8_69 (by first | rfl | assumption) rfl ?_
  refine g_aload_n (pc := 13) (i := 0) (j := 0) C dX8_ran_13 rfl rfl ?_
  refine g_getI (pc := 14) C dX8_ran_14 lfX8_343 (by first | rfl | assumption) rfl ?_
  refine g_iload_n (pc := 17) (i := 1) (j := 1) C dX8_ran_17 rfl rfl ?_
  refine g_iast (pc := 18) (j := ts.length) C dX8_ran_18 (by first | rfl | assumption) (by decide) hS.1 hl ?_
  refine g_aload_n (pc := 19) (i := 0) (j := 0) C dX8_ran_19 rfl rfl ?_
  refine g_dup (pc := 20) C dX8_ran_20 rfl ?_
  refine g_getI (pc := 21) C dX8_ran_21 lfX8_343 (by first | rfl | assumption) rfl ?_
  refine g_iconst (pc := 24) (v := 1) C dX8_ran_24 (by decide) ?_
  refine g_iadd (pc := 25) C dX8_ran_25 ?_
  refine g_putI (pc := 26) C dX8_ran_26 lpX8_343 rfl rfl (by first | rfl | assumption) rfl ?_
  refine g_vret (pc := 29) C C2 dX8_ran_29 (Nat.le_refl _) (Nat.le_refl _) ?_
  refine ⟨rfl, rfl, rfl, ?_⟩
  rw [show pm_u I 120 ts.length x 102 = I 102 from pm_u_off (by decide), hS.1, nI_1]
  exact ma_put hS hl

set_option maxHeartbeats 4000000 in
set_option maxRecDepth 100000 in
theorem c_X8_plainLifts {d : Nat} {I : pm_I} {J : pm_J} {k nn a : Int32} (hk : I 102 33 = k) (hnn : I 102 34 = nn) (haa : I 102 35 = a) {ts : List Int32} {pt : Bool} (hS : ma_S I ts pt) (hl : ts.length + 1 ≤ 30) {x : Int32} : pm_M (d + 1) 0 0 yX8_plainLifts cX8_plainLifts 2 (some .int) [.ref 102, .int x] SHP I J (fun r sh2 I2 J2 => r = some (.int (x + nn)) ∧ sh2 = SHP ∧ J2 = J ∧ ma_R I (ts ++ [10]) (pt) I2) := by
  refine pm_start (own := RX8) (nm := "plainLifts") (by decide) rfl rfl (L := [(0, .ref 102), (1, .int x)]) rfl (Nat.le_of_ble_eq_true rfl) (fun Γ C C2 => ?_)
  refine g_aload_n (pc := 0) (i := 0) (j := 0) C dX8_plainLifts_0 rfl rfl ?_
  refine g_bipush (pc := 1) (v := 10) C dX8_plainLifts_1 (by decide) ?_
  refine g_callV (pc := 3) C dX8_plainLifts_3 lmX8_346 kcX8_ran (by decide) (by first | rfl | assumption) (c_X8_ran hS (by omega)) rfl rfl (Nat.le_of_ble_eq_true rfl) ?_
  rintro r3 sh3 I3 J3 ⟨a3, b3, c3, hR3⟩
  try simp only [Option.toList_some, Option.toList_none, List.cons_append, List.nil_append]
  subst a3 b3
  obtain rfl := c3.symm
  try simp only [Option.toList_some, Option.toList_none, List.cons_append, List.nil_append]
  refine g_iload_n (pc := 6) (i := 1) (j := 1) C dX8_plainLifts_6 rfl rfl ?_
  refine g_aload_n (pc := 7) (i := 0) (j := 0) C dX8_plainLifts_7 rfl rfl ?_
  refine g_getI (pc := 8) C dX8_plainLifts_8 lfX8_349 (by first | rfl | assumption) rfl ?_
  refine g_iadd (pc := 11) C dX8_plainLifts_11 ?_
  refine g_iret (pc := 12) C C2 dX8_plainLifts_12 rfl (Nat.le_refl _) (Nat.le_refl _) ?_
  exact ⟨by rw [(hR3.2.1 34 (by decide) (by decide)), hnn], rfl, rfl, hR3⟩

set_option maxHeartbeats 4000000 in
set_option maxRecDepth 100000 in
theorem c_X8_leakyLifts {d : Nat} {I : pm_I} {J : pm_J} {k nn a : Int32} (hk : I 102 33 = k) (hnn : I 102 34 = nn) (haa : I 102 35 = a) {ts : List Int32} {pt : Bool} (hS : ma_S I ts pt) (hl : ts.length + 2 ≤ 30) {x : Int32} : pm_M (d + 2) 0 0 yX8_leakyLifts cX8_leakyLifts 2 (some .int) [.ref 102, .int x] SHP I J (fun r sh2 I2 J2 => r = some (.int ((x + nn) * 3)) ∧ sh2 = SHP ∧ J2 = J ∧ ma_R I (ts ++ [30, 10]) (pt) I2) := by
  refine pm_start (own := RX8) (nm := "leakyLifts") (by decide) rfl rfl (L := [(0, .ref 102), (1, .int x)]) rfl (Nat.le_of_ble_eq_true rfl) (fun Γ C C2 => ?_)
  refine g_aload_n (pc := 0) (i := 0) (j := 0) C dX8_leakyLifts_0 rfl rfl ?_
  refine g_bipush (pc := 1) (v := 30) C dX8_leakyLifts_1 (by decide) ?_
  refine g_callV (pc := 3) C dX8_leakyLifts_3 lmX8_346 kcX8_ran (by decide) (by first | rfl | assumption) (c_X8_ran hS (by omega)) rfl rfl (Nat.le_of_ble_eq_true rfl) ?_
  rintro r3 sh3 I3 J3 ⟨a3, b3, c3, hR3⟩
  try simp only [Option.toList_some, Option.toList_none, List.cons_append, List.nil_append]
  subst a3 b3
  obtain rfl := c3.symm
  try simp only [Option.toList_some, Option.toList_none, List.cons_append, List.nil_append]
  refine g_aload_n (pc := 6) (i := 0) (j := 0) C dX8_leakyLifts_6 rfl rfl ?_
  refine g_iload_n (pc := 7) (i := 1) (j := 1) C dX8_leakyLifts_7 rfl rfl ?_
  refine g_callV (pc := 8) C dX8_leakyLifts_8 lmX8_352 kcX8_plainLifts (by decide) (by first | rfl | assumption) (c_X8_plainLifts ((hR3.2.1 33 (by decide) (by decide)).trans hk) ((hR3.2.1 34 (by decide) (by decide)).trans hnn) ((hR3.2.1 35 (by decide) (by decide)).trans haa) hR3.2.2 (by clear C C2; have l2 := ac_L_len k; have l3 := ac_Sb_len k; have l4 := ac_Hb_len k nn a; simp <;> omega)) rfl rfl (Nat.le_of_ble_eq_true rfl) ?_
  rintro r8 sh8 I8 J8 ⟨a8, b8, c8, hR8⟩
  try simp only [Option.toList_some, Option.toList_none, List.cons_append, List.nil_append]
  subst a8 b8
  obtain rfl := c8.symm
  try simp only [Option.toList_some, Option.toList_none, List.cons_append, List.nil_append]
  refine g_iconst (pc := 11) (v := 3) C dX8_leakyLifts_11 (by decide) ?_
  refine g_imul (pc := 12) C dX8_leakyLifts_12 ?_
  refine g_iret (pc := 13) C C2 dX8_leakyLifts_13 rfl (Nat.le_refl _) (Nat.le_refl _) ?_
  refine ⟨rfl, rfl, rfl, ?_⟩
  have hT := hR3.tr hR8
  simpa only [List.append_assoc, List.cons_append, List.nil_append] using hT

set_option maxHeartbeats 4000000 in
set_option maxRecDepth 100000 in
theorem c_X8_liftsIt {d : Nat} {I : pm_I} {J : pm_J} {k nn a : Int32} (hk : I 102 33 = k) (hnn : I 102 34 = nn) (haa : I 102 35 = a) {ts : List Int32} {pt : Bool} (hS : ma_S I ts pt) (hl : ts.length + 3 ≤ 30) {x : Int32} : pm_M (d + 3) 0 0 yX8_liftsIt cX8_liftsIt 2 (some .int) [.ref 102, .int x] SHP I J (fun r sh2 I2 J2 => r = some (.int (ac_lv k x nn)) ∧ sh2 = SHP ∧ J2 = J ∧ ma_R I (ts ++ ac_L k) (pt) I2) := by
  refine pm_start (own := RX8) (nm := "liftsIt") (by decide) rfl rfl (L := [(0, .ref 102), (1, .int x)]) rfl (Nat.le_of_ble_eq_true rfl) (fun Γ C C2 => ?_)
  refine g_aload_n (pc := 0) (i := 0) (j := 0) C dX8_liftsIt_0 rfl rfl ?_
  refine g_getI (pc := 1) C dX8_liftsIt_1 lfX8_355 (by first | rfl | assumption) rfl ?_
  refine pm_sw (2) (fun h4_0 => ?_) (fun h4_0 => ?_)
  · refine g_tsIn (pc := 4) (tgt := 32) (2) C dX8_liftsIt_4 (by rw [h4_0]; decide) (by decide) (by decide) rfl (by decide) ?_
    refine g_aload_n (pc := 32) (i := 0) (j := 0) C dX8_liftsIt_32 rfl rfl ?_
    refine g_iload_n (pc := 33) (i := 1) (j := 1) C dX8_liftsIt_33 rfl rfl ?_
    refine g_callV (pc := 34) C dX8_liftsIt_34 lmX8_358 kcX8_leakyLifts (by decide) (by first | rfl | assumption) (c_X8_leakyLifts hk hnn haa hS (by omega)) rfl rfl (Nat.le_of_ble_eq_true rfl) ?_
    rintro r34 sh34 I34 J34 ⟨a34, b34, c34, hR34⟩
    try simp only [Option.toList_some, Option.toList_none, List.cons_append, List.nil_append]
    subst a34 b34
    obtain rfl := c34.symm
    try simp only [Option.toList_some, Option.toList_none, List.cons_append, List.nil_append]
    refine g_iret (pc := 37) C C2 dX8_liftsIt_37 rfl (Nat.le_refl _) (Nat.le_refl _) ?_
    have hT := hR34
    refine ⟨?_, rfl, rfl, ?_⟩
    · have g1 := (hT.2.1 34 (by decide) (by decide))
      clear C C2
      grind [ac_lv]
    · have e9 : ac_L k = [30, 10] := by clear C C2; grind [ac_L]
      rw [e9]
      simpa only [List.append_assoc, List.cons_append, List.nil_append] using hT
  refine pm_sw (3) (fun h4_1 => ?_) (fun h4_1 => ?_)
  · refine g_tsIn (pc := 4) (tgt := 38) (3) C dX8_liftsIt_4 (by rw [h4_1]; decide) (by decide) (by decide) rfl (by decide) ?_
    refine g_aload_n (pc := 38) (i := 0) (j := 0) C dX8_liftsIt_38 rfl rfl ?_
    refine g_bipush (pc := 39) (v := 40) C dX8_liftsIt_39 (by decide) ?_
    refine g_callV (pc := 41) C dX8_liftsIt_41 lmX8_346 kcX8_ran (by decide) (by first | rfl | assumption) (c_X8_ran hS (by omega)) rfl rfl (Nat.le_of_ble_eq_true rfl) ?_
    rintro r41 sh41 I41 J41 ⟨a41, b41, c41, hR41⟩
    try simp only [Option.toList_some, Option.toList_none, List.cons_append, List.nil_append]
    subst a41 b41
    obtain rfl := c41.symm
    try simp only [Option.toList_some, Option.toList_none, List.cons_append, List.nil_append]
    refine g_iconst (pc := 44) (v := 0) C dX8_liftsIt_44 (by decide) ?_
    refine g_aload_n (pc := 45) (i := 0) (j := 0) C dX8_liftsIt_45 rfl rfl ?_
    refine g_iload_n (pc := 46) (i := 1) (j := 1) C dX8_liftsIt_46 rfl rfl ?_
    refine g_callV (pc := 47) C dX8_liftsIt_47 lmX8_358 kcX8_leakyLifts (by decide) (by first | rfl | assumption) (c_X8_leakyLifts ((hR41.2.1 33 (by decide) (by decide)).trans hk) ((hR41.2.1 34 (by decide) (by decide)).trans hnn) ((hR41.2.1 35 (by decide) (by decide)).trans haa) hR41.2.2 (by clear C C2; have l2 := ac_L_len k; have l3 := ac_Sb_len k; have l4 := ac_Hb_len k nn a; simp <;> omega)) rfl rfl (Nat.le_of_ble_eq_true rfl) ?_
    rintro r47 sh47 I47 J47 ⟨a47, b47, c47, hR47⟩
    try simp only [Option.toList_some, Option.toList_none, List.cons_append, List.nil_append]
    subst a47 b47
    obtain rfl := c47.symm
    try simp only [Option.toList_some, Option.toList_none, List.cons_append, List.nil_append]
    refine g_isub (pc := 50) C dX8_liftsIt_50 ?_
    refine g_iret (pc := 51) C C2 dX8_liftsIt_51 rfl (Nat.le_refl _) (Nat.le_refl _) ?_
    have hT := (hR41.tr hR47)
    refine ⟨?_, rfl, rfl, ?_⟩
    · have g1 := (hT.2.1 34 (by decide) (by decide))
      clear C C2
      grind [ac_lv]
    · have e9 : ac_L k = [40, 30, 10] := by clear C C2; grind [ac_L]
      rw [e9]
      simpa only [List.append_assoc, List.cons_append, List.nil_append] using hT
  refine pm_sw (4) (fun h4_2 => ?_) (fun h4_2 => ?_)
  · refine g_tsIn (pc := 4) (tgt := 52) (4) C dX8_liftsIt_4 (by rw [h4_2]; decide) (by decide) (by decide) rfl (by decide) ?_
    refine g_aload_n (pc := 52) (i := 0) (j := 0) C dX8_liftsIt_52 rfl rfl ?_
    refine g_bipush (pc := 53) (v := 51) C dX8_liftsIt_53 (by decide) ?_
    refine g_callV (pc := 55) C dX8_liftsIt_55 lmX8_346 kcX8_ran (by decide) (by first | rfl | assumption) (c_X8_ran hS (by omega)) rfl rfl (Nat.le_of_ble_eq_true rfl) ?_
    rintro r55 sh55 I55 J55 ⟨a55, b55, c55, hR55⟩
    try simp only [Option.toList_some, Option.toList_none, List.cons_append, List.nil_append]
    subst a55 b55
    obtain rfl := c55.symm
    try simp only [Option.toList_some, Option.toList_none, List.cons_append, List.nil_append]
    refine g_aload_n (pc := 58) (i := 0) (j := 0) C dX8_liftsIt_58 rfl rfl ?_
    refine g_iload_n (pc := 59) (i := 1) (j := 1) C dX8_liftsIt_59 rfl rfl ?_
    refine g_callV (pc := 60) C dX8_liftsIt_60 lmX8_352 kcX8_plainLifts (by decide) (by first | rfl | assumption) (c_X8_plainLifts ((hR55.2.1 33 (by decide) (by decide)).trans hk) ((hR55.2.1 34 (by decide) (by decide)).trans hnn) ((hR55.2.1 35 (by decide) (by decide)).trans haa) hR55.2.2 (by clear C C2; have l2 := ac_L_len k; have l3 := ac_Sb_len k; have l4 := ac_Hb_len k nn a; simp <;> omega)) rfl rfl (Nat.le_of_ble_eq_true rfl) ?_
    rintro r60 sh60 I60 J60 ⟨a60, b60, c60, hR60⟩
    try simp only [Option.toList_some, Option.toList_none, List.cons_append, List.nil_append]
    subst a60 b60
    obtain rfl := c60.symm
    try simp only [Option.toList_some, Option.toList_none, List.cons_append, List.nil_append]
    refine g_aload_n (pc := 63) (i := 0) (j := 0) C dX8_liftsIt_63 rfl rfl ?_
    refine g_getI (pc := 64) C dX8_liftsIt_64 lfX8_349 (by first | rfl | assumption) rfl ?_
    refine g_isub (pc := 67) C dX8_liftsIt_67 ?_
    refine g_iret (pc := 68) C C2 dX8_liftsIt_68 rfl (Nat.le_refl _) (Nat.le_refl _) ?_
    have hT := (hR55.tr hR60)
    refine ⟨?_, rfl, rfl, ?_⟩
    · have g1 := (hT.2.1 34 (by decide) (by decide))
      clear C C2
      grind [ac_lv]
    · have e9 : ac_L k = [51, 10] := by clear C C2; grind [ac_L]
      rw [e9]
      simpa only [List.append_assoc, List.cons_append, List.nil_append] using hT
  refine g_tsOut (pc := 4) (tgt := 69) C dX8_liftsIt_4 (by have q0 := lv_neT (a := 2) h4_0 (by decide); have q1 := lv_neT (a := 3) h4_1 (by decide); have q2 := lv_neT (a := 4) h4_2 (by decide); omega) (by decide) ?_
  refine g_aload_n (pc := 69) (i := 0) (j := 0) C dX8_liftsIt_69 rfl rfl ?_
  refine g_iload_n (pc := 70) (i := 1) (j := 1) C dX8_liftsIt_70 rfl rfl ?_
  refine g_callV (pc := 71) C dX8_liftsIt_71 lmX8_352 kcX8_plainLifts (by decide) (by first | rfl | assumption) (c_X8_plainLifts hk hnn haa hS (by omega)) rfl rfl (Nat.le_of_ble_eq_true rfl) ?_
  rintro r71 sh71 I71 J71 ⟨a71, b71, c71, hR71⟩
  try simp only [Option.toList_some, Option.toList_none, List.cons_append, List.nil_append]
  subst a71 b71
  obtain rfl := c71.symm
  try simp only [Option.toList_some, Option.toList_none, List.cons_append, List.nil_append]
  refine g_iret (pc := 74) C C2 dX8_liftsIt_74 rfl (Nat.le_refl _) (Nat.le_refl _) ?_
  have hT := hR71
  refine ⟨?_, rfl, rfl, ?_⟩
  · have g1 := (hT.2.1 34 (by decide) (by decide))
    clear C C2
    grind [ac_lv]
  · have e9 : ac_L k = [10] := by clear C C2; grind [ac_L]
    rw [e9]
    simpa only [List.append_assoc, List.cons_append, List.nil_append] using hT

set_option maxHeartbeats 4000000 in
set_option maxRecDepth 100000 in
theorem c_X8_plainSinks {d : Nat} {I : pm_I} {J : pm_J} {k nn a : Int32} (hk : I 102 33 = k) (hnn : I 102 34 = nn) (haa : I 102 35 = a) {ts : List Int32} {pt : Bool} (hS : ma_S I ts pt) (hl : ts.length + 4 ≤ 30) {x : Int32} : pm_M (d + 4) 0 0 yX8_plainSinks cX8_plainSinks 2 (some .int) [.ref 102, .int x] SHP I J (fun r sh2 I2 J2 => r = some (.int (ac_lv k x nn * 2)) ∧ sh2 = SHP ∧ J2 = J ∧ ma_R I (ts ++ ([11] ++ ac_L k)) (pt) I2) := by
  refine pm_start (own := RX8) (nm := "plainSinks") (by decide) rfl rfl (L := [(0, .ref 102), (1, .int x)]) rfl (Nat.le_of_ble_eq_true rfl) (fun Γ C C2 => ?_)
  refine g_aload_n (pc := 0) (i := 0) (j := 0) C dX8_plainSinks_0 rfl rfl ?_
  refine g_bipush (pc := 1) (v := 11) C dX8_plainSinks_1 (by decide) ?_
  refine g_callV (pc := 3) C dX8_plainSinks_3 lmX8_346 kcX8_ran (by decide) (by first | rfl | assumption) (c_X8_ran hS (by omega)) rfl rfl (Nat.le_of_ble_eq_true rfl) ?_
  rintro r3 sh3 I3 J3 ⟨a3, b3, c3, hR3⟩
  try simp only [Option.toList_some, Option.toList_none, List.cons_append, List.nil_append]
  subst a3 b3
  obtain rfl := c3.symm
  try simp only [Option.toList_some, Option.toList_none, List.cons_append, List.nil_append]
  refine g_aload_n (pc := 6) (i := 0) (j := 0) C dX8_plainSinks_6 rfl rfl ?_
  refine g_iload_n (pc := 7) (i := 1) (j := 1) C dX8_plainSinks_7 rfl rfl ?_
  refine g_callV (pc := 8) C dX8_plainSinks_8 lmX8_361 kcX8_liftsIt (by decide) (by first | rfl | assumption) (c_X8_liftsIt ((hR3.2.1 33 (by decide) (by decide)).trans hk) ((hR3.2.1 34 (by decide) (by decide)).trans hnn) ((hR3.2.1 35 (by decide) (by decide)).trans haa) hR3.2.2 (by clear C C2; have l2 := ac_L_len k; have l3 := ac_Sb_len k; have l4 := ac_Hb_len k nn a; simp <;> omega)) rfl rfl (Nat.le_of_ble_eq_true rfl) ?_
  rintro r8 sh8 I8 J8 ⟨a8, b8, c8, hR8⟩
  try simp only [Option.toList_some, Option.toList_none, List.cons_append, List.nil_append]
  subst a8 b8
  obtain rfl := c8.symm
  try simp only [Option.toList_some, Option.toList_none, List.cons_append, List.nil_append]
  refine g_iconst (pc := 11) (v := 2) C dX8_plainSinks_11 (by decide) ?_
  refine g_imul (pc := 12) C dX8_plainSinks_12 ?_
  refine g_iret (pc := 13) C C2 dX8_plainSinks_13 rfl (Nat.le_refl _) (Nat.le_refl _) ?_
  refine ⟨rfl, rfl, rfl, ?_⟩
  have hT := hR3.tr hR8
  simpa only [List.append_assoc, List.cons_append, List.nil_append] using hT

set_option maxHeartbeats 4000000 in
set_option maxRecDepth 100000 in
theorem c_X8_sinksIt {d : Nat} {I : pm_I} {J : pm_J} {k nn a : Int32} (hk : I 102 33 = k) (hnn : I 102 34 = nn) (haa : I 102 35 = a) {ts : List Int32} {pt : Bool} (hS : ma_S I ts pt) (hl : ts.length + 8 ≤ 30) {x : Int32} : pm_M (d + 5) 0 0 yX8_sinksIt cX8_sinksIt 3 (some .int) [.ref 102, .int x] SHP I J (fun r sh2 I2 J2 => r = some (.int (ac_sv k x nn a)) ∧ sh2 = SHP ∧ J2 = J ∧ ma_R I (ts ++ ac_Sb k) (pt) I2) := by
  refine pm_start (own := RX8) (nm := "sinksIt") (by decide) rfl rfl (L := [(0, .ref 102), (1, .int x)]) rfl (Nat.le_of_ble_eq_true rfl) (fun Γ C C2 => ?_)
  refine g_aload_n (pc := 0) (i := 0) (j := 0) C dX8_sinksIt_0 rfl rfl ?_
  refine g_getI (pc := 1) C dX8_sinksIt_1 lfX8_355 (by first | rfl | assumption) rfl ?_
  refine g_iconst (pc := 4) (v := 1) C dX8_sinksIt_4 (by decide) ?_
  refine g_icmp_eq (pc := 5) (tgt := 16) C dX8_sinksIt_5 (by decide) (fun h5 => ?_) (fun h5 => ?_)
  · refine g_aload_n (pc := 16) (i := 0) (j := 0) C dX8_sinksIt_16 rfl rfl ?_
    refine g_bipush (pc := 17) (v := 20) C dX8_sinksIt_17 (by decide) ?_
    refine g_callV (pc := 19) C dX8_sinksIt_19 lmX8_346 kcX8_ran (by decide) (by first | rfl | assumption) (c_X8_ran hS (by omega)) rfl rfl (Nat.le_of_ble_eq_true rfl) ?_
    rintro r19 sh19 I19 J19 ⟨a19, b19, c19, hR19⟩
    try simp only [Option.toList_some, Option.toList_none, List.cons_append, List.nil_append]
    subst a19 b19
    obtain rfl := c19.symm
    try simp only [Option.toList_some, Option.toList_none, List.cons_append, List.nil_append]
    refine g_aload_n (pc := 22) (i := 0) (j := 0) C dX8_sinksIt_22 rfl rfl ?_
    refine g_iload_n (pc := 23) (i := 1) (j := 1) C dX8_sinksIt_23 rfl rfl ?_
    refine g_callV (pc := 24) C dX8_sinksIt_24 lmX8_364 kcX8_plainSinks (by decide) (by first | rfl | assumption) (c_X8_plainSinks ((hR19.2.1 33 (by decide) (by decide)).trans hk) ((hR19.2.1 34 (by decide) (by decide)).trans hnn) ((hR19.2.1 35 (by decide) (by decide)).trans haa) hR19.2.2 (by clear C C2; have l2 := ac_L_len k; have l3 := ac_Sb_len k; have l4 := ac_Hb_len k nn a; simp <;> omega)) rfl rfl (Nat.le_of_ble_eq_true rfl) ?_
    rintro r24 sh24 I24 J24 ⟨a24, b24, c24, hR24⟩
    try simp only [Option.toList_some, Option.toList_none, List.cons_append, List.nil_append]
    subst a24 b24
    obtain rfl := c24.symm
    try simp only [Option.toList_some, Option.toList_none, List.cons_append, List.nil_append]
    refine g_aload_n (pc := 27) (i := 0) (j := 0) C dX8_sinksIt_27 rfl rfl ?_
    refine g_getI (pc := 28) C dX8_sinksIt_28 lfX8_367 (by first | rfl | assumption) rfl ?_
    refine g_isub (pc := 31) C dX8_sinksIt_31 ?_
    refine g_iret (pc := 32) C C2 dX8_sinksIt_32 rfl (Nat.le_refl _) (Nat.le_refl _) ?_
    have hT := (hR19.tr hR24)
    refine ⟨?_, rfl, rfl, ?_⟩
    · have g1 := (hT.2.1 34 (by decide) (by decide))
      have g2 := (hT.2.1 35 (by decide) (by decide))
      have g19 := (hR19.2.1 34 (by decide) (by decide))
      have g24 := (hR24.2.1 34 (by decide) (by decide))
      clear C C2
      grind [ac_sv]
    · have e9 : ac_Sb k = [20, 11] ++ ac_L k := by clear C C2; grind [ac_Sb]
      rw [e9]
      simpa only [List.append_assoc, List.cons_append, List.nil_append] using hT
  · refine g_aload_n (pc := 8) (i := 0) (j := 0) C dX8_sinksIt_8 rfl rfl ?_
    refine g_getI (pc := 9) C dX8_sinksIt_9 lfX8_355 (by first | rfl | assumption) rfl ?_
    refine g_iconst (pc := 12) (v := 4) C dX8_sinksIt_12 (by decide) ?_
    refine g_icmp_ne (pc := 13) (tgt := 33) C dX8_sinksIt_13 (by decide) (fun h13 => ?_) (fun h13 => ?_)
    · refine g_aload_n (pc := 33) (i := 0) (j := 0) C dX8_sinksIt_33 rfl rfl ?_
      refine g_getI (pc := 34) C dX8_sinksIt_34 lfX8_355 (by first | rfl | assumption) rfl ?_
      refine g_iconst (pc := 37) (v := 3) C dX8_sinksIt_37 (by decide) ?_
      refine g_icmp_ne (pc := 38) (tgt := 64) C dX8_sinksIt_38 (by decide) (fun h38 => ?_) (fun h38 => ?_)
      · refine g_aload_n (pc := 64) (i := 0) (j := 0) C dX8_sinksIt_64 rfl rfl ?_
        refine g_iload_n (pc := 65) (i := 1) (j := 1) C dX8_sinksIt_65 rfl rfl ?_
        refine g_callV (pc := 66) C dX8_sinksIt_66 lmX8_364 kcX8_plainSinks (by decide) (by first | rfl | assumption) (c_X8_plainSinks hk hnn haa hS (by omega)) rfl rfl (Nat.le_of_ble_eq_true rfl) ?_
        rintro r66 sh66 I66 J66 ⟨a66, b66, c66, hR66⟩
        try simp only [Option.toList_some, Option.toList_none, List.cons_append, List.nil_append]
        subst a66 b66
        obtain rfl := c66.symm
        try simp only [Option.toList_some, Option.toList_none, List.cons_append, List.nil_append]
        refine g_iret (pc := 69) C C2 dX8_sinksIt_69 rfl (Nat.le_refl _) (Nat.le_refl _) ?_
        have hT := hR66
        refine ⟨?_, rfl, rfl, ?_⟩
        · have g1 := (hT.2.1 34 (by decide) (by decide))
          have g2 := (hT.2.1 35 (by decide) (by decide))
          have g66 := (hR66.2.1 34 (by decide) (by decide))
          clear C C2
          grind [ac_sv]
        · have e9 : ac_Sb k = [11] ++ ac_L k := by clear C C2; grind [ac_Sb]
          rw [e9]
          simpa only [List.append_assoc, List.cons_append, List.nil_append] using hT
      · refine g_aload_n (pc := 41) (i := 0) (j := 0) C dX8_sinksIt_41 rfl rfl ?_
        refine g_bipush (pc := 42) (v := 41) C dX8_sinksIt_42 (by decide) ?_
        refine g_callV (pc := 44) C dX8_sinksIt_44 lmX8_346 kcX8_ran (by decide) (by first | rfl | assumption) (c_X8_ran hS (by omega)) rfl rfl (Nat.le_of_ble_eq_true rfl) ?_
        rintro r44 sh44 I44 J44 ⟨a44, b44, c44, hR44⟩
        try simp only [Option.toList_some, Option.toList_none, List.cons_append, List.nil_append]
        subst a44 b44
        obtain rfl := c44.symm
        try simp only [Option.toList_some, Option.toList_none, List.cons_append, List.nil_append]
        refine g_aload_n (pc := 47) (i := 0) (j := 0) C dX8_sinksIt_47 rfl rfl ?_
        refine g_iload_n (pc := 48) (i := 1) (j := 1) C dX8_sinksIt_48 rfl rfl ?_
        refine g_callV (pc := 49) C dX8_sinksIt_49 lmX8_364 kcX8_plainSinks (by decide) (by first | rfl | assumption) (c_X8_plainSinks ((hR44.2.1 33 (by decide) (by decide)).trans hk) ((hR44.2.1 34 (by decide) (by decide)).trans hnn) ((hR44.2.1 35 (by decide) (by decide)).trans haa) hR44.2.2 (by clear C C2; have l2 := ac_L_len k; have l3 := ac_Sb_len k; have l4 := ac_Hb_len k nn a; simp <;> omega)) rfl rfl (Nat.le_of_ble_eq_true rfl) ?_
        rintro r49 sh49 I49 J49 ⟨a49, b49, c49, hR49⟩
        try simp only [Option.toList_some, Option.toList_none, List.cons_append, List.nil_append]
        subst a49 b49
        obtain rfl := c49.symm
        try simp only [Option.toList_some, Option.toList_none, List.cons_append, List.nil_append]
        refine g_istore_n (pc := 52) (i := 2) (L2 := [(0, _), (1, _), (2, _)]) C dX8_sinksIt_52 rfl (by decide) rfl ?_
        refine g_iload_n (pc := 53) (i := 2) (j := 2) C dX8_sinksIt_53 rfl rfl ?_
        refine g_aload_n (pc := 54) (i := 0) (j := 0) C dX8_sinksIt_54 rfl rfl ?_
        refine g_aload_n (pc := 55) (i := 0) (j := 0) C dX8_sinksIt_55 rfl rfl ?_
        refine g_getI (pc := 56) C dX8_sinksIt_56 lfX8_349 (by first | rfl | assumption) rfl ?_
        refine g_callV (pc := 59) C dX8_sinksIt_59 lmX8_361 kcX8_liftsIt (by decide) (by first | rfl | assumption) (c_X8_liftsIt (((hR44.tr hR49).2.1 33 (by decide) (by decide)).trans hk) (((hR44.tr hR49).2.1 34 (by decide) (by decide)).trans hnn) (((hR44.tr hR49).2.1 35 (by decide) (by decide)).trans haa) hR49.2.2 (by clear C C2; have l2 := ac_L_len k; have l3 := ac_Sb_len k; have l4 := ac_Hb_len k nn a; simp <;> omega)) rfl rfl (Nat.le_of_ble_eq_true rfl) ?_
        rintro r59 sh59 I59 J59 ⟨a59, b59, c59, hR59⟩
        try simp only [Option.toList_some, Option.toList_none, List.cons_append, List.nil_append]
        subst a59 b59
        obtain rfl := c59.symm
        try simp only [Option.toList_some, Option.toList_none, List.cons_append, List.nil_append]
        refine g_iadd (pc := 62) C dX8_sinksIt_62 ?_
        refine g_iret (pc := 63) C C2 dX8_sinksIt_63 rfl (Nat.le_refl _) (Nat.le_refl _) ?_
        have hT := ((hR44.tr hR49).tr hR59)
        refine ⟨?_, rfl, rfl, ?_⟩
        · have g1 := (hT.2.1 34 (by decide) (by decide))
          have g2 := (hT.2.1 35 (by decide) (by decide))
          have g44 := (hR44.2.1 34 (by decide) (by decide))
          have g49 := (hR49.2.1 34 (by decide) (by decide))
          have g59 := (hR59.2.1 34 (by decide) (by decide))
          clear C C2
          grind [ac_sv]
        · have e9 : ac_Sb k = [41, 11] ++ (ac_L k ++ ac_L k) := by clear C C2; grind [ac_Sb]
          rw [e9]
          simpa only [List.append_assoc, List.cons_append, List.nil_append] using hT
    · refine g_aload_n (pc := 16) (i := 0) (j := 0) C dX8_sinksIt_16 rfl rfl ?_
      refine g_bipush (pc := 17) (v := 20) C dX8_sinksIt_17 (by decide) ?_
      refine g_callV (pc := 19) C dX8_sinksIt_19 lmX8_346 kcX8_ran (by decide) (by first | rfl | assumption) (c_X8_ran hS (by omega)) rfl rfl (Nat.le_of_ble_eq_true rfl) ?_
      rintro r19 sh19 I19 J19 ⟨a19, b19, c19, hR19⟩
      try simp only [Option.toList_some, Option.toList_none, List.cons_append, List.nil_append]
      subst a19 b19
      obtain rfl := c19.symm
      try simp only [Option.toList_some, Option.toList_none, List.cons_append, List.nil_append]
      refine g_aload_n (pc := 22) (i := 0) (j := 0) C dX8_sinksIt_22 rfl rfl ?_
      refine g_iload_n (pc := 23) (i := 1) (j := 1) C dX8_sinksIt_23 rfl rfl ?_
      refine g_callV (pc := 24) C dX8_sinksIt_24 lmX8_364 kcX8_plainSinks (by decide) (by first | rfl | assumption) (c_X8_plainSinks ((hR19.2.1 33 (by decide) (by decide)).trans hk) ((hR19.2.1 34 (by decide) (by decide)).trans hnn) ((hR19.2.1 35 (by decide) (by decide)).trans haa) hR19.2.2 (by clear C C2; have l2 := ac_L_len k; have l3 := ac_Sb_len k; have l4 := ac_Hb_len k nn a; simp <;> omega)) rfl rfl (Nat.le_of_ble_eq_true rfl) ?_
      rintro r24 sh24 I24 J24 ⟨a24, b24, c24, hR24⟩
      try simp only [Option.toList_some, Option.toList_none, List.cons_append, List.nil_append]
      subst a24 b24
      obtain rfl := c24.symm
      try simp only [Option.toList_some, Option.toList_none, List.cons_append, List.nil_append]
      refine g_aload_n (pc := 27) (i := 0) (j := 0) C dX8_sinksIt_27 rfl rfl ?_
      refine g_getI (pc := 28) C dX8_sinksIt_28 lfX8_367 (by first | rfl | assumption) rfl ?_
      refine g_isub (pc := 31) C dX8_sinksIt_31 ?_
      refine g_iret (pc := 32) C C2 dX8_sinksIt_32 rfl (Nat.le_refl _) (Nat.le_refl _) ?_
      have hT := (hR19.tr hR24)
      refine ⟨?_, rfl, rfl, ?_⟩
      · have g1 := (hT.2.1 34 (by decide) (by decide))
        have g2 := (hT.2.1 35 (by decide) (by decide))
        have g19 := (hR19.2.1 34 (by decide) (by decide))
        have g24 := (hR24.2.1 34 (by decide) (by decide))
        clear C C2
        grind [ac_sv]
      · have e9 : ac_Sb k = [20, 11] ++ ac_L k := by clear C C2; grind [ac_Sb]
        rw [e9]
        simpa only [List.append_assoc, List.cons_append, List.nil_append] using hT

set_option maxHeartbeats 4000000 in
set_option maxRecDepth 100000 in
theorem c_X8_plainShares {d : Nat} {I : pm_I} {J : pm_J} {k nn a : Int32} (hk : I 102 33 = k) (hnn : I 102 34 = nn) (haa : I 102 35 = a) {ts : List Int32} (hS : ma_S I ts false) (hl : ts.length + 1 ≤ 30) {x : Int32} : pm_M (d + 1) 0 0 yX8_plainShares cX8_plainShares 2 (some .int) [.ref 102, .int x] SHP I J (fun r sh2 I2 J2 => r = some (.int (if a = nn then 0 else x / (a - nn))) ∧ sh2 = SHP ∧ J2 = J ∧ ma_R I (ts ++ [12]) (ac_pt nn a) I2) := by
  refine pm_start (own := RX8) (nm := "plainShares") (by decide) rfl rfl (L := [(0, .ref 102), (1, .int x)]) rfl (Nat.le_of_ble_eq_true rfl) (fun Γ C C2 => ?_)
  refine g_aload_n (pc := 0) (i := 0) (j := 0) C dX8_plainShares_0 rfl rfl ?_
  refine g_bipush (pc := 1) (v := 12) C dX8_plainShares_1 (by decide) ?_
  refine g_callV (pc := 3) C dX8_plainShares_3 lmX8_346 kcX8_ran (by decide) (by first | rfl | assumption) (c_X8_ran hS hl) rfl rfl (Nat.le_of_ble_eq_true rfl) ?_
  rintro r3 sh3 I3 J3 ⟨a3, b3, c3, hR3⟩
  try simp only [Option.toList_some, Option.toList_none, List.cons_append, List.nil_append]
  subst a3 b3
  obtain rfl := c3.symm
  try simp only [Option.toList_some, Option.toList_none, List.cons_append, List.nil_append]
  refine g_aload_n (pc := 6) (i := 0) (j := 0) C dX8_plainShares_6 rfl rfl ?_
  refine g_getI (pc := 7) C dX8_plainShares_7 lfX8_367 (by first | rfl | assumption) rfl ?_
  refine g_aload_n (pc := 10) (i := 0) (j := 0) C dX8_plainShares_10 rfl rfl ?_
  refine g_getI (pc := 11) C dX8_plainShares_11 lfX8_349 (by first | rfl | assumption) rfl ?_
  refine g_icmp_ne (pc := 14) (tgt := 24) C dX8_plainShares_14 (by decide) (fun h14 => ?_) (fun h14 => ?_)
  · refine g_iload_n (pc := 24) (i := 1) (j := 1) C dX8_plainShares_24 rfl rfl ?_
    refine g_aload_n (pc := 25) (i := 0) (j := 0) C dX8_plainShares_25 rfl rfl ?_
    refine g_getI (pc := 26) C dX8_plainShares_26 lfX8_367 (by first | rfl | assumption) rfl ?_
    refine g_aload_n (pc := 29) (i := 0) (j := 0) C dX8_plainShares_29 rfl rfl ?_
    refine g_getI (pc := 30) C dX8_plainShares_30 lfX8_349 (by first | rfl | assumption) rfl ?_
    refine g_isub (pc := 33) C dX8_plainShares_33 ?_
    refine g_idiv (pc := 34) C dX8_plainShares_34 (by rw [(hR3.2.1 35 (by decide) (by decide)), (hR3.2.1 34 (by decide) (by decide)), haa, hnn]; rw [(hR3.2.1 35 (by decide) (by decide)), (hR3.2.1 34 (by decide) (by decide)), haa, hnn] at h14; exact pm_sub_ne h14) ?_
    refine g_iret (pc := 35) C C2 dX8_plainShares_35 rfl (Nat.le_refl _) (Nat.le_refl _) ?_
    rw [(hR3.2.1 35 (by decide) (by decide)), (hR3.2.1 34 (by decide) (by decide)), haa, hnn] at h14
    refine ⟨by rw [if_neg h14, (hR3.2.1 35 (by decide) (by decide)), (hR3.2.1 34 (by decide) (by decide)), haa, hnn], rfl, rfl, ?_⟩
    have ep : ac_pt nn a = false := by simp [ac_pt, h14]
    rw [ep]
    exact hR3
  · refine g_aload_n (pc := 17) (i := 0) (j := 0) C dX8_plainShares_17 rfl rfl ?_
    refine g_iconst (pc := 18) (v := 1) C dX8_plainShares_18 (by decide) ?_
    refine g_putI (pc := 19) C dX8_plainShares_19 lpX8_370 (by first | rfl | exact pm_nz | assumption) rfl (by first | rfl | assumption) rfl ?_
    refine g_iconst (pc := 22) (v := 0) C dX8_plainShares_22 (by decide) ?_
    refine g_iret (pc := 23) C C2 dX8_plainShares_23 rfl (Nat.le_refl _) (Nat.le_refl _) ?_
    rw [(hR3.2.1 35 (by decide) (by decide)), (hR3.2.1 34 (by decide) (by decide)), haa, hnn] at h14
    refine ⟨by rw [if_pos h14], rfl, rfl, ?_⟩
    obtain ⟨q1, q2, s1, s2, s3, s4⟩ := hR3
    have ep : ac_pt nn a = true := by simp [ac_pt, h14]
    rw [ep]
    refine ⟨fun z h1 h2 => by rw [pm_u_off h1]; exact q1 z h1 h2, fun p p1 p2 => by rw [pm_u_at, pk_un p2]; exact q2 p p1 p2, by rw [pm_u_at, pk_un (by decide)]; exact s1, s2, fun z hz => by rw [pm_u_off (by decide)]; exact s3 z hz, by rw [pm_u_at, pk_us]; rfl⟩

set_option maxHeartbeats 4000000 in
set_option maxRecDepth 100000 in
theorem c_X8_sharesIt {d : Nat} {I : pm_I} {J : pm_J} {k nn a : Int32} (hk : I 102 33 = k) (hnn : I 102 34 = nn) (haa : I 102 35 = a) {ts : List Int32} (hS : ma_S I ts false) (hl : ts.length + 5 ≤ 30) {x : Int32} : pm_M (d + 4) 0 0 yX8_sharesIt cX8_sharesIt 3 (some .int) [.ref 102, .int x] SHP I J (fun r sh2 I2 J2 => ∃ v, r = some (.int v) ∧ (¬ a = nn → v = ac_hv k x nn a) ∧ sh2 = SHP ∧ J2 = J ∧ ma_R I (ts ++ ac_Hb k nn a) (ac_pt nn a) I2) := by
  refine pm_start (own := RX8) (nm := "sharesIt") (by decide) rfl rfl (L := [(0, .ref 102), (1, .int x)]) rfl (Nat.le_of_ble_eq_true rfl) (fun Γ C C2 => ?_)
  refine g_aload_n (pc := 0) (i := 0) (j := 0) C dX8_sharesIt_0 rfl rfl ?_
  refine g_getI (pc := 1) C dX8_sharesIt_1 lfX8_355 (by first | rfl | assumption) rfl ?_
  refine g_iconst (pc := 4) (v := 4) C dX8_sharesIt_4 (by decide) ?_
  refine g_icmp_ne (pc := 5) (tgt := 24) C dX8_sharesIt_5 (by decide) (fun h5 => ?_) (fun h5 => ?_)
  · refine g_aload_n (pc := 24) (i := 0) (j := 0) C dX8_sharesIt_24 rfl rfl ?_
    refine g_getI (pc := 25) C dX8_sharesIt_25 lfX8_355 (by first | rfl | assumption) rfl ?_
    refine g_iconst (pc := 28) (v := 5) C dX8_sharesIt_28 (by decide) ?_
    refine g_icmp_ne (pc := 29) (tgt := 66) C dX8_sharesIt_29 (by decide) (fun h29 => ?_) (fun h29 => ?_)
    · refine g_aload_n (pc := 66) (i := 0) (j := 0) C dX8_sharesIt_66 rfl rfl ?_
      refine g_iload_n (pc := 67) (i := 1) (j := 1) C dX8_sharesIt_67 rfl rfl ?_
      refine g_callV (pc := 68) C dX8_sharesIt_68 lmX8_373 kcX8_plainShares (by decide) (by first | rfl | assumption) (c_X8_plainShares hk hnn haa hS (by omega)) rfl rfl (Nat.le_of_ble_eq_true rfl) ?_
      rintro r68 sh68 I68 J68 ⟨a68, b68, c68, hR68⟩
      try simp only [Option.toList_some, Option.toList_none, List.cons_append, List.nil_append]
      subst a68 b68
      obtain rfl := c68.symm
      try simp only [Option.toList_some, Option.toList_none, List.cons_append, List.nil_append]
      refine g_iret (pc := 71) C C2 dX8_sharesIt_71 rfl (Nat.le_refl _) (Nat.le_refl _) ?_
      have hT := hR68
      refine ⟨_, rfl, fun hne => ?_, rfl, rfl, ?_⟩
      · clear C C2
        rw [if_neg hne]
        grind [ac_hv]
      · have e9 : ac_Hb k nn a = [12] := by clear C C2; grind [ac_Hb]
        rw [e9]
        exact hT
    · refine g_aload_n (pc := 32) (i := 0) (j := 0) C dX8_sharesIt_32 rfl rfl ?_
      refine g_bipush (pc := 33) (v := 61) C dX8_sharesIt_33 (by decide) ?_
      refine g_callV (pc := 35) C dX8_sharesIt_35 lmX8_346 kcX8_ran (by decide) (by first | rfl | assumption) (c_X8_ran hS (by omega)) rfl rfl (Nat.le_of_ble_eq_true rfl) ?_
      rintro r35 sh35 I35 J35 ⟨a35, b35, c35, hR35⟩
      try simp only [Option.toList_some, Option.toList_none, List.cons_append, List.nil_append]
      subst a35 b35
      obtain rfl := c35.symm
      try simp only [Option.toList_some, Option.toList_none, List.cons_append, List.nil_append]
      refine g_aload_n (pc := 38) (i := 0) (j := 0) C dX8_sharesIt_38 rfl rfl ?_
      refine g_iload_n (pc := 39) (i := 1) (j := 1) C dX8_sharesIt_39 rfl rfl ?_
      refine g_callV (pc := 40) C dX8_sharesIt_40 lmX8_373 kcX8_plainShares (by decide) (by first | rfl | assumption) (c_X8_plainShares ((hR35.2.1 33 (by decide) (by decide)).trans hk) ((hR35.2.1 34 (by decide) (by decide)).trans hnn) ((hR35.2.1 35 (by decide) (by decide)).trans haa) hR35.2.2 (by clear C C2; have l2 := ac_L_len k; have l3 := ac_Sb_len k; have l4 := ac_Hb_len k nn a; simp <;> omega)) rfl rfl (Nat.le_of_ble_eq_true rfl) ?_
      rintro r40 sh40 I40 J40 ⟨a40, b40, c40, hR40⟩
      try simp only [Option.toList_some, Option.toList_none, List.cons_append, List.nil_append]
      subst a40 b40
      obtain rfl := c40.symm
      try simp only [Option.toList_some, Option.toList_none, List.cons_append, List.nil_append]
      refine g_istore_n (pc := 43) (i := 2) (L2 := [(0, _), (1, _), (2, _)]) C dX8_sharesIt_43 rfl (by decide) rfl ?_
      refine g_aload_n (pc := 44) (i := 0) (j := 0) C dX8_sharesIt_44 rfl rfl ?_
      refine g_getI (pc := 45) C dX8_sharesIt_45 lfX8_370 (by first | rfl | assumption) rfl ?_
      refine g_if_eq (pc := 48) (tgt := 55) C dX8_sharesIt_48 (by decide) (fun h48 => ?_) (fun h48 => ?_)
      · refine g_iload_n (pc := 55) (i := 2) (j := 2) C dX8_sharesIt_55 rfl rfl ?_
        refine g_aload_n (pc := 56) (i := 0) (j := 0) C dX8_sharesIt_56 rfl rfl ?_
        refine g_aload_n (pc := 57) (i := 0) (j := 0) C dX8_sharesIt_57 rfl rfl ?_
        refine g_getI (pc := 58) C dX8_sharesIt_58 lfX8_367 (by first | rfl | assumption) rfl ?_
        refine g_callV (pc := 61) C dX8_sharesIt_61 lmX8_361 kcX8_liftsIt (by decide) (by first | rfl | assumption) (c_X8_liftsIt (((hR35.tr hR40).2.1 33 (by decide) (by decide)).trans hk) (((hR35.tr hR40).2.1 34 (by decide) (by decide)).trans hnn) (((hR35.tr hR40).2.1 35 (by decide) (by decide)).trans haa) hR40.2.2 (by clear C C2; have l2 := ac_L_len k; have l3 := ac_Sb_len k; have l4 := ac_Hb_len k nn a; simp <;> omega)) rfl rfl (Nat.le_of_ble_eq_true rfl) ?_
        rintro r61 sh61 I61 J61 ⟨a61, b61, c61, hR61⟩
        try simp only [Option.toList_some, Option.toList_none, List.cons_append, List.nil_append]
        subst a61 b61
        obtain rfl := c61.symm
        try simp only [Option.toList_some, Option.toList_none, List.cons_append, List.nil_append]
        refine g_iadd (pc := 64) C dX8_sharesIt_64 ?_
        refine g_iret (pc := 65) C C2 dX8_sharesIt_65 rfl (Nat.le_refl _) (Nat.le_refl _) ?_
        have s48 := hR40.2.2.2.2.2
        first | (have ea : a = nn := (by rw [s48] at h48; simpa [ac_pt] using h48); have hT := hR35.tr hR40; refine ⟨_, rfl, fun hne => absurd ea hne, rfl, rfl, ?_⟩; rw [show ac_Hb k nn a = [61, 12] by clear C C2; grind [ac_Hb]]; simpa only [List.append_assoc, List.cons_append, List.nil_append] using hT) | (have hne : ¬ a = nn := (by rw [s48] at h48; simpa [ac_pt] using h48); have hT := (hR35.tr hR40).tr hR61; refine ⟨_, rfl, fun _ => ?_, rfl, rfl, ?_⟩; (have g1 := ((hR35.tr hR40).2.1 34 (by decide) (by decide)); have g2 := ((hR35.tr hR40).2.1 35 (by decide) (by decide)); clear C C2; rw [if_neg hne]; grind [ac_hv]); rw [show ac_Hb k nn a = [61, 12] ++ ac_L k by clear C C2; grind [ac_Hb]]; simpa only [List.append_assoc, List.cons_append, List.nil_append] using hT)
      · refine g_iconst (pc := 51) (v := 0) C dX8_sharesIt_51 (by decide) ?_
        refine g_goto (pc := 52) (tgt := 65) C dX8_sharesIt_52 (by decide) ?_
        refine g_iret (pc := 65) C C2 dX8_sharesIt_65 rfl (Nat.le_refl _) (Nat.le_refl _) ?_
        have s48 := hR40.2.2.2.2.2
        first | (have ea : a = nn := (by rw [s48] at h48; simpa [ac_pt] using h48); have hT := hR35.tr hR40; refine ⟨_, rfl, fun hne => absurd ea hne, rfl, rfl, ?_⟩; rw [show ac_Hb k nn a = [61, 12] by clear C C2; grind [ac_Hb]]; simpa only [List.append_assoc, List.cons_append, List.nil_append] using hT) | (have hne : ¬ a = nn := (by rw [s48] at h48; simpa [ac_pt] using h48); have hT := (hR35.tr hR40).tr hR61; refine ⟨_, rfl, fun _ => ?_, rfl, rfl, ?_⟩; (have g1 := ((hR35.tr hR40).2.1 34 (by decide) (by decide)); have g2 := ((hR35.tr hR40).2.1 35 (by decide) (by decide)); clear C C2; rw [if_neg hne]; grind [ac_hv]); rw [show ac_Hb k nn a = [61, 12] ++ ac_L k by clear C C2; grind [ac_Hb]]; simpa only [List.append_assoc, List.cons_append, List.nil_append] using hT)
  · refine g_aload_n (pc := 8) (i := 0) (j := 0) C dX8_sharesIt_8 rfl rfl ?_
    refine g_bipush (pc := 9) (v := 50) C dX8_sharesIt_9 (by decide) ?_
    refine g_callV (pc := 11) C dX8_sharesIt_11 lmX8_346 kcX8_ran (by decide) (by first | rfl | assumption) (c_X8_ran hS (by omega)) rfl rfl (Nat.le_of_ble_eq_true rfl) ?_
    rintro r11 sh11 I11 J11 ⟨a11, b11, c11, hR11⟩
    try simp only [Option.toList_some, Option.toList_none, List.cons_append, List.nil_append]
    subst a11 b11
    obtain rfl := c11.symm
    try simp only [Option.toList_some, Option.toList_none, List.cons_append, List.nil_append]
    refine g_aload_n (pc := 14) (i := 0) (j := 0) C dX8_sharesIt_14 rfl rfl ?_
    refine g_iload_n (pc := 15) (i := 1) (j := 1) C dX8_sharesIt_15 rfl rfl ?_
    refine g_iconst (pc := 16) (v := 2) C dX8_sharesIt_16 (by decide) ?_
    refine g_iadd (pc := 17) C dX8_sharesIt_17 ?_
    refine g_callV (pc := 18) C dX8_sharesIt_18 lmX8_373 kcX8_plainShares (by decide) (by first | rfl | assumption) (c_X8_plainShares ((hR11.2.1 33 (by decide) (by decide)).trans hk) ((hR11.2.1 34 (by decide) (by decide)).trans hnn) ((hR11.2.1 35 (by decide) (by decide)).trans haa) hR11.2.2 (by clear C C2; have l2 := ac_L_len k; have l3 := ac_Sb_len k; have l4 := ac_Hb_len k nn a; simp <;> omega)) rfl rfl (Nat.le_of_ble_eq_true rfl) ?_
    rintro r18 sh18 I18 J18 ⟨a18, b18, c18, hR18⟩
    try simp only [Option.toList_some, Option.toList_none, List.cons_append, List.nil_append]
    subst a18 b18
    obtain rfl := c18.symm
    try simp only [Option.toList_some, Option.toList_none, List.cons_append, List.nil_append]
    refine g_iconst (pc := 21) (v := 1) C dX8_sharesIt_21 (by decide) ?_
    refine g_ixor (pc := 22) C dX8_sharesIt_22 ?_
    refine g_iret (pc := 23) C C2 dX8_sharesIt_23 rfl (Nat.le_refl _) (Nat.le_refl _) ?_
    have hT := (hR11.tr hR18)
    refine ⟨_, rfl, fun hne => ?_, rfl, rfl, ?_⟩
    · clear C C2
      rw [if_neg hne]
      grind [ac_hv]
    · have e9 : ac_Hb k nn a = [50, 12] := by clear C C2; grind [ac_Hb]
      rw [e9]
      simpa only [List.append_assoc, List.cons_append, List.nil_append] using hT

set_option maxHeartbeats 4000000 in
set_option maxRecDepth 100000 in
theorem c_X8_plainTells {d : Nat} {I : pm_I} {J : pm_J} {k nn a : Int32} (hk : I 102 33 = k) (hnn : I 102 34 = nn) (haa : I 102 35 = a) {ts : List Int32} {pt : Bool} (hS : ma_S I ts pt) (hl : ts.length + 9 ≤ 30) {x : Int32} : pm_M (d + 6) 0 0 yX8_plainTells cX8_plainTells 2 (some .int) [.ref 102, .int x] SHP I J (fun r sh2 I2 J2 => r = some (.int (ac_sv k x nn a ^^^ a)) ∧ sh2 = SHP ∧ J2 = J ∧ ma_R I (ts ++ ([13] ++ ac_Sb k)) (pt) I2) := by
  refine pm_start (own := RX8) (nm := "plainTells") (by decide) rfl rfl (L := [(0, .ref 102), (1, .int x)]) rfl (Nat.le_of_ble_eq_true rfl) (fun Γ C C2 => ?_)
  refine g_aload_n (pc := 0) (i := 0) (j := 0) C dX8_plainTells_0 rfl rfl ?_
  refine g_bipush (pc := 1) (v := 13) C dX8_plainTells_1 (by decide) ?_
  refine g_callV (pc := 3) C dX8_plainTells_3 lmX8_346 kcX8_ran (by decide) (by first | rfl | assumption) (c_X8_ran hS (by omega)) rfl rfl (Nat.le_of_ble_eq_true rfl) ?_
  rintro r3 sh3 I3 J3 ⟨a3, b3, c3, hR3⟩
  try simp only [Option.toList_some, Option.toList_none, List.cons_append, List.nil_append]
  subst a3 b3
  obtain rfl := c3.symm
  try simp only [Option.toList_some, Option.toList_none, List.cons_append, List.nil_append]
  refine g_aload_n (pc := 6) (i := 0) (j := 0) C dX8_plainTells_6 rfl rfl ?_
  refine g_iload_n (pc := 7) (i := 1) (j := 1) C dX8_plainTells_7 rfl rfl ?_
  refine g_callV (pc := 8) C dX8_plainTells_8 lmX8_376 kcX8_sinksIt (by decide) (by first | rfl | assumption) (c_X8_sinksIt ((hR3.2.1 33 (by decide) (by decide)).trans hk) ((hR3.2.1 34 (by decide) (by decide)).trans hnn) ((hR3.2.1 35 (by decide) (by decide)).trans haa) hR3.2.2 (by clear C C2; have l2 := ac_L_len k; have l3 := ac_Sb_len k; have l4 := ac_Hb_len k nn a; simp <;> omega)) rfl rfl (Nat.le_of_ble_eq_true rfl) ?_
  rintro r8 sh8 I8 J8 ⟨a8, b8, c8, hR8⟩
  try simp only [Option.toList_some, Option.toList_none, List.cons_append, List.nil_append]
  subst a8 b8
  obtain rfl := c8.symm
  try simp only [Option.toList_some, Option.toList_none, List.cons_append, List.nil_append]
  refine g_aload_n (pc := 11) (i := 0) (j := 0) C dX8_plainTells_11 rfl rfl ?_
  refine g_getI (pc := 12) C dX8_plainTells_12 lfX8_367 (by first | rfl | assumption) rfl ?_
  refine g_ixor (pc := 15) C dX8_plainTells_15 ?_
  refine g_iret (pc := 16) C C2 dX8_plainTells_16 rfl (Nat.le_refl _) (Nat.le_refl _) ?_
  have hT := hR3.tr hR8
  refine ⟨by rw [(hT.2.1 35 (by decide) (by decide)), haa], rfl, rfl, ?_⟩
  simpa only [List.append_assoc, List.cons_append, List.nil_append] using hT

set_option maxHeartbeats 4000000 in
set_option maxRecDepth 100000 in
theorem c_X8_tellsIt {d : Nat} {I : pm_I} {J : pm_J} {k nn a : Int32} (hk : I 102 33 = k) (hnn : I 102 34 = nn) (haa : I 102 35 = a) {ts : List Int32} (hS : ma_S I ts false) (hl : ts.length + 15 ≤ 30) {x : Int32} : pm_M (d + 7) 0 0 yX8_tellsIt cX8_tellsIt 3 (some .int) [.ref 102, .int x] SHP I J (fun r sh2 I2 J2 => ∃ v, r = some (.int v) ∧ (ac_tp k nn a = false → v = ac_tv k x nn a) ∧ sh2 = SHP ∧ J2 = J ∧ ma_R I (ts ++ ac_Tb k nn a) (ac_tp k nn a) I2) := by
  refine pm_start (own := RX8) (nm := "tellsIt") (by decide) rfl rfl (L := [(0, .ref 102), (1, .int x)]) rfl (Nat.le_of_ble_eq_true rfl) (fun Γ C C2 => ?_)
  refine g_aload_n (pc := 0) (i := 0) (j := 0) C dX8_tellsIt_0 rfl rfl ?_
  refine g_getI (pc := 1) C dX8_tellsIt_1 lfX8_355 (by first | rfl | assumption) rfl ?_
  refine g_iconst (pc := 4) (v := 2) C dX8_tellsIt_4 (by decide) ?_
  refine g_icmp_eq (pc := 5) (tgt := 16) C dX8_tellsIt_5 (by decide) (fun h5 => ?_) (fun h5 => ?_)
  · refine g_aload_n (pc := 16) (i := 0) (j := 0) C dX8_tellsIt_16 rfl rfl ?_
    refine g_bipush (pc := 17) (v := 31) C dX8_tellsIt_17 (by decide) ?_
    refine g_callV (pc := 19) C dX8_tellsIt_19 lmX8_346 kcX8_ran (by decide) (by first | rfl | assumption) (c_X8_ran hS (by omega)) rfl rfl (Nat.le_of_ble_eq_true rfl) ?_
    rintro r19 sh19 I19 J19 ⟨a19, b19, c19, hR19⟩
    try simp only [Option.toList_some, Option.toList_none, List.cons_append, List.nil_append]
    subst a19 b19
    obtain rfl := c19.symm
    try simp only [Option.toList_some, Option.toList_none, List.cons_append, List.nil_append]
    refine g_aload_n (pc := 22) (i := 0) (j := 0) C dX8_tellsIt_22 rfl rfl ?_
    refine g_iload_n (pc := 23) (i := 1) (j := 1) C dX8_tellsIt_23 rfl rfl ?_
    refine g_callV (pc := 24) C dX8_tellsIt_24 lmX8_379 kcX8_plainTells (by decide) (by first | rfl | assumption) (c_X8_plainTells ((hR19.2.1 33 (by decide) (by decide)).trans hk) ((hR19.2.1 34 (by decide) (by decide)).trans hnn) ((hR19.2.1 35 (by decide) (by decide)).trans haa) hR19.2.2 (by clear C C2; have l2 := ac_L_len k; have l3 := ac_Sb_len k; have l4 := ac_Hb_len k nn a; simp <;> omega)) rfl rfl (Nat.le_of_ble_eq_true rfl) ?_
    rintro r24 sh24 I24 J24 ⟨a24, b24, c24, hR24⟩
    try simp only [Option.toList_some, Option.toList_none, List.cons_append, List.nil_append]
    subst a24 b24
    obtain rfl := c24.symm
    try simp only [Option.toList_some, Option.toList_none, List.cons_append, List.nil_append]
    refine g_istore_n (pc := 27) (i := 2) (L2 := [(0, _), (1, _), (2, _)]) C dX8_tellsIt_27 rfl (by decide) rfl ?_
    refine g_iload_n (pc := 28) (i := 2) (j := 2) C dX8_tellsIt_28 rfl rfl ?_
    refine g_aload_n (pc := 29) (i := 0) (j := 0) C dX8_tellsIt_29 rfl rfl ?_
    refine g_aload_n (pc := 30) (i := 0) (j := 0) C dX8_tellsIt_30 rfl rfl ?_
    refine g_getI (pc := 31) C dX8_tellsIt_31 lfX8_349 (by first | rfl | assumption) rfl ?_
    refine g_callV (pc := 34) C dX8_tellsIt_34 lmX8_382 kcX8_sharesIt (by decide) (by first | rfl | assumption) (c_X8_sharesIt (((hR19.tr hR24).2.1 33 (by decide) (by decide)).trans hk) (((hR19.tr hR24).2.1 34 (by decide) (by decide)).trans hnn) (((hR19.tr hR24).2.1 35 (by decide) (by decide)).trans haa) hR24.2.2 (by clear C C2; have l2 := ac_L_len k; have l3 := ac_Sb_len k; have l4 := ac_Hb_len k nn a; simp <;> omega)) rfl rfl (Nat.le_of_ble_eq_true rfl) ?_
    rintro r34 sh34 I34 J34 ⟨v34, a34, w34, b34, c34, hR34⟩
    try simp only [Option.toList_some, Option.toList_none, List.cons_append, List.nil_append]
    subst a34 b34
    obtain rfl := c34.symm
    try simp only [Option.toList_some, Option.toList_none, List.cons_append, List.nil_append]
    refine g_iadd (pc := 37) C dX8_tellsIt_37 ?_
    refine g_iret (pc := 38) C C2 dX8_tellsIt_38 rfl (Nat.le_refl _) (Nat.le_refl _) ?_
    have hT := ((hR19.tr hR24).tr hR34)
    have ep : ac_tp k nn a = ac_pt nn a := by clear C C2; grind [ac_tp]
    have e9 : ac_Tb k nn a = [31, 13] ++ (ac_Sb k ++ ac_Hb k nn a) := by clear C C2; grind [ac_Tb]
    refine ⟨_, rfl, fun hne => ?_, rfl, rfl, ?_⟩
    · have w0 : ¬ a = nn := by rw [ep] at hne; simpa [ac_pt] using hne
      have w1 := w34 w0
      have w2 : I24 102 34 = nn := ((hR19.tr hR24).2.1 34 (by decide) (by decide)).trans hnn
      rw [w2] at w1
      clear C C2
      grind [ac_tv]
    · rw [e9, ep]
      simpa only [List.append_assoc, List.cons_append, List.nil_append] using hT
  · refine g_aload_n (pc := 8) (i := 0) (j := 0) C dX8_tellsIt_8 rfl rfl ?_
    refine g_getI (pc := 9) C dX8_tellsIt_9 lfX8_355 (by first | rfl | assumption) rfl ?_
    refine g_iconst (pc := 12) (v := 3) C dX8_tellsIt_12 (by decide) ?_
    refine g_icmp_ne (pc := 13) (tgt := 39) C dX8_tellsIt_13 (by decide) (fun h13 => ?_) (fun h13 => ?_)
    · refine g_aload_n (pc := 39) (i := 0) (j := 0) C dX8_tellsIt_39 rfl rfl ?_
      refine g_getI (pc := 40) C dX8_tellsIt_40 lfX8_355 (by first | rfl | assumption) rfl ?_
      refine g_iconst (pc := 43) (v := 5) C dX8_tellsIt_43 (by decide) ?_
      refine g_icmp_ne (pc := 44) (tgt := 61) C dX8_tellsIt_44 (by decide) (fun h44 => ?_) (fun h44 => ?_)
      · refine g_aload_n (pc := 61) (i := 0) (j := 0) C dX8_tellsIt_61 rfl rfl ?_
        refine g_iload_n (pc := 62) (i := 1) (j := 1) C dX8_tellsIt_62 rfl rfl ?_
        refine g_callV (pc := 63) C dX8_tellsIt_63 lmX8_379 kcX8_plainTells (by decide) (by first | rfl | assumption) (c_X8_plainTells hk hnn haa hS (by omega)) rfl rfl (Nat.le_of_ble_eq_true rfl) ?_
        rintro r63 sh63 I63 J63 ⟨a63, b63, c63, hR63⟩
        try simp only [Option.toList_some, Option.toList_none, List.cons_append, List.nil_append]
        subst a63 b63
        obtain rfl := c63.symm
        try simp only [Option.toList_some, Option.toList_none, List.cons_append, List.nil_append]
        refine g_iret (pc := 66) C C2 dX8_tellsIt_66 rfl (Nat.le_refl _) (Nat.le_refl _) ?_
        have hT := hR63
        have ep : ac_tp k nn a = false := by clear C C2; grind [ac_tp]
        have e9 : ac_Tb k nn a = [13] ++ ac_Sb k := by clear C C2; grind [ac_Tb]
        refine ⟨_, rfl, fun hne => ?_, rfl, rfl, ?_⟩
        · clear C C2
          grind [ac_tv]
        · rw [e9, ep]
          simpa only [List.append_assoc, List.cons_append, List.nil_append] using hT
      · refine g_aload_n (pc := 47) (i := 0) (j := 0) C dX8_tellsIt_47 rfl rfl ?_
        refine g_bipush (pc := 48) (v := 60) C dX8_tellsIt_48 (by decide) ?_
        refine g_callV (pc := 50) C dX8_tellsIt_50 lmX8_346 kcX8_ran (by decide) (by first | rfl | assumption) (c_X8_ran hS (by omega)) rfl rfl (Nat.le_of_ble_eq_true rfl) ?_
        rintro r50 sh50 I50 J50 ⟨a50, b50, c50, hR50⟩
        try simp only [Option.toList_some, Option.toList_none, List.cons_append, List.nil_append]
        subst a50 b50
        obtain rfl := c50.symm
        try simp only [Option.toList_some, Option.toList_none, List.cons_append, List.nil_append]
        refine g_aload_n (pc := 53) (i := 0) (j := 0) C dX8_tellsIt_53 rfl rfl ?_
        refine g_iload_n (pc := 54) (i := 1) (j := 1) C dX8_tellsIt_54 rfl rfl ?_
        refine g_callV (pc := 55) C dX8_tellsIt_55 lmX8_379 kcX8_plainTells (by decide) (by first | rfl | assumption) (c_X8_plainTells ((hR50.2.1 33 (by decide) (by decide)).trans hk) ((hR50.2.1 34 (by decide) (by decide)).trans hnn) ((hR50.2.1 35 (by decide) (by decide)).trans haa) hR50.2.2 (by clear C C2; have l2 := ac_L_len k; have l3 := ac_Sb_len k; have l4 := ac_Hb_len k nn a; simp <;> omega)) rfl rfl (Nat.le_of_ble_eq_true rfl) ?_
        rintro r55 sh55 I55 J55 ⟨a55, b55, c55, hR55⟩
        try simp only [Option.toList_some, Option.toList_none, List.cons_append, List.nil_append]
        subst a55 b55
        obtain rfl := c55.symm
        try simp only [Option.toList_some, Option.toList_none, List.cons_append, List.nil_append]
        refine g_iconst (pc := 58) (v := 2) C dX8_tellsIt_58 (by decide) ?_
        refine g_imul (pc := 59) C dX8_tellsIt_59 ?_
        refine g_iret (pc := 60) C C2 dX8_tellsIt_60 rfl (Nat.le_refl _) (Nat.le_refl _) ?_
        have hT := (hR50.tr hR55)
        have ep : ac_tp k nn a = false := by clear C C2; grind [ac_tp]
        have e9 : ac_Tb k nn a = [60, 13] ++ ac_Sb k := by clear C C2; grind [ac_Tb]
        refine ⟨_, rfl, fun hne => ?_, rfl, rfl, ?_⟩
        · clear C C2
          grind [ac_tv]
        · rw [e9, ep]
          simpa only [List.append_assoc, List.cons_append, List.nil_append] using hT
    · refine g_aload_n (pc := 16) (i := 0) (j := 0) C dX8_tellsIt_16 rfl rfl ?_
      refine g_bipush (pc := 17) (v := 31) C dX8_tellsIt_17 (by decide) ?_
      refine g_callV (pc := 19) C dX8_tellsIt_19 lmX8_346 kcX8_ran (by decide) (by first | rfl | assumption) (c_X8_ran hS (by omega)) rfl rfl (Nat.le_of_ble_eq_true rfl) ?_
      rintro r19 sh19 I19 J19 ⟨a19, b19, c19, hR19⟩
      try simp only [Option.toList_some, Option.toList_none, List.cons_append, List.nil_append]
      subst a19 b19
      obtain rfl := c19.symm
      try simp only [Option.toList_some, Option.toList_none, List.cons_append, List.nil_append]
      refine g_aload_n (pc := 22) (i := 0) (j := 0) C dX8_tellsIt_22 rfl rfl ?_
      refine g_iload_n (pc := 23) (i := 1) (j := 1) C dX8_tellsIt_23 rfl rfl ?_
      refine g_callV (pc := 24) C dX8_tellsIt_24 lmX8_379 kcX8_plainTells (by decide) (by first | rfl | assumption) (c_X8_plainTells ((hR19.2.1 33 (by decide) (by decide)).trans hk) ((hR19.2.1 34 (by decide) (by decide)).trans hnn) ((hR19.2.1 35 (by decide) (by decide)).trans haa) hR19.2.2 (by clear C C2; have l2 := ac_L_len k; have l3 := ac_Sb_len k; have l4 := ac_Hb_len k nn a; simp <;> omega)) rfl rfl (Nat.le_of_ble_eq_true rfl) ?_
      rintro r24 sh24 I24 J24 ⟨a24, b24, c24, hR24⟩
      try simp only [Option.toList_some, Option.toList_none, List.cons_append, List.nil_append]
      subst a24 b24
      obtain rfl := c24.symm
      try simp only [Option.toList_some, Option.toList_none, List.cons_append, List.nil_append]
      refine g_istore_n (pc := 27) (i := 2) (L2 := [(0, _), (1, _), (2, _)]) C dX8_tellsIt_27 rfl (by decide) rfl ?_
      refine g_iload_n (pc := 28) (i := 2) (j := 2) C dX8_tellsIt_28 rfl rfl ?_
      refine g_aload_n (pc := 29) (i := 0) (j := 0) C dX8_tellsIt_29 rfl rfl ?_
      refine g_aload_n (pc := 30) (i := 0) (j := 0) C dX8_tellsIt_30 rfl rfl ?_
      refine g_getI (pc := 31) C dX8_tellsIt_31 lfX8_349 (by first | rfl | assumption) rfl ?_
      refine g_callV (pc := 34) C dX8_tellsIt_34 lmX8_382 kcX8_sharesIt (by decide) (by first | rfl | assumption) (c_X8_sharesIt (((hR19.tr hR24).2.1 33 (by decide) (by decide)).trans hk) (((hR19.tr hR24).2.1 34 (by decide) (by decide)).trans hnn) (((hR19.tr hR24).2.1 35 (by decide) (by decide)).trans haa) hR24.2.2 (by clear C C2; have l2 := ac_L_len k; have l3 := ac_Sb_len k; have l4 := ac_Hb_len k nn a; simp <;> omega)) rfl rfl (Nat.le_of_ble_eq_true rfl) ?_
      rintro r34 sh34 I34 J34 ⟨v34, a34, w34, b34, c34, hR34⟩
      try simp only [Option.toList_some, Option.toList_none, List.cons_append, List.nil_append]
      subst a34 b34
      obtain rfl := c34.symm
      try simp only [Option.toList_some, Option.toList_none, List.cons_append, List.nil_append]
      refine g_iadd (pc := 37) C dX8_tellsIt_37 ?_
      refine g_iret (pc := 38) C C2 dX8_tellsIt_38 rfl (Nat.le_refl _) (Nat.le_refl _) ?_
      have hT := ((hR19.tr hR24).tr hR34)
      have ep : ac_tp k nn a = ac_pt nn a := by clear C C2; grind [ac_tp]
      have e9 : ac_Tb k nn a = [31, 13] ++ (ac_Sb k ++ ac_Hb k nn a) := by clear C C2; grind [ac_Tb]
      refine ⟨_, rfl, fun hne => ?_, rfl, rfl, ?_⟩
      · have w0 : ¬ a = nn := by rw [ep] at hne; simpa [ac_pt] using hne
        have w1 := w34 w0
        have w2 : I24 102 34 = nn := ((hR19.tr hR24).2.1 34 (by decide) (by decide)).trans hnn
        rw [w2] at w1
        clear C C2
        grind [ac_tv]
      · rw [e9, ep]
        simpa only [List.append_assoc, List.cons_append, List.nil_append] using hT
