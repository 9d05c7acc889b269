/-! Acts: bodies begun, answers -/
def ac_S (I : pm_I) (ts : List Int32) (pt : Bool) : Prop := I 88 1 = nI ts.length ∧ ts.length ≤ 30 ∧ (∀ k, k < ts.length → I 89 k = ts.getD k 0) ∧ I 88 2 = if pt then 1 else 0
def ac_R (I : pm_I) (ts : List Int32) (pt : Bool) (I2 : pm_I) : Prop := (∀ a, a ≠ 88 → a ≠ 89 → I2 a = I a) ∧ (I2 88 3 = I 88 3 ∧ I2 88 4 = I 88 4 ∧ I2 88 5 = I 88 5) ∧ ac_S I2 ts pt
theorem ac_R.tr {I I2 I3 : pm_I} {ts ts2 : List Int32} {pt pt2 : Bool} (h : ac_R I ts pt I2) (h2 : ac_R I2 ts2 pt2 I3) : ac_R I ts2 pt2 I3 :=
  ⟨fun a h1 h3 => (h2.1 a h1 h3).trans (h.1 a h1 h3), ⟨h2.2.1.1.trans h.2.1.1, h2.2.1.2.1.trans h.2.1.2.1, h2.2.1.2.2.trans h.2.1.2.2⟩, h2.2.2⟩
def ac_add (ts : List Int32) (pt : Bool) (l : List Int32) : List Int32 := if pt then ts else ts ++ l
theorem ac_add_add (ts : List Int32) (pt : Bool) (l l2 : List Int32) : ac_add (ac_add ts pt l) pt l2 = ac_add ts pt (l ++ l2) := by
  cases pt
  · simp [ac_add]
  · rfl
theorem ac_add_len (ts : List Int32) (pt : Bool) (l : List Int32) : (ac_add ts pt l).length ≤ ts.length + l.length := by
  cases pt
  · simp [ac_add]
  · simp [ac_add]
theorem ac_put {I : pm_I} {ts : List Int32} {x : Int32} (h : ac_S I ts false) (hl : ts.length < 30) : ac_R I (ts ++ [x]) false (pm_u (pm_u I 89 ts.length x) 88 1 (nI (ts.length + 1))) := by
  obtain ⟨h1, h2, h3, h4⟩ := h
  refine ⟨fun a ha hb => by rw [pm_u_off ha, pm_u_off hb], ⟨?_, ?_, ?_⟩, ?_, ?_, fun k hk => ?_, ?_⟩
  · rw [pm_u_at, pk_un (by decide), pm_u_off (by decide)]
  · rw [pm_u_at, pk_un (by decide), pm_u_off (by decide)]
  · rw [pm_u_at, pk_un (by decide), pm_u_off (by decide)]
  · rw [pm_u_at, pk_us, List.length_append]
    rfl
  · rw [List.length_append]
    simp
    omega
  · rw [pm_u_off (by decide), pm_u_at]
    rw [List.length_append] at hk
    have hk2 : k < ts.length + 1 := hk
    by_cases e : k = ts.length
    · subst e
      rw [pk_us]
      simp [List.getD]
    · rw [pk_un e, h3 k (by omega)]
      simp only [List.getD_eq_getElem?_getD]
      rw [List.getElem?_append_left (by omega)]
  · rw [pm_u_at, pk_un (by decide), pm_u_off (by decide)]
    exact h4
def ac_L (k : Int32) : List Int32 := if k = 2 then [30, 10] else if k = 3 then [40, 30, 10] else if k = 4 then [51, 10] else [10]
def ac_lv (k x n : Int32) : Int32 := if k = 2 then (x + n) * 3 else if k = 3 then 0 - (x + n) * 3 else if k = 4 then (x + n) - n else x + n
def ac_Sb (k : Int32) : List Int32 := if k = 1 ∨ k = 4 then [20, 11] ++ ac_L k else if k = 3 then [41, 11] ++ (ac_L k ++ ac_L k) else [11] ++ ac_L k
def ac_sv (k x n a : Int32) : Int32 := if k = 1 ∨ k = 4 then ac_lv k x n * 2 - a else if k = 3 then ac_lv k x n * 2 + ac_lv k n n else ac_lv k x n * 2
/-- whether it is parted by 0 -/
def ac_pt (n a : Int32) : Bool := decide (a = n)
def ac_Hb (k n a : Int32) : List Int32 := if k = 4 then [50, 12] else if k = 5 then [61, 12] ++ (if a = n then [] else ac_L k) else [12]
def ac_hv (k x n a : Int32) : Int32 := if k = 4 then (x + 2) / (a - n) ^^^ 1 else if k = 5 then x / (a - n) + ac_lv k a n else x / (a - n)
theorem ac_L_len (k : Int32) : (ac_L k).length ≤ 3 := by unfold ac_L; (repeat' split) <;> decide
theorem ac_Sb_len (k : Int32) : (ac_Sb k).length ≤ 8 := by
  have := ac_L_len k
  unfold ac_Sb
  (repeat' split) <;> simp <;> omega
theorem ac_Hb_len (k n a : Int32) : (ac_Hb k n a).length ≤ 5 := by
  have := ac_L_len k
  unfold ac_Hb
  (repeat' split) <;> simp <;> omega
theorem pm_sub_ne {a n : Int32} (h : ¬ a = n) : ¬ a - n = 0 := by
  intro q
  apply h
  have e : a - n + n = 0 + n := by rw [q]
  rw [Int32.sub_add_cancel, Int32.zero_add] at e
  exact e
set_option maxHeartbeats 4000000 in
set_option maxRecDepth 100000 in
theorem c_X0_begin0 {d : Nat} {I : pm_I} {J : pm_J} {x : Int32} {ts : List Int32} (hS : ac_S I ts true) : pm_M d 0 0 yX0_begin cX0_begin 2 (none : Option Jvm.ClassFile.FieldType) [.ref 88, .int x] SHP I J (fun r sh2 I2 J2 => r = none ∧ sh2 = SHP ∧ J2 = J ∧ ac_R I (ts) (true) I2) := by
  refine pm_start (own := RX0) (nm := "begin") (by decide) rfl rfl (L := [(0, .ref 88), (1, .int x)]) rfl (Nat.le_of_ble_eq_true rfl) (fun Γ C C2 => ?_)
  refine g_aload_n (pc := 0) (i := 0) (j := 0) C dX0_begin_0 rfl rfl ?_
  refine g_getI (pc := 1) C dX0_begin_1 lfX0_19 (by first | rfl | assumption) rfl ?_
  refine g_if_ne (pc := 4) (tgt := 36) C dX0_begin_4 (by decide) (fun h4 => ?_) (fun h4 => ?_)
  · refine g_vret (pc := 36) C C2 dX0_begin_36 (Nat.le_refl _) (Nat.le_refl _) ?_
    exact ⟨rfl, rfl, rfl, fun _ _ _ => rfl, ⟨rfl, rfl, rfl⟩, hS⟩
  · exact absurd (hS.2.2.2.symm.trans h4) (by decide)

set_option maxHeartbeats 4000000 in
set_option maxRecDepth 100000 in
theorem c_X0_begin1 {d : Nat} {I : pm_I} {J : pm_J} {x : Int32} {ts : List Int32} (hS : ac_S I ts false) (hl : ts.length < 30) : pm_M d 0 0 yX0_begin cX0_begin 2 (none : Option Jvm.ClassFile.FieldType) [.ref 88, .int x] SHP I J (fun r sh2 I2 J2 => r = none ∧ sh2 = SHP ∧ J2 = J ∧ ac_R I (ts ++ [x]) (false) I2) := by
  refine pm_start (own := RX0) (nm := "begin") (by decide) rfl rfl (L := [(0, .ref 88), (1, .int x)]) rfl (Nat.le_of_ble_eq_true rfl) (fun Γ C C2 => ?_)
  refine g_aload_n (pc := 0) (i := 0) (j := 0) C dX0_begin_0 rfl rfl ?_
  refine g_getI (pc := 1) C dX0_begin_1 lfX0_19 (by first | rfl | assumption) rfl ?_
  refine g_if_ne (pc := 4) (tgt := 36) C dX0_begin_4 (by decide) (fun h4 => absurd hS.2.2.2 h4) (fun h4 => ?_)
  refine g_aload_n (pc := 7) (i := 0) (j := 0) C dX0_begin_7 rfl rfl ?_
  refine g_getI (pc := 8) C dX0_begin_8 lfX0_15 (by first | rfl | assumption) rfl ?_
  refine g_bipush (pc := 11) (v := 30) C dX0_begin_11 (by decide) ?_
  refine g_icmp_ge (pc := 13) (tgt := 36) C dX0_begin_13 (by decide) (fun h13 => absurd h13 (by rw [hS.1]; exact nI_ge hl (by decide))) (fun h13 => ?_)
  refine g_aload_n (pc := 16) (i := 0) (j := 0) C dX0_begin_16 rfl rfl ?_
  refine g_getR (pc := 17) C dX0_begin_17 lfX0_9 (by first | rfl | assumption) rfl ?_
  refine g_aload_n (pc := 20) (i := 0) (j := 0) C dX0_begin_20 rfl rfl ?_
  refine g_getI (pc := 21) C dX0_begin_21 lfX0_15 (by first | rfl | assumption) rfl ?_
  refine g_iload_n (pc := 24) (i := 1) (j := 1) C dX0_begin_24 rfl rfl ?_
  refine g_iast (pc := 25) (j := ts.length) C dX0_begin_25 (by first | rfl | assumption) (by decide) hS.1 hl ?_
  refine g_aload_n (pc := 26) (i := 0) (j := 0) C dX0_begin_26 rfl rfl ?_
  refine g_dup (pc := 27) C dX0_begin_27 rfl ?_
  refine g_getI (pc := 28) C dX0_begin_28 lfX0_15 (by first | rfl | assumption) rfl ?_
  refine g_iconst (pc := 31) (v := 1) C dX0_begin_31 (by decide) ?_
  refine g_iadd (pc := 32) C dX0_begin_32 ?_
  refine g_putI (pc := 33) C dX0_begin_33 lpX0_15 rfl rfl (by first | rfl | assumption) rfl ?_
  refine g_vret (pc := 36) C C2 dX0_begin_36 (Nat.le_refl _) (Nat.le_refl _) ?_
  refine ⟨rfl, rfl, rfl, ?_⟩
  rw [show pm_u I 89 ts.length x 88 = I 88 from pm_u_off (by decide), hS.1, nI_1]
  exact ac_put hS hl

theorem c_X0_begin {d : Nat} {I : pm_I} {J : pm_J} {x : Int32} {ts : List Int32} {pt : Bool} (hS : ac_S I ts pt) (hl : ts.length < 30) : pm_M d 0 0 yX0_begin cX0_begin 2 none [.ref 88, .int x] SHP I J (fun r sh2 I2 J2 => r = none ∧ sh2 = SHP ∧ J2 = J ∧ ac_R I (ac_add ts pt [x]) pt I2) := by
  cases pt
  · exact c_X0_begin1 hS hl
  · exact c_X0_begin0 hS

set_option maxHeartbeats 4000000 in
set_option maxRecDepth 100000 in
theorem c_X0_lifts {d : Nat} {I : pm_I} {J : pm_J} {k nn a : Int32} (hk : I 88 3 = k) (hnn : I 88 4 = nn) (haa : I 88 5 = a) {ts : List Int32} {pt : Bool} (hS : ac_S I ts pt) (hl : ts.length + 3 ≤ 30) {x : Int32} : pm_M (d + 1) 0 0 yX0_lifts cX0_lifts 2 (some .int) [.ref 88, .int x] SHP I J (fun r sh2 I2 J2 => r = some (.int (ac_lv k x nn)) ∧ sh2 = SHP ∧ J2 = J ∧ ac_R I (ac_add ts pt (ac_L k)) (pt) I2) := by
  refine pm_start (own := RX0) (nm := "lifts") (by decide) rfl rfl (L := [(0, .ref 88), (1, .int x)]) rfl (Nat.le_of_ble_eq_true rfl) (fun Γ C C2 => ?_)
  refine g_aload_n (pc := 0) (i := 0) (j := 0) C dX0_lifts_0 rfl rfl ?_
  refine g_getI (pc := 1) C dX0_lifts_1 lfX0_23 (by first | rfl | assumption) rfl ?_
  refine pm_sw (2) (fun h4_0 => ?_) (fun h4_0 => ?_)
  · refine g_tsIn (pc := 4) (tgt := 32) (2) C dX0_lifts_4 (by rw [h4_0]; decide) (by decide) (by decide) rfl (by decide) ?_
    refine g_aload_n (pc := 32) (i := 0) (j := 0) C dX0_lifts_32 rfl rfl ?_
    refine g_bipush (pc := 33) (v := 30) C dX0_lifts_33 (by decide) ?_
    refine g_callV (pc := 35) C dX0_lifts_35 lmX0_50 kcX0_begin (by decide) (by first | rfl | assumption) (c_X0_begin hS (by omega)) rfl rfl (Nat.le_of_ble_eq_true rfl) ?_
    rintro r35 sh35 I35 J35 ⟨a35, b35, c35, hR35⟩
    try simp only [Option.toList_some, Option.toList_none, List.cons_append, List.nil_append]
    subst a35 b35
    obtain rfl := c35.symm
    try simp only [Option.toList_some, Option.toList_none, List.cons_append, List.nil_append]
    refine g_aload_n (pc := 38) (i := 0) (j := 0) C dX0_lifts_38 rfl rfl ?_
    refine g_bipush (pc := 39) (v := 10) C dX0_lifts_39 (by decide) ?_
    refine g_callV (pc := 41) C dX0_lifts_41 lmX0_50 kcX0_begin (by decide) (by first | rfl | assumption) (c_X0_begin hR35.2.2 (by clear C C2; have l2 := ac_L_len k; have l3 := ac_Sb_len k; have l4 := ac_Hb_len k nn a; (try simp only [ac_add]); (try cases pt) <;> simp <;> omega)) rfl rfl (Nat.le_of_ble_eq_true rfl) ?_
    rintro r41 sh41 I41 J41 ⟨a41, b41, c41, hR41⟩
    try simp only [Option.toList_some, Option.toList_none, List.cons_append, List.nil_append]
    subst a41 b41
    obtain rfl := c41.symm
    try simp only [Option.toList_some, Option.toList_none, List.cons_append, List.nil_append]
    refine g_iload_n (pc := 44) (i := 1) (j := 1) C dX0_lifts_44 rfl rfl ?_
    refine g_aload_n (pc := 45) (i := 0) (j := 0) C dX0_lifts_45 rfl rfl ?_
    refine g_getI (pc := 46) C dX0_lifts_46 lfX0_26 (by first | rfl | assumption) rfl ?_
    refine g_iadd (pc := 49) C dX0_lifts_49 ?_
    refine g_iconst (pc := 50) (v := 3) C dX0_lifts_50 (by decide) ?_
    refine g_imul (pc := 51) C dX0_lifts_51 ?_
    refine g_iret (pc := 52) C C2 dX0_lifts_52 rfl (Nat.le_refl _) (Nat.le_refl _) ?_
    have hT := (hR35.tr hR41)
    refine ⟨?_, rfl, rfl, ?_⟩
    · have g1 := hT.2.1.2.1
      clear C C2
      grind [ac_lv]
    · have e9 : ac_L k = [30, 10] := by clear C C2; grind [ac_L]
      rw [e9]
      simpa only [ac_add_add, List.cons_append, List.nil_append] using hT
  refine pm_sw (3) (fun h4_1 => ?_) (fun h4_1 => ?_)
  · refine g_tsIn (pc := 4) (tgt := 53) (3) C dX0_lifts_4 (by rw [h4_1]; decide) (by decide) (by decide) rfl (by decide) ?_
    refine g_aload_n (pc := 53) (i := 0) (j := 0) C dX0_lifts_53 rfl rfl ?_
    refine g_bipush (pc := 54) (v := 40) C dX0_lifts_54 (by decide) ?_
    refine g_callV (pc := 56) C dX0_lifts_56 lmX0_50 kcX0_begin (by decide) (by first | rfl | assumption) (c_X0_begin hS (by omega)) rfl rfl (Nat.le_of_ble_eq_true rfl) ?_
    rintro r56 sh56 I56 J56 ⟨a56, b56, c56, hR56⟩
    try simp only [Option.toList_some, Option.toList_none, List.cons_append, List.nil_append]
    subst a56 b56
    obtain rfl := c56.symm
    try simp only [Option.toList_some, Option.toList_none, List.cons_append, List.nil_append]
    refine g_aload_n (pc := 59) (i := 0) (j := 0) C dX0_lifts_59 rfl rfl ?_
    refine g_bipush (pc := 60) (v := 30) C dX0_lifts_60 (by decide) ?_
    refine g_callV (pc := 62) C dX0_lifts_62 lmX0_50 kcX0_begin (by decide) (by first | rfl | assumption) (c_X0_begin hR56.2.2 (by clear C C2; have l2 := ac_L_len k; have l3 := ac_Sb_len k; have l4 := ac_Hb_len k nn a; (try simp only [ac_add]); (try cases pt) <;> simp <;> omega)) rfl rfl (Nat.le_of_ble_eq_true rfl) ?_
    rintro r62 sh62 I62 J62 ⟨a62, b62, c62, hR62⟩
    try simp only [Option.toList_some, Option.toList_none, List.cons_append, List.nil_append]
    subst a62 b62
    obtain rfl := c62.symm
    try simp only [Option.toList_some, Option.toList_none, List.cons_append, List.nil_append]
    refine g_aload_n (pc := 65) (i := 0) (j := 0) C dX0_lifts_65 rfl rfl ?_
    refine g_bipush (pc := 66) (v := 10) C dX0_lifts_66 (by decide) ?_
    refine g_callV (pc := 68) C dX0_lifts_68 lmX0_50 kcX0_begin (by decide) (by first | rfl | assumption) (c_X0_begin hR62.2.2 (by clear C C2; have l2 := ac_L_len k; have l3 := ac_Sb_len k; have l4 := ac_Hb_len k nn a; (try simp only [ac_add]); (try cases pt) <;> simp <;> omega)) rfl rfl (Nat.le_of_ble_eq_true rfl) ?_
    rintro r68 sh68 I68 J68 ⟨a68, b68, c68, hR68⟩
    try simp only [Option.toList_some, Option.toList_none, List.cons_append, List.nil_append]
    subst a68 b68
    obtain rfl := c68.symm
    try simp only [Option.toList_some, Option.toList_none, List.cons_append, List.nil_append]
    refine g_iconst (pc := 71) (v := 0) C dX0_lifts_71 (by decide) ?_
    refine g_iload_n (pc := 72) (i := 1) (j := 1) C dX0_lifts_72 rfl rfl ?_
    refine g_aload_n (pc := 73) (i := 0) (j := 0) C dX0_lifts_73 rfl rfl ?_
    refine g_getI (pc := 74) C dX0_lifts_74 lfX0_26 (by first | rfl | assumption) rfl ?_
    refine g_iadd (pc := 77) C dX0_lifts_77 ?_
    refine g_iconst (pc := 78) (v := 3) C dX0_lifts_78 (by decide) ?_
    refine g_imul (pc := 79) C dX0_lifts_79 ?_
    refine g_isub (pc := 80) C dX0_lifts_80 ?_
    refine g_iret (pc := 81) C C2 dX0_lifts_81 rfl (Nat.le_refl _) (Nat.le_refl _) ?_
    have hT := ((hR56.tr hR62).tr hR68)
    refine ⟨?_, rfl, rfl, ?_⟩
    · have g1 := hT.2.1.2.1
      clear C C2
      grind [ac_lv]
    · have e9 : ac_L k = [40, 30, 10] := by clear C C2; grind [ac_L]
      rw [e9]
      simpa only [ac_add_add, List.cons_append, List.nil_append] using hT
  refine pm_sw (4) (fun h4_2 => ?_) (fun h4_2 => ?_)
  · refine g_tsIn (pc := 4) (tgt := 82) (4) C dX0_lifts_4 (by rw [h4_2]; decide) (by decide) (by decide) rfl (by decide) ?_
    refine g_aload_n (pc := 82) (i := 0) (j := 0) C dX0_lifts_82 rfl rfl ?_
    refine g_bipush (pc := 83) (v := 51) C dX0_lifts_83 (by decide) ?_
    refine g_callV (pc := 85) C dX0_lifts_85 lmX0_50 kcX0_begin (by decide) (by first | rfl | assumption) (c_X0_begin hS (by omega)) rfl rfl (Nat.le_of_ble_eq_true rfl) ?_
    rintro r85 sh85 I85 J85 ⟨a85, b85, c85, hR85⟩
    try simp only [Option.toList_some, Option.toList_none, List.cons_append, List.nil_append]
    subst a85 b85
    obtain rfl := c85.symm
    try simp only [Option.toList_some, Option.toList_none, List.cons_append, List.nil_append]
    refine g_aload_n (pc := 88) (i := 0) (j := 0) C dX0_lifts_88 rfl rfl ?_
    refine g_bipush (pc := 89) (v := 10) C dX0_lifts_89 (by decide) ?_
    refine g_callV (pc := 91) C dX0_lifts_91 lmX0_50 kcX0_begin (by decide) (by first | rfl | assumption) (c_X0_begin hR85.2.2 (by clear C C2; have l2 := ac_L_len k; have l3 := ac_Sb_len k; have l4 := ac_Hb_len k nn a; (try simp only [ac_add]); (try cases pt) <;> simp <;> omega)) rfl rfl (Nat.le_of_ble_eq_true rfl) ?_
    rintro r91 sh91 I91 J91 ⟨a91, b91, c91, hR91⟩
    try simp only [Option.toList_some, Option.toList_none, List.cons_append, List.nil_append]
    subst a91 b91
    obtain rfl := c91.symm
    try simp only [Option.toList_some, Option.toList_none, List.cons_append, List.nil_append]
    refine g_iload_n (pc := 94) (i := 1) (j := 1) C dX0_lifts_94 rfl rfl ?_
    refine g_aload_n (pc := 95) (i := 0) (j := 0) C dX0_lifts_95 rfl rfl ?_
    refine g_getI (pc := 96) C dX0_lifts_96 lfX0_26 (by first | rfl | assumption) rfl ?_
    refine g_iadd (pc := 99) C dX0_lifts_99 ?_
    refine g_aload_n (pc := 100) (i := 0) (j := 0) C dX0_lifts_100 rfl rfl ?_
    refine g_getI (pc := 101) C dX0_lifts_101 lfX0_26 (by first | rfl | assumption) rfl ?_
    refine g_isub (pc := 104) C dX0_lifts_104 ?_
    refine g_iret (pc := 105) C C2 dX0_lifts_105 rfl (Nat.le_refl _) (Nat.le_refl _) ?_
    have hT := (hR85.tr hR91)
    refine ⟨?_, rfl, rfl, ?_⟩
    · have g1 := hT.2.1.2.1
      clear C C2
      grind [ac_lv]
    · have e9 : ac_L k = [51, 10] := by clear C C2; grind [ac_L]
      rw [e9]
      simpa only [ac_add_add, List.cons_append, List.nil_append] using hT
  refine g_tsOut (pc := 4) (tgt := 106) C dX0_lifts_4 (by have q0 := lv_neT (a := 2) h4_0 (by decide); have q1 := lv_neT (a := 3) h4_1 (by decide); have q2 := lv_neT (a := 4) h4_2 (by decide); omega) (by decide) ?_
  refine g_aload_n (pc := 106) (i := 0) (j := 0) C dX0_lifts_106 rfl rfl ?_
  refine g_bipush (pc := 107) (v := 10) C dX0_lifts_107 (by decide) ?_
  refine g_callV (pc := 109) C dX0_lifts_109 lmX0_50 kcX0_begin (by decide) (by first | rfl | assumption) (c_X0_begin hS (by omega)) rfl rfl (Nat.le_of_ble_eq_true rfl) ?_
  rintro r109 sh109 I109 J109 ⟨a109, b109, c109, hR109⟩
  try simp only [Option.toList_some, Option.toList_none, List.cons_append, List.nil_append]
  subst a109 b109
  obtain rfl := c109.symm
  try simp only [Option.toList_some, Option.toList_none, List.cons_append, List.nil_append]
  refine g_iload_n (pc := 112) (i := 1) (j := 1) C dX0_lifts_112 rfl rfl ?_
  refine g_aload_n (pc := 113) (i := 0) (j := 0) C dX0_lifts_113 rfl rfl ?_
  refine g_getI (pc := 114) C dX0_lifts_114 lfX0_26 (by first | rfl | assumption) rfl ?_
  refine g_iadd (pc := 117) C dX0_lifts_117 ?_
  refine g_iret (pc := 118) C C2 dX0_lifts_118 rfl (Nat.le_refl _) (Nat.le_refl _) ?_
  have hT := hR109
  refine ⟨?_, rfl, rfl, ?_⟩
  · have g1 := hT.2.1.2.1
    clear C C2
    grind [ac_lv]
  · have e9 : ac_L k = [10] := by clear C C2; grind [ac_L]
    rw [e9]
    simpa only [ac_add_add, List.cons_append, List.nil_append] using hT

set_option maxHeartbeats 4000000 in
set_option maxRecDepth 100000 in
theorem c_X0_sinks {d : Nat} {I : pm_I} {J : pm_J} {k nn a : Int32} (hk : I 88 3 = k) (hnn : I 88 4 = nn) (haa : I 88 5 = a) {ts : List Int32} {pt : Bool} (hS : ac_S I ts pt) (hl : ts.length + 8 ≤ 30) {x : Int32} : pm_M (d + 2) 0 0 yX0_sinks cX0_sinks 2 (some .int) [.ref 88, .int x] SHP I J (fun r sh2 I2 J2 => r = some (.int (ac_sv k x nn a)) ∧ sh2 = SHP ∧ J2 = J ∧ ac_R I (ac_add ts pt (ac_Sb k)) (pt) I2) := by
  refine pm_start (own := RX0) (nm := "sinks") (by decide) rfl rfl (L := [(0, .ref 88), (1, .int x)]) rfl (Nat.le_of_ble_eq_true rfl) (fun Γ C C2 => ?_)
  refine g_aload_n (pc := 0) (i := 0) (j := 0) C dX0_sinks_0 rfl rfl ?_
  refine g_getI (pc := 1) C dX0_sinks_1 lfX0_23 (by first | rfl | assumption) rfl ?_
  refine pm_sw (1) (fun h4_0 => ?_) (fun h4_0 => ?_)
  · refine g_tsIn (pc := 4) (tgt := 36) (1) C dX0_sinks_4 (by rw [h4_0]; decide) (by decide) (by decide) rfl (by decide) ?_
    refine g_aload_n (pc := 36) (i := 0) (j := 0) C dX0_sinks_36 rfl rfl ?_
    refine g_bipush (pc := 37) (v := 20) C dX0_sinks_37 (by decide) ?_
    refine g_callV (pc := 39) C dX0_sinks_39 lmX0_50 kcX0_begin (by decide) (by first | rfl | assumption) (c_X0_begin hS (by clear C C2; have l2 := ac_L_len k; have l3 := ac_Sb_len k; have l4 := ac_Hb_len k nn a; (try simp only [ac_add]); (try cases pt) <;> simp <;> omega)) rfl rfl (Nat.le_of_ble_eq_true rfl) ?_
    rintro r39 sh39 I39 J39 ⟨a39, b39, c39, hR39⟩
    try simp only [Option.toList_some, Option.toList_none, List.cons_append, List.nil_append]
    subst a39 b39
    obtain rfl := c39.symm
    try simp only [Option.toList_some, Option.toList_none, List.cons_append, List.nil_append]
    refine g_aload_n (pc := 42) (i := 0) (j := 0) C dX0_sinks_42 rfl rfl ?_
    refine g_bipush (pc := 43) (v := 11) C dX0_sinks_43 (by decide) ?_
    refine g_callV (pc := 45) C dX0_sinks_45 lmX0_50 kcX0_begin (by decide) (by first | rfl | assumption) (c_X0_begin hR39.2.2 (by clear C C2; have l2 := ac_L_len k; have l3 := ac_Sb_len k; have l4 := ac_Hb_len k nn a; (try simp only [ac_add]); (try cases pt) <;> simp <;> omega)) rfl rfl (Nat.le_of_ble_eq_true rfl) ?_
    rintro r45 sh45 I45 J45 ⟨a45, b45, c45, hR45⟩
    try simp only [Option.toList_some, Option.toList_none, List.cons_append, List.nil_append]
    subst a45 b45
    obtain rfl := c45.symm
    try simp only [Option.toList_some, Option.toList_none, List.cons_append, List.nil_append]
    refine g_aload_n (pc := 48) (i := 0) (j := 0) C dX0_sinks_48 rfl rfl ?_
    refine g_iload_n (pc := 49) (i := 1) (j := 1) C dX0_sinks_49 rfl rfl ?_
    refine g_callV (pc := 50) C dX0_sinks_50 lmX0_37 kcX0_lifts (by decide) (by first | rfl | assumption) (c_X0_lifts ((hR39.tr hR45).2.1.1.trans hk) ((hR39.tr hR45).2.1.2.1.trans hnn) ((hR39.tr hR45).2.1.2.2.trans haa) (hR39.tr hR45).2.2 (by clear C C2; have l2 := ac_L_len k; have l3 := ac_Sb_len k; have l4 := ac_Hb_len k nn a; (try simp only [ac_add]); (try cases pt) <;> simp <;> omega)) rfl rfl (Nat.le_of_ble_eq_true rfl) ?_
    rintro r50 sh50 I50 J50 ⟨a50, b50, c50, hR50⟩
    try simp only [Option.toList_some, Option.toList_none, List.cons_append, List.nil_append]
    subst a50 b50
    obtain rfl := c50.symm
    try simp only [Option.toList_some, Option.toList_none, List.cons_append, List.nil_append]
    refine g_iconst (pc := 53) (v := 2) C dX0_sinks_53 (by decide) ?_
    refine g_imul (pc := 54) C dX0_sinks_54 ?_
    refine g_aload_n (pc := 55) (i := 0) (j := 0) C dX0_sinks_55 rfl rfl ?_
    refine g_getI (pc := 56) C dX0_sinks_56 lfX0_29 (by first | rfl | assumption) rfl ?_
    refine g_isub (pc := 59) C dX0_sinks_59 ?_
    refine g_iret (pc := 60) C C2 dX0_sinks_60 rfl (Nat.le_refl _) (Nat.le_refl _) ?_
    have hT := ((hR39.tr hR45).tr hR50)
    refine ⟨?_, rfl, rfl, ?_⟩
    · have g1 := hT.2.1.2.1
      have g2 := hT.2.1.2.2
      have g39 := hR39.2.1
      have g45 := hR45.2.1
      have g50 := hR50.2.1
      clear C C2
      grind [ac_sv]
    · have e9 : ac_Sb k = [20, 11] ++ ac_L k := by clear C C2; grind [ac_Sb]
      rw [e9]
      simpa only [ac_add_add, List.cons_append, List.nil_append, List.append_assoc] using hT
  refine pm_sw (2) (fun h4_1 => ?_) (fun h4_1 => ?_)
  · refine g_tsIn (pc := 4) (tgt := 90) (2) C dX0_sinks_4 (by rw [h4_1]; decide) (by decide) (by decide) rfl (by decide) ?_
    refine g_aload_n (pc := 90) (i := 0) (j := 0) C dX0_sinks_90 rfl rfl ?_
    refine g_bipush (pc := 91) (v := 11) C dX0_sinks_91 (by decide) ?_
    refine g_callV (pc := 93) C dX0_sinks_93 lmX0_50 kcX0_begin (by decide) (by first | rfl | assumption) (c_X0_begin hS (by clear C C2; have l2 := ac_L_len k; have l3 := ac_Sb_len k; have l4 := ac_Hb_len k nn a; (try simp only [ac_add]); (try cases pt) <;> simp <;> omega)) rfl rfl (Nat.le_of_ble_eq_true rfl) ?_
    rintro r93 sh93 I93 J93 ⟨a93, b93, c93, hR93⟩
    try simp only [Option.toList_some, Option.toList_none, List.cons_append, List.nil_append]
    subst a93 b93
    obtain rfl := c93.symm
    try simp only [Option.toList_some, Option.toList_none, List.cons_append, List.nil_append]
    refine g_aload_n (pc := 96) (i := 0) (j := 0) C dX0_sinks_96 rfl rfl ?_
    refine g_iload_n (pc := 97) (i := 1) (j := 1) C dX0_sinks_97 rfl rfl ?_
    refine g_callV (pc := 98) C dX0_sinks_98 lmX0_37 kcX0_lifts (by decide) (by first | rfl | assumption) (c_X0_lifts (hR93.2.1.1.trans hk) (hR93.2.1.2.1.trans hnn) (hR93.2.1.2.2.trans haa) hR93.2.2 (by clear C C2; have l2 := ac_L_len k; have l3 := ac_Sb_len k; have l4 := ac_Hb_len k nn a; (try simp only [ac_add]); (try cases pt) <;> simp <;> omega)) rfl rfl (Nat.le_of_ble_eq_true rfl) ?_
    rintro r98 sh98 I98 J98 ⟨a98, b98, c98, hR98⟩
    try simp only [Option.toList_some, Option.toList_none, List.cons_append, List.nil_append]
    subst a98 b98
    obtain rfl := c98.symm
    try simp only [Option.toList_some, Option.toList_none, List.cons_append, List.nil_append]
    refine g_iconst (pc := 101) (v := 2) C dX0_sinks_101 (by decide) ?_
    refine g_imul (pc := 102) C dX0_sinks_102 ?_
    refine g_iret (pc := 103) C C2 dX0_sinks_103 rfl (Nat.le_refl _) (Nat.le_refl _) ?_
    have hT := (hR93.tr hR98)
    refine ⟨?_, rfl, rfl, ?_⟩
    · have g1 := hT.2.1.2.1
      have g2 := hT.2.1.2.2
      have g93 := hR93.2.1
      have g98 := hR98.2.1
      clear C C2
      grind [ac_sv]
    · have e9 : ac_Sb k = [11] ++ ac_L k := by clear C C2; grind [ac_Sb]
      rw [e9]
      simpa only [ac_add_add, List.cons_append, List.nil_append, List.append_assoc] using hT
  refine pm_sw (3) (fun h4_2 => ?_) (fun h4_2 => ?_)
  · refine g_tsIn (pc := 4) (tgt := 61) (3) C dX0_sinks_4 (by rw [h4_2]; decide) (by decide) (by decide) rfl (by decide) ?_
    refine g_aload_n (pc := 61) (i := 0) (j := 0) C dX0_sinks_61 rfl rfl ?_
    refine g_bipush (pc := 62) (v := 41) C dX0_sinks_62 (by decide) ?_
    refine g_callV (pc := 64) C dX0_sinks_64 lmX0_50 kcX0_begin (by decide) (by first | rfl | assumption) (c_X0_begin hS (by clear C C2; have l2 := ac_L_len k; have l3 := ac_Sb_len k; have l4 := ac_Hb_len k nn a; (try simp only [ac_add]); (try cases pt) <;> simp <;> omega)) rfl rfl (Nat.le_of_ble_eq_true rfl) ?_
    rintro r64 sh64 I64 J64 ⟨a64, b64, c64, hR64⟩
    try simp only [Option.toList_some, Option.toList_none, List.cons_append, List.nil_append]
    subst a64 b64
    obtain rfl := c64.symm
    try simp only [Option.toList_some, Option.toList_none, List.cons_append, List.nil_append]
    refine g_aload_n (pc := 67) (i := 0) (j := 0) C dX0_sinks_67 rfl rfl ?_
    refine g_bipush (pc := 68) (v := 11) C dX0_sinks_68 (by decide) ?_
    refine g_callV (pc := 70) C dX0_sinks_70 lmX0_50 kcX0_begin (by decide) (by first | rfl | assumption) (c_X0_begin hR64.2.2 (by clear C C2; have l2 := ac_L_len k; have l3 := ac_Sb_len k; have l4 := ac_Hb_len k nn a; (try simp only [ac_add]); (try cases pt) <;> simp <;> omega)) rfl rfl (Nat.le_of_ble_eq_true rfl) ?_
    rintro r70 sh70 I70 J70 ⟨a70, b70, c70, hR70⟩
    try simp only [Option.toList_some, Option.toList_none, List.cons_append, List.nil_append]
    subst a70 b70
    obtain rfl := c70.symm
    try simp only [Option.toList_some, Option.toList_none, List.cons_append, List.nil_append]
    refine g_aload_n (pc := 73) (i := 0) (j := 0) C dX0_sinks_73 rfl rfl ?_
    refine g_iload_n (pc := 74) (i := 1) (j := 1) C dX0_sinks_74 rfl rfl ?_
    refine g_callV (pc := 75) C dX0_sinks_75 lmX0_37 kcX0_lifts (by decide) (by first | rfl | assumption) (c_X0_lifts ((hR64.tr hR70).2.1.1.trans hk) ((hR64.tr hR70).2.1.2.1.trans hnn) ((hR64.tr hR70).2.1.2.2.trans haa) (hR64.tr hR70).2.2 (by clear C C2; have l2 := ac_L_len k; have l3 := ac_Sb_len k; have l4 := ac_Hb_len k nn a; (try simp only [ac_add]); (try cases pt) <;> simp <;> omega)) rfl rfl (Nat.le_of_ble_eq_true rfl) ?_
    rintro r75 sh75 I75 J75 ⟨a75, b75, c75, hR75⟩
    try simp only [Option.toList_some, Option.toList_none, List.cons_append, List.nil_append]
    subst a75 b75
    obtain rfl := c75.symm
    try simp only [Option.toList_some, Option.toList_none, List.cons_append, List.nil_append]
    refine g_iconst (pc := 78) (v := 2) C dX0_sinks_78 (by decide) ?_
    refine g_imul (pc := 79) C dX0_sinks_79 ?_
    refine g_aload_n (pc := 80) (i := 0) (j := 0) C dX0_sinks_80 rfl rfl ?_
    refine g_aload_n (pc := 81) (i := 0) (j := 0) C dX0_sinks_81 rfl rfl ?_
    refine g_getI (pc := 82) C dX0_sinks_82 lfX0_26 (by first | rfl | assumption) rfl ?_
    refine g_callV (pc := 85) C dX0_sinks_85 lmX0_37 kcX0_lifts (by decide) (by first | rfl | assumption) (c_X0_lifts (((hR64.tr hR70).tr hR75).2.1.1.trans hk) (((hR64.tr hR70).tr hR75).2.1.2.1.trans hnn) (((hR64.tr hR70).tr hR75).2.1.2.2.trans haa) ((hR64.tr hR70).tr hR75).2.2 (by clear C C2; have l2 := ac_L_len k; have l3 := ac_Sb_len k; have l4 := ac_Hb_len k nn a; (try simp only [ac_add]); (try cases pt) <;> simp <;> omega)) rfl rfl (Nat.le_of_ble_eq_true rfl) ?_
    rintro r85 sh85 I85 J85 ⟨a85, b85, c85, hR85⟩
    try simp only [Option.toList_some, Option.toList_none, List.cons_append, List.nil_append]
    subst a85 b85
    obtain rfl := c85.symm
    try simp only [Option.toList_some, Option.toList_none, List.cons_append, List.nil_append]
    refine g_iadd (pc := 88) C dX0_sinks_88 ?_
    refine g_iret (pc := 89) C C2 dX0_sinks_89 rfl (Nat.le_refl _) (Nat.le_refl _) ?_
    have hT := (((hR64.tr hR70).tr hR75).tr hR85)
    refine ⟨?_, rfl, rfl, ?_⟩
    · have g1 := hT.2.1.2.1
      have g2 := hT.2.1.2.2
      have g64 := hR64.2.1
      have g70 := hR70.2.1
      have g75 := hR75.2.1
      have g85 := hR85.2.1
      clear C C2
      grind [ac_sv]
    · have e9 : ac_Sb k = [41, 11] ++ (ac_L k ++ ac_L k) := by clear C C2; grind [ac_Sb]
      rw [e9]
      simpa only [ac_add_add, List.cons_append, List.nil_append, List.append_assoc] using hT
  refine pm_sw (4) (fun h4_3 => ?_) (fun h4_3 => ?_)
  · refine g_tsIn (pc := 4) (tgt := 36) (4) C dX0_sinks_4 (by rw [h4_3]; decide) (by decide) (by decide) rfl (by decide) ?_
    refine g_aload_n (pc := 36) (i := 0) (j := 0) C dX0_sinks_36 rfl rfl ?_
    refine g_bipush (pc := 37) (v := 20) C dX0_sinks_37 (by decide) ?_
    refine g_callV (pc := 39) C dX0_sinks_39 lmX0_50 kcX0_begin (by decide) (by first | rfl | assumption) (c_X0_begin hS (by clear C C2; have l2 := ac_L_len k; have l3 := ac_Sb_len k; have l4 := ac_Hb_len k nn a; (try simp only [ac_add]); (try cases pt) <;> simp <;> omega)) rfl rfl (Nat.le_of_ble_eq_true rfl) ?_
    rintro r39 sh39 I39 J39 ⟨a39, b39, c39, hR39⟩
    try simp only [Option.toList_some, Option.toList_none, List.cons_append, List.nil_append]
    subst a39 b39
    obtain rfl := c39.symm
    try simp only [Option.toList_some, Option.toList_none, List.cons_append, List.nil_append]
    refine g_aload_n (pc := 42) (i := 0) (j := 0) C dX0_sinks_42 rfl rfl ?_
    refine g_bipush (pc := 43) (v := 11) C dX0_sinks_43 (by decide) ?_
    refine g_callV (pc := 45) C dX0_sinks_45 lmX0_50 kcX0_begin (by decide) (by first | rfl | assumption) (c_X0_begin hR39.2.2 (by clear C C2; have l2 := ac_L_len k; have l3 := ac_Sb_len k; have l4 := ac_Hb_len k nn a; (try simp only [ac_add]); (try cases pt) <;> simp <;> omega)) rfl rfl (Nat.le_of_ble_eq_true rfl) ?_
    rintro r45 sh45 I45 J45 ⟨a45, b45, c45, hR45⟩
    try simp only [Option.toList_some, Option.toList_none, List.cons_append, List.nil_append]
    subst a45 b45
    obtain rfl := c45.symm
    try simp only [Option.toList_some, Option.toList_none, List.cons_append, List.nil_append]
    refine g_aload_n (pc := 48) (i := 0) (j := 0) C dX0_sinks_48 rfl rfl ?_
    refine g_iload_n (pc := 49) (i := 1) (j := 1) C dX0_sinks_49 rfl rfl ?_
    refine g_callV (pc := 50) C dX0_sinks_50 lmX0_37 kcX0_lifts (by decide) (by first | rfl | assumption) (c_X0_lifts ((hR39.tr hR45).2.1.1.trans hk) ((hR39.tr hR45).2.1.2.1.trans hnn) ((hR39.tr hR45).2.1.2.2.trans haa) (hR39.tr hR45).2.2 (by clear C C2; have l2 := ac_L_len k; have l3 := ac_Sb_len k; have l4 := ac_Hb_len k nn a; (try simp only [ac_add]); (try cases pt) <;> simp <;> omega)) rfl rfl (Nat.le_of_ble_eq_true rfl) ?_
    rintro r50 sh50 I50 J50 ⟨a50, b50, c50, hR50⟩
    try simp only [Option.toList_some, Option.toList_none, List.cons_append, List.nil_append]
    subst a50 b50
    obtain rfl := c50.symm
    try simp only [Option.toList_some, Option.toList_none, List.cons_append, List.nil_append]
    refine g_iconst (pc := 53) (v := 2) C dX0_sinks_53 (by decide) ?_
    refine g_imul (pc := 54) C dX0_sinks_54 ?_
    refine g_aload_n (pc := 55) (i := 0) (j := 0) C dX0_sinks_55 rfl rfl ?_
    refine g_getI (pc := 56) C dX0_sinks_56 lfX0_29 (by first | rfl | assumption) rfl ?_
    refine g_isub (pc := 59) C dX0_sinks_59 ?_
    refine g_iret (pc := 60) C C2 dX0_sinks_60 rfl (Nat.le_refl _) (Nat.le_refl _) ?_
    have hT := ((hR39.tr hR45).tr hR50)
    refine ⟨?_, rfl, rfl, ?_⟩
    · have g1 := hT.2.1.2.1
      have g2 := hT.2.1.2.2
      have g39 := hR39.2.1
      have g45 := hR45.2.1
      have g50 := hR50.2.1
      clear C C2
      grind [ac_sv]
    · have e9 : ac_Sb k = [20, 11] ++ ac_L k := by clear C C2; grind [ac_Sb]
      rw [e9]
      simpa only [ac_add_add, List.cons_append, List.nil_append, List.append_assoc] using hT
  refine g_tsOut (pc := 4) (tgt := 90) C dX0_sinks_4 (by have q0 := lv_neT (a := 1) h4_0 (by decide); have q1 := lv_neT (a := 2) h4_1 (by decide); have q2 := lv_neT (a := 3) h4_2 (by decide); have q3 := lv_neT (a := 4) h4_3 (by decide); omega) (by decide) ?_
  refine g_aload_n (pc := 90) (i := 0) (j := 0) C dX0_sinks_90 rfl rfl ?_
  refine g_bipush (pc := 91) (v := 11) C dX0_sinks_91 (by decide) ?_
  refine g_callV (pc := 93) C dX0_sinks_93 lmX0_50 kcX0_begin (by decide) (by first | rfl | assumption) (c_X0_begin hS (by clear C C2; have l2 := ac_L_len k; have l3 := ac_Sb_len k; have l4 := ac_Hb_len k nn a; (try simp only [ac_add]); (try cases pt) <;> simp <;> omega)) rfl rfl (Nat.le_of_ble_eq_true rfl) ?_
  rintro r93 sh93 I93 J93 ⟨a93, b93, c93, hR93⟩
  try simp only [Option.toList_some, Option.toList_none, List.cons_append, List.nil_append]
  subst a93 b93
  obtain rfl := c93.symm
  try simp only [Option.toList_some, Option.toList_none, List.cons_append, List.nil_append]
  refine g_aload_n (pc := 96) (i := 0) (j := 0) C dX0_sinks_96 rfl rfl ?_
  refine g_iload_n (pc := 97) (i := 1) (j := 1) C dX0_sinks_97 rfl rfl ?_
  refine g_callV (pc := 98) C dX0_sinks_98 lmX0_37 kcX0_lifts (by decide) (by first | rfl | assumption) (c_X0_lifts (hR93.2.1.1.trans hk) (hR93.2.1.2.1.trans hnn) (hR93.2.1.2.2.trans haa) hR93.2.2 (by clear C C2; have l2 := ac_L_len k; have l3 := ac_Sb_len k; have l4 := ac_Hb_len k nn a; (try simp only [ac_add]); (try cases pt) <;> simp <;> omega)) rfl rfl (Nat.le_of_ble_eq_true rfl) ?_
  rintro r98 sh98 I98 J98 ⟨a98, b98, c98, hR98⟩
  try simp only [Option.toList_some, Option.toList_none, List.cons_append, List.nil_append]
  subst a98 b98
  obtain rfl := c98.symm
  try simp only [Option.toList_some, Option.toList_none, List.cons_append, List.nil_append]
  refine g_iconst (pc := 101) (v := 2) C dX0_sinks_101 (by decide) ?_
  refine g_imul (pc := 102) C dX0_sinks_102 ?_
  refine g_iret (pc := 103) C C2 dX0_sinks_103 rfl (Nat.le_refl _) (Nat.le_refl _) ?_
  have hT := (hR93.tr hR98)
  refine ⟨?_, rfl, rfl, ?_⟩
  · have g1 := hT.2.1.2.1
    have g2 := hT.2.1.2.2
    have g93 := hR93.2.1
    have g98 := hR98.2.1
    clear C C2
    grind [ac_sv]
  · have e9 : ac_Sb k = [11] ++ ac_L k := by clear C C2; grind [ac_Sb]
    rw [e9]
    simpa only [ac_add_add, List.cons_append, List.nil_append, List.append_assoc] using hT

set_option maxHeartbeats 4000000 in
set_option maxRecDepth 100000 in
theorem c_X0_forget {d : Nat} {I : pm_I} {J : pm_J} : pm_M d 0 0 yX0_forget cX0_forget 1 (none : Option Jvm.ClassFile.FieldType) [.ref 88] SHP I J (pm_D none SHP (pm_u (pm_u I 88 1 0) 88 2 0) J) := by
  refine pm_start (own := RX0) (nm := "forget") (by decide) rfl rfl (L := [(0, .ref 88)]) rfl (Nat.le_of_ble_eq_true rfl) (fun Γ C C2 => ?_)
  refine g_aload_n (pc := 0) (i := 0) (j := 0) C dX0_forget_0 rfl rfl ?_
  refine g_iconst (pc := 1) (v := 0) C dX0_forget_1 (by decide) ?_
  refine g_putI (pc := 2) C dX0_forget_2 lpX0_15 rfl rfl (by first | rfl | assumption) rfl ?_
  refine g_aload_n (pc := 5) (i := 0) (j := 0) C dX0_forget_5 rfl rfl ?_
  refine g_iconst (pc := 6) (v := 0) C dX0_forget_6 (by decide) ?_
  refine g_putI (pc := 7) C dX0_forget_7 lpX0_19 (by first | rfl | exact pm_nz | assumption) rfl (by first | rfl | assumption) rfl ?_
  refine g_vret (pc := 10) C C2 dX0_forget_10 (Nat.le_refl _) (Nat.le_refl _) ?_
  exact ⟨rfl, rfl, rfl, rfl⟩

set_option maxHeartbeats 4000000 in
set_option maxRecDepth 100000 in
theorem c_X0_parted {d : Nat} {I : pm_I} {J : pm_J} {k nn a : Int32} (hk : I 88 3 = k) (hnn : I 88 4 = nn) (haa : I 88 5 = a) {ts : List Int32} (hS : ac_S I ts false) (hl : ts.length + 1 ≤ 30) {x : Int32} : pm_M (d + 1) 0 0 yX0_parted cX0_parted 2 (some .int) [.ref 88, .int x] SHP I J (fun r sh2 I2 J2 => r = some (.int (if a = nn then 0 else x / (a - nn))) ∧ sh2 = SHP ∧ J2 = J ∧ ac_R I (ts ++ [12]) (ac_pt nn a) I2) := by
  refine pm_start (own := RX0) (nm := "parted") (by decide) rfl rfl (L := [(0, .ref 88), (1, .int x)]) rfl (Nat.le_of_ble_eq_true rfl) (fun Γ C C2 => ?_)
  refine g_aload_n (pc := 0) (i := 0) (j := 0) C dX0_parted_0 rfl rfl ?_
  refine g_bipush (pc := 1) (v := 12) C dX0_parted_1 (by decide) ?_
  refine g_callV (pc := 3) C dX0_parted_3 lmX0_50 kcX0_begin (by decide) (by first | rfl | assumption) (c_X0_begin (pt := false) hS hl) rfl rfl (Nat.le_of_ble_eq_true rfl) ?_
  rintro r3 sh3 I3 J3 ⟨a3, b3, c3, hR3⟩
  try simp only [Option.toList_some, Option.toList_none, List.cons_append, List.nil_append]
  subst a3 b3
  obtain rfl := c3.symm
  try simp only [Option.toList_some, Option.toList_none, List.cons_append, List.nil_append]
  refine g_aload_n (pc := 6) (i := 0) (j := 0) C dX0_parted_6 rfl rfl ?_
  refine g_getI (pc := 7) C dX0_parted_7 lfX0_29 (by first | rfl | assumption) rfl ?_
  refine g_aload_n (pc := 10) (i := 0) (j := 0) C dX0_parted_10 rfl rfl ?_
  refine g_getI (pc := 11) C dX0_parted_11 lfX0_26 (by first | rfl | assumption) rfl ?_
  refine g_icmp_ne (pc := 14) (tgt := 24) C dX0_parted_14 (by decide) (fun h14 => ?_) (fun h14 => ?_)
  · refine g_iload_n (pc := 24) (i := 1) (j := 1) C dX0_parted_24 rfl rfl ?_
    refine g_aload_n (pc := 25) (i := 0) (j := 0) C dX0_parted_25 rfl rfl ?_
    refine g_getI (pc := 26) C dX0_parted_26 lfX0_29 (by first | rfl | assumption) rfl ?_
    refine g_aload_n (pc := 29) (i := 0) (j := 0) C dX0_parted_29 rfl rfl ?_
    refine g_getI (pc := 30) C dX0_parted_30 lfX0_26 (by first | rfl | assumption) rfl ?_
    refine g_isub (pc := 33) C dX0_parted_33 ?_
    refine g_idiv (pc := 34) C dX0_parted_34 (by rw [hR3.2.1.2.2, hR3.2.1.2.1, haa, hnn]; rw [hR3.2.1.2.2, hR3.2.1.2.1, haa, hnn] at h14; exact pm_sub_ne h14) ?_
    refine g_iret (pc := 35) C C2 dX0_parted_35 rfl (Nat.le_refl _) (Nat.le_refl _) ?_
    rw [hR3.2.1.2.2, hR3.2.1.2.1, haa, hnn] at h14
    refine ⟨by rw [if_neg h14, hR3.2.1.2.2, hR3.2.1.2.1, haa, hnn], rfl, rfl, ?_⟩
    have ep : ac_pt nn a = false := by simp [ac_pt, h14]
    rw [ep]
    exact hR3
  · refine g_aload_n (pc := 17) (i := 0) (j := 0) C dX0_parted_17 rfl rfl ?_
    refine g_iconst (pc := 18) (v := 1) C dX0_parted_18 (by decide) ?_
    refine g_putI (pc := 19) C dX0_parted_19 lpX0_19 (by first | rfl | exact pm_nz | assumption) rfl (by first | rfl | assumption) rfl ?_
    refine g_iconst (pc := 22) (v := 0) C dX0_parted_22 (by decide) ?_
    refine g_iret (pc := 23) C C2 dX0_parted_23 rfl (Nat.le_refl _) (Nat.le_refl _) ?_
    rw [hR3.2.1.2.2, hR3.2.1.2.1, haa, hnn] at h14
    refine ⟨by rw [if_pos h14], rfl, rfl, ?_⟩
    obtain ⟨q1, q2, s1, s2, s3, s4⟩ := hR3
    have ep : ac_pt nn a = true := by simp [ac_pt, h14]
    rw [ep]
    refine ⟨fun z h1 h2 => by rw [pm_u_off h1]; exact q1 z h1 h2, ⟨by rw [pm_u_at, pk_un (by decide)]; exact q2.1, by rw [pm_u_at, pk_un (by decide)]; exact q2.2.1, by rw [pm_u_at, pk_un (by decide)]; exact q2.2.2⟩, by rw [pm_u_at, pk_un (by decide)]; exact s1, s2, fun z hz => by rw [pm_u_off (by decide)]; exact s3 z hz, by rw [pm_u_at, pk_us]; rfl⟩
