/-! One balloon by its parts; rows as a whole -/
def pm_s (I : pm_I) (q : Nat) (f : Nat → Int32) : pm_I := fun b => if b = q then f else I b
theorem pm_u_s (I : pm_I) (q k : Nat) (x : Int32) : pm_u I q k x = pm_s I q (upd (I q) k x) := rfl
theorem pm_s_at (I : pm_I) (q : Nat) (f : Nat → Int32) : pm_s I q f q = f := if_pos rfl
theorem pm_s_off (I : pm_I) (q b : Nat) (f : Nat → Int32) (h : b ≠ q) : pm_s I q f b = I b := if_neg h
theorem pm_s_s (I : pm_I) (q : Nat) (f g : Nat → Int32) : pm_s (pm_s I q f) q g = pm_s I q g := by
  funext b
  unfold pm_s
  split <;> rfl
theorem pm_Geq {Γ : pm_T} {cells slots pc : Nat} {L L' : List (Nat × Value)} {st st' : List Value} {sh : List pm_S} {I I' : pm_I} {J J' : pm_J} (h : pm_G Γ cells slots pc L st sh I J) (hL : L' = L) (hst : st' = st) (hI : I' = I) (hJ : J' = J) : pm_G Γ cells slots pc L' st' sh I' J' := by
  subst hL hst hI hJ
  exact h
theorem pm_up (P : Nat → Prop) (n : Nat) (h : ∀ j, j ≤ n → (j < n → P (j + 1)) → P j) : ∀ j, j ≤ n → P j := by
  intro j hj
  obtain ⟨k, hk⟩ : ∃ k, j + k = n := ⟨n - j, by omega⟩
  induction k generalizing j with
  | zero => exact h j hj (fun q => by omega)
  | succ k ih => exact h j hj (fun q => ih (j + 1) q (by omega))
def bl_held (v lo hi : Int32) : Int32 := if v < lo then lo else if hi < v then hi else v
def bl_abs (v : Int32) : Int32 := if 0 ≤ v then v else 0 - v
def bl_lift (f : Nat → Int32) (t : Int32) : Int32 := if f 0 = 1 then f 5 + f 5 * 2 * t / 100 else if f 0 = 4 then f 5 + f 5 * 2 * t / 100 + 5 else f 5 + f 5 * t / 100
def bl_weight (f : Nat → Int32) : Int32 := f 6 + f 7 + f 8 + f 1
def bl_target (f : Nat → Int32) (t : Int32) : Int32 := bl_held (if f 0 = 5 then (bl_lift f t - bl_weight f) / 2 else bl_lift f t - bl_weight f) 0 (f 4)
def bl_leaks (f : Nat → Int32) (h : Int32) : Int32 := if f 0 = 2 then 2 else if f 0 = 3 then (if h - h / 2 * 2 = 0 then 1 else 0) else 0
def bl_max0 (v : Int32) : Int32 := if 0 < v then v else 0
/-- an hour goes for one balloon -/
def bl_p1 (f : Nat → Int32) (t : Int32) : Nat → Int32 := upd f 3 (f 3 + bl_held (bl_target f t - f 3) (-10) 10)
def bl_p2 (f : Nat → Int32) (h : Int32) : Nat → Int32 := upd f 5 (bl_max0 (f 5 - bl_leaks f h))
def bl_p3 (f : Nat → Int32) : Nat → Int32 := upd f 7 (bl_max0 (f 7 - f 8))
def bl_pass (f : Nat → Int32) (t h : Int32) : Nat → Int32 := bl_p3 (bl_p2 (bl_p1 f t) h)
def bl_cp (g f : Nat → Int32) (N : Nat) : Nat → Int32 := fun j => if j < N then f j else g j
theorem pm_cp_s (I : pm_I) (f : Nat → Int32) (a N : Nat) : pm_cp I f a N = pm_s I a (bl_cp (I a) f N) := rfl
def bl_first (g : Nat → Int32) (k a c : Int32) : Nat → Int32 := upd (upd (upd (bl_cp g (fun z => (pm_tv 3).getD z 0) 9) 0 k) 1 a) 2 c
/-- too near: two heights, the gap -/
abbrev bl_near (x y g : Int32) : Prop := 0 < x ∧ 0 < y ∧ bl_abs (x - y) < g
/-- two of a column, too near -/
abbrev bl_touch (f g : Nat → Int32) (gap : Int32) : Prop := f 2 = g 2 ∧ bl_near (f 3) (g 3) gap
/-- whom i touches among the first n: a set by bits; B gives the balloons' parts -/
def bl_tset (B : Nat → Nat → Int32) (gap : Int32) (i : Nat) : Nat → Int32
  | 0 => 0
  | k + 1 => if i ≠ k ∧ bl_touch (B i) (B k) gap then bl_tset B gap i k ||| (1 <<< (nI k &&& 31)) else bl_tset B gap i k
/-- the live town's balloons -/
abbrev bl_L (I : pm_I) (b : Nat) : Nat → Int32 := I (5 + 2 * b)
set_option maxHeartbeats 4000000 in
set_option maxRecDepth 100000 in
theorem c_X1_lift {d : Nat} {a q : Nat} (ha : SHP[a]? = some (.inr (.inr (1, [.inr (some q)])))) (hq : SHP[q]? = some (.inl (0, 9))) {t : Int32} {I : pm_I} {J : pm_J} : pm_M d 0 0 yX1_lift cX1_lift 3 (some .int) [.ref a, .int t] SHP I J (pm_D (some (.int (bl_lift (I q) t))) SHP I J) := by
  refine pm_start (own := RX1) (nm := "lift") (by decide) rfl rfl (L := [(0, .ref a), (1, .int t)]) rfl (Nat.le_of_ble_eq_true rfl) (fun Γ C C2 => ?_)
  refine g_aload_n (pc := 0) (i := 0) (j := 0) C dX1_lift_0 rfl rfl ?_
  refine g_getR (pc := 1) C dX1_lift_1 lfX1_9 (by first | rfl | assumption) rfl ?_
  refine g_iconst (pc := 4) (v := 5) C dX1_lift_4 (by decide) ?_
  refine g_iald (pc := 5) C dX1_lift_5 (by first | rfl | assumption) (by decide) (by first | rfl | assumption) (by first | assumption | decide | omega) ?_
  refine g_istore_n (pc := 6) (i := 2) (L2 := [(0, _), (1, _), (2, _)]) C dX1_lift_6 rfl (by decide) rfl ?_
  refine g_aload_n (pc := 7) (i := 0) (j := 0) C dX1_lift_7 rfl rfl ?_
  refine g_getR (pc := 8) C dX1_lift_8 lfX1_9 (by first | rfl | assumption) rfl ?_
  refine g_iconst (pc := 11) (v := 0) C dX1_lift_11 (by decide) ?_
  refine g_iald (pc := 12) C dX1_lift_12 (by first | rfl | assumption) (by decide) (by first | rfl | assumption) (by first | assumption | decide | omega) ?_
  refine pm_sw (1) (fun h13_0 => ?_) (fun h13_0 => ?_)
  · refine g_ls (pc := 13) (off := 27) (tgt := 40) C dX1_lift_13 (by decide) (by show Op.lookupswitch.offset [(1, 27), (4, 38)] (51) _ = _; rw [h13_0]; decide) (by decide) ?_
    refine g_iload_n (pc := 40) (i := 2) (j := 2) C dX1_lift_40 rfl rfl ?_
    refine g_iload_n (pc := 41) (i := 2) (j := 2) C dX1_lift_41 rfl rfl ?_
    refine g_iconst (pc := 42) (v := 2) C dX1_lift_42 (by decide) ?_
    refine g_imul (pc := 43) C dX1_lift_43 ?_
    refine g_iload_n (pc := 44) (i := 1) (j := 1) C dX1_lift_44 rfl rfl ?_
    refine g_imul (pc := 45) C dX1_lift_45 ?_
    refine g_bipush (pc := 46) (v := 100) C dX1_lift_46 (by decide) ?_
    refine g_idiv (pc := 48) C dX1_lift_48 (by first | decide | assumption) ?_
    refine g_iadd (pc := 49) C dX1_lift_49 ?_
    refine g_iret (pc := 50) C C2 dX1_lift_50 rfl (Nat.le_refl _) (Nat.le_refl _) ?_
    clear C C2
    exact ⟨by first | rfl | grind [bl_lift], rfl, rfl, rfl⟩
  refine pm_sw (4) (fun h13_1 => ?_) (fun h13_1 => ?_)
  · refine g_ls (pc := 13) (off := 38) (tgt := 51) C dX1_lift_13 (by decide) (by show Op.lookupswitch.offset [(1, 27), (4, 38)] (51) _ = _; rw [h13_1]; decide) (by decide) ?_
    refine g_iload_n (pc := 51) (i := 2) (j := 2) C dX1_lift_51 rfl rfl ?_
    refine g_iload_n (pc := 52) (i := 2) (j := 2) C dX1_lift_52 rfl rfl ?_
    refine g_iconst (pc := 53) (v := 2) C dX1_lift_53 (by decide) ?_
    refine g_imul (pc := 54) C dX1_lift_54 ?_
    refine g_iload_n (pc := 55) (i := 1) (j := 1) C dX1_lift_55 rfl rfl ?_
    refine g_imul (pc := 56) C dX1_lift_56 ?_
    refine g_bipush (pc := 57) (v := 100) C dX1_lift_57 (by decide) ?_
    refine g_idiv (pc := 59) C dX1_lift_59 (by first | decide | assumption) ?_
    refine g_iadd (pc := 60) C dX1_lift_60 ?_
    refine g_iconst (pc := 61) (v := 5) C dX1_lift_61 (by decide) ?_
    refine g_iadd (pc := 62) C dX1_lift_62 ?_
    refine g_iret (pc := 63) C C2 dX1_lift_63 rfl (Nat.le_refl _) (Nat.le_refl _) ?_
    clear C C2
    exact ⟨by first | rfl | grind [bl_lift], rfl, rfl, rfl⟩
  refine g_ls (pc := 13) (off := 51) (tgt := 64) C dX1_lift_13 (by decide) (by show Op.lookupswitch.offset [(1, 27), (4, 38)] (51) _ = _; rw [lv_osw (k := 1) h13_0 (by decide)]; rw [lv_osw (k := 4) h13_1 (by decide)]; rfl) (by decide) ?_
  refine g_iload_n (pc := 64) (i := 2) (j := 2) C dX1_lift_64 rfl rfl ?_
  refine g_iload_n (pc := 65) (i := 2) (j := 2) C dX1_lift_65 rfl rfl ?_
  refine g_iload_n (pc := 66) (i := 1) (j := 1) C dX1_lift_66 rfl rfl ?_
  refine g_imul (pc := 67) C dX1_lift_67 ?_
  refine g_bipush (pc := 68) (v := 100) C dX1_lift_68 (by decide) ?_
  refine g_idiv (pc := 70) C dX1_lift_70 (by first | decide | assumption) ?_
  refine g_iadd (pc := 71) C dX1_lift_71 ?_
  refine g_iret (pc := 72) C C2 dX1_lift_72 rfl (Nat.le_refl _) (Nat.le_refl _) ?_
  clear C C2
  exact ⟨by first | rfl | grind [bl_lift], rfl, rfl, rfl⟩

set_option maxHeartbeats 4000000 in
set_option maxRecDepth 100000 in
theorem c_X1_weight {d : Nat} {a q : Nat} (ha : SHP[a]? = some (.inr (.inr (1, [.inr (some q)])))) (hq : SHP[q]? = some (.inl (0, 9))) {I : pm_I} {J : pm_J} : pm_M d 0 0 yX1_weight cX1_weight 1 (some .int) [.ref a] SHP I J (pm_D (some (.int (bl_weight (I q)))) SHP I J) := by
  refine pm_start (own := RX1) (nm := "weight") (by decide) rfl rfl (L := [(0, .ref a)]) rfl (Nat.le_of_ble_eq_true rfl) (fun Γ C C2 => ?_)
  refine g_aload_n (pc := 0) (i := 0) (j := 0) C dX1_weight_0 rfl rfl ?_
  refine g_getR (pc := 1) C dX1_weight_1 lfX1_9 (by first | rfl | assumption) rfl ?_
  refine g_bipush (pc := 4) (v := 6) C dX1_weight_4 (by decide) ?_
  refine g_iald (pc := 6) C dX1_weight_6 (by first | rfl | assumption) (by decide) (by first | rfl | assumption) (by first | assumption | decide | omega) ?_
  refine g_aload_n (pc := 7) (i := 0) (j := 0) C dX1_weight_7 rfl rfl ?_
  refine g_getR (pc := 8) C dX1_weight_8 lfX1_9 (by first | rfl | assumption) rfl ?_
  refine g_bipush (pc := 11) (v := 7) C dX1_weight_11 (by decide) ?_
  refine g_iald (pc := 13) C dX1_weight_13 (by first | rfl | assumption) (by decide) (by first | rfl | assumption) (by first | assumption | decide | omega) ?_
  refine g_iadd (pc := 14) C dX1_weight_14 ?_
  refine g_aload_n (pc := 15) (i := 0) (j := 0) C dX1_weight_15 rfl rfl ?_
  refine g_getR (pc := 16) C dX1_weight_16 lfX1_9 (by first | rfl | assumption) rfl ?_
  refine g_bipush (pc := 19) (v := 8) C dX1_weight_19 (by decide) ?_
  refine g_iald (pc := 21) C dX1_weight_21 (by first | rfl | assumption) (by decide) (by first | rfl | assumption) (by first | assumption | decide | omega) ?_
  refine g_iadd (pc := 22) C dX1_weight_22 ?_
  refine g_aload_n (pc := 23) (i := 0) (j := 0) C dX1_weight_23 rfl rfl ?_
  refine g_getR (pc := 24) C dX1_weight_24 lfX1_9 (by first | rfl | assumption) rfl ?_
  refine g_iconst (pc := 27) (v := 1) C dX1_weight_27 (by decide) ?_
  refine g_iald (pc := 28) C dX1_weight_28 (by first | rfl | assumption) (by decide) (by first | rfl | assumption) (by first | assumption | decide | omega) ?_
  refine g_iadd (pc := 29) C dX1_weight_29 ?_
  refine g_iret (pc := 30) C C2 dX1_weight_30 rfl (Nat.le_refl _) (Nat.le_refl _) ?_
  clear C C2
  exact ⟨by first | rfl | grind [bl_weight], rfl, rfl, rfl⟩

set_option maxHeartbeats 4000000 in
set_option maxRecDepth 100000 in
theorem c_X1_leaks {d : Nat} {a q : Nat} (ha : SHP[a]? = some (.inr (.inr (1, [.inr (some q)])))) (hq : SHP[q]? = some (.inl (0, 9))) {h : Int32} {I : pm_I} {J : pm_J} : pm_M d 0 0 yX1_leaks cX1_leaks 2 (some .int) [.ref a, .int h] SHP I J (pm_D (some (.int (bl_leaks (I q) h))) SHP I J) := by
  refine pm_start (own := RX1) (nm := "leaks") (by decide) rfl rfl (L := [(0, .ref a), (1, .int h)]) rfl (Nat.le_of_ble_eq_true rfl) (fun Γ C C2 => ?_)
  refine g_aload_n (pc := 0) (i := 0) (j := 0) C dX1_leaks_0 rfl rfl ?_
  refine g_getR (pc := 1) C dX1_leaks_1 lfX1_9 (by first | rfl | assumption) rfl ?_
  refine g_iconst (pc := 4) (v := 0) C dX1_leaks_4 (by decide) ?_
  refine g_iald (pc := 5) C dX1_leaks_5 (by first | rfl | assumption) (by decide) (by first | rfl | assumption) (by first | assumption | decide | omega) ?_
  refine pm_sw (2) (fun h6_0 => ?_) (fun h6_0 => ?_)
  · refine g_ls (pc := 6) (off := 26) (tgt := 32) C dX1_leaks_6 (by decide) (by show Op.lookupswitch.offset [(2, 26), (3, 28)] (40) _ = _; rw [h6_0]; decide) (by decide) ?_
    refine g_iconst (pc := 32) (v := 2) C dX1_leaks_32 (by decide) ?_
    refine g_iret (pc := 33) C C2 dX1_leaks_33 rfl (Nat.le_refl _) (Nat.le_refl _) ?_
    clear C C2
    exact ⟨by first | rfl | grind [bl_leaks], rfl, rfl, rfl⟩
  refine pm_sw (3) (fun h6_1 => ?_) (fun h6_1 => ?_)
  · refine g_ls (pc := 6) (off := 28) (tgt := 34) C dX1_leaks_6 (by decide) (by show Op.lookupswitch.offset [(2, 26), (3, 28)] (40) _ = _; rw [h6_1]; decide) (by decide) ?_
    refine g_iload_n (pc := 34) (i := 1) (j := 1) C dX1_leaks_34 rfl rfl ?_
    refine g_iconst (pc := 35) (v := 2) C dX1_leaks_35 (by decide) ?_
    refine g_irem (pc := 36) C dX1_leaks_36 (by first | decide | assumption) ?_
    refine g_if_ne (pc := 37) (tgt := 44) C dX1_leaks_37 (by decide) (fun h37 => ?_) (fun h37 => ?_)
    · refine g_iconst (pc := 44) (v := 0) C dX1_leaks_44 (by decide) ?_
      refine g_iret (pc := 45) C C2 dX1_leaks_45 rfl (Nat.le_refl _) (Nat.le_refl _) ?_
      clear C C2
      exact ⟨by first | rfl | grind [bl_leaks], rfl, rfl, rfl⟩
    · refine g_iconst (pc := 40) (v := 1) C dX1_leaks_40 (by decide) ?_
      refine g_goto (pc := 41) (tgt := 45) C dX1_leaks_41 (by decide) ?_
      refine g_iret (pc := 45) C C2 dX1_leaks_45 rfl (Nat.le_refl _) (Nat.le_refl _) ?_
      clear C C2
      exact ⟨by first | rfl | grind [bl_leaks], rfl, rfl, rfl⟩
  refine g_ls (pc := 6) (off := 40) (tgt := 46) C dX1_leaks_6 (by decide) (by show Op.lookupswitch.offset [(2, 26), (3, 28)] (40) _ = _; rw [lv_osw (k := 2) h6_0 (by decide)]; rw [lv_osw (k := 3) h6_1 (by decide)]; rfl) (by decide) ?_
  refine g_iconst (pc := 46) (v := 0) C dX1_leaks_46 (by decide) ?_
  refine g_iret (pc := 47) C C2 dX1_leaks_47 rfl (Nat.le_refl _) (Nat.le_refl _) ?_
  clear C C2
  exact ⟨by first | rfl | grind [bl_leaks], rfl, rfl, rfl⟩

set_option maxHeartbeats 4000000 in
set_option maxRecDepth 100000 in
theorem c_X1_target {d : Nat} {a q : Nat} (ha : SHP[a]? = some (.inr (.inr (1, [.inr (some q)])))) (hq : SHP[q]? = some (.inl (0, 9))) {t : Int32} {I : pm_I} {J : pm_J} : pm_M (d + 1) 0 0 yX1_target cX1_target 3 (some .int) [.ref a, .int t] SHP I J (pm_D (some (.int (bl_target (I q) t))) SHP I J) := by
  refine pm_start (own := RX1) (nm := "target") (by decide) rfl rfl (L := [(0, .ref a), (1, .int t)]) rfl (Nat.le_of_ble_eq_true rfl) (fun Γ C C2 => ?_)
  refine g_aload_n (pc := 0) (i := 0) (j := 0) C dX1_target_0 rfl rfl ?_
  refine g_iload_n (pc := 1) (i := 1) (j := 1) C dX1_target_1 rfl rfl ?_
  refine g_callV (pc := 2) C dX1_target_2 lmX1_24 kcX1_lift (by decide) (by first | rfl | assumption) (c_X1_lift ha hq) rfl rfl (Nat.le_of_ble_eq_true rfl) ?_
  intro r9 sh9 I9 J9 hD9; obtain ⟨rfl, rfl, rfl, rfl⟩ := pm_Dq hD9
  try simp only [Option.toList_some, Option.toList_none, List.cons_append, List.nil_append]
  refine g_aload_n (pc := 5) (i := 0) (j := 0) C dX1_target_5 rfl rfl ?_
  refine g_callV (pc := 6) C dX1_target_6 lmX1_28 kcX1_weight (by decide) (by first | rfl | assumption) (c_X1_weight ha hq) rfl rfl (Nat.le_of_ble_eq_true rfl) ?_
  intro r9 sh9 I9 J9 hD9; obtain ⟨rfl, rfl, rfl, rfl⟩ := pm_Dq hD9
  try simp only [Option.toList_some, Option.toList_none, List.cons_append, List.nil_append]
  refine g_isub (pc := 9) C dX1_target_9 ?_
  refine g_istore_n (pc := 10) (i := 2) (L2 := [(0, _), (1, _), (2, _)]) C dX1_target_10 rfl (by decide) rfl ?_
  refine g_aload_n (pc := 11) (i := 0) (j := 0) C dX1_target_11 rfl rfl ?_
  refine g_getR (pc := 12) C dX1_target_12 lfX1_9 (by first | rfl | assumption) rfl ?_
  refine g_iconst (pc := 15) (v := 0) C dX1_target_15 (by decide) ?_
  refine g_iald (pc := 16) C dX1_target_16 (by first | rfl | assumption) (by decide) (by first | rfl | assumption) (by first | assumption | decide | omega) ?_
  refine g_iconst (pc := 17) (v := 5) C dX1_target_17 (by decide) ?_
  refine g_icmp_ne (pc := 18) (tgt := 27) C dX1_target_18 (by decide) (fun h18 => ?_) (fun h18 => ?_)
  · refine g_iload_n (pc := 27) (i := 2) (j := 2) C dX1_target_27 rfl rfl ?_
    refine g_iconst (pc := 28) (v := 0) C dX1_target_28 (by decide) ?_
    refine g_aload_n (pc := 29) (i := 0) (j := 0) C dX1_target_29 rfl rfl ?_
    refine g_getR (pc := 30) C dX1_target_30 lfX1_9 (by first | rfl | assumption) rfl ?_
    refine g_iconst (pc := 33) (v := 4) C dX1_target_33 (by decide) ?_
    refine g_iald (pc := 34) C dX1_target_34 (by first | rfl | assumption) (by decide) (by first | rfl | assumption) (by first | assumption | decide | omega) ?_
    refine g_callN (pc := 35) C dX1_target_35 lmX1_32 kcX7_held (by decide) (c_X7_held) rfl rfl (Nat.le_of_ble_eq_true rfl) ?_
    intro r9 sh9 I9 J9 hD9; obtain ⟨rfl, rfl, rfl, rfl⟩ := pm_Dq hD9
    try simp only [Option.toList_some, Option.toList_none, List.cons_append, List.nil_append]
    refine g_iret (pc := 38) C C2 dX1_target_38 rfl (Nat.le_refl _) (Nat.le_refl _) ?_
    clear C C2
    exact ⟨by first | rfl | grind [bl_target, bl_held], rfl, rfl, rfl⟩
  · refine g_iload_n (pc := 21) (i := 2) (j := 2) C dX1_target_21 rfl rfl ?_
    refine g_iconst (pc := 22) (v := 2) C dX1_target_22 (by decide) ?_
    refine g_idiv (pc := 23) C dX1_target_23 (by first | decide | assumption) ?_
    refine g_goto (pc := 24) (tgt := 28) C dX1_target_24 (by decide) ?_
    refine g_iconst (pc := 28) (v := 0) C dX1_target_28 (by decide) ?_
    refine g_aload_n (pc := 29) (i := 0) (j := 0) C dX1_target_29 rfl rfl ?_
    refine g_getR (pc := 30) C dX1_target_30 lfX1_9 (by first | rfl | assumption) rfl ?_
    refine g_iconst (pc := 33) (v := 4) C dX1_target_33 (by decide) ?_
    refine g_iald (pc := 34) C dX1_target_34 (by first | rfl | assumption) (by decide) (by first | rfl | assumption) (by first | assumption | decide | omega) ?_
    refine g_callN (pc := 35) C dX1_target_35 lmX1_32 kcX7_held (by decide) (c_X7_held) rfl rfl (Nat.le_of_ble_eq_true rfl) ?_
    intro r9 sh9 I9 J9 hD9; obtain ⟨rfl, rfl, rfl, rfl⟩ := pm_Dq hD9
    try simp only [Option.toList_some, Option.toList_none, List.cons_append, List.nil_append]
    refine g_iret (pc := 38) C C2 dX1_target_38 rfl (Nat.le_refl _) (Nat.le_refl _) ?_
    clear C C2
    exact ⟨by first | rfl | grind [bl_target, bl_held], rfl, rfl, rfl⟩

set_option maxHeartbeats 4000000 in
set_option maxRecDepth 100000 in
theorem c_X1_passHour {d : Nat} {a q : Nat} (ha : SHP[a]? = some (.inr (.inr (1, [.inr (some q)])))) (hq : SHP[q]? = some (.inl (0, 9))) {t h : Int32} {I : pm_I} {J : pm_J} : pm_M (d + 2) 0 0 yX1_passHour cX1_passHour 3 (none : Option Jvm.ClassFile.FieldType) [.ref a, .int t, .int h] SHP I J (pm_D none SHP (pm_s I q (bl_pass (I q) t h)) J) := by
  refine pm_start (own := RX1) (nm := "passHour") (by decide) rfl rfl (L := [(0, .ref a), (1, .int t), (2, .int h)]) rfl (Nat.le_of_ble_eq_true rfl) (fun Γ C C2 => ?_)
  refine g_aload_n (pc := 0) (i := 0) (j := 0) C dX1_passHour_0 rfl rfl ?_
  refine g_getR (pc := 1) C dX1_passHour_1 lfX1_9 (by first | rfl | assumption) rfl ?_
  refine g_iconst (pc := 4) (v := 3) C dX1_passHour_4 (by decide) ?_
  refine g_dup2 (pc := 5) C dX1_passHour_5 rfl rfl ?_
  refine g_iald (pc := 6) C dX1_passHour_6 (by first | rfl | assumption) (by decide) (by first | rfl | assumption) (by first | assumption | decide | omega) ?_
  refine g_aload_n (pc := 7) (i := 0) (j := 0) C dX1_passHour_7 rfl rfl ?_
  refine g_iload_n (pc := 8) (i := 1) (j := 1) C dX1_passHour_8 rfl rfl ?_
  refine g_callV (pc := 9) C dX1_passHour_9 lmX1_36 kcX1_target (by decide) (by first | rfl | assumption) (c_X1_target ha hq) rfl rfl (Nat.le_of_ble_eq_true rfl) ?_
  intro r9 sh9 I9 J9 hD9; obtain ⟨rfl, rfl, rfl, rfl⟩ := pm_Dq hD9
  try simp only [Option.toList_some, Option.toList_none, List.cons_append, List.nil_append]
  refine g_aload_n (pc := 12) (i := 0) (j := 0) C dX1_passHour_12 rfl rfl ?_
  refine g_getR (pc := 13) C dX1_passHour_13 lfX1_9 (by first | rfl | assumption) rfl ?_
  refine g_iconst (pc := 16) (v := 3) C dX1_passHour_16 (by decide) ?_
  refine g_iald (pc := 17) C dX1_passHour_17 (by first | rfl | assumption) (by decide) (by first | rfl | assumption) (by first | assumption | decide | omega) ?_
  refine g_isub (pc := 18) C dX1_passHour_18 ?_
  refine g_bipush (pc := 19) (v := (-10)) C dX1_passHour_19 (by decide) ?_
  refine g_bipush (pc := 21) (v := 10) C dX1_passHour_21 (by decide) ?_
  refine g_callN (pc := 23) C dX1_passHour_23 lmX1_32 kcX7_held (by decide) (c_X7_held) rfl rfl (Nat.le_of_ble_eq_true rfl) ?_
  intro r9 sh9 I9 J9 hD9; obtain ⟨rfl, rfl, rfl, rfl⟩ := pm_Dq hD9
  try simp only [Option.toList_some, Option.toList_none, List.cons_append, List.nil_append]
  refine g_iadd (pc := 26) C dX1_passHour_26 ?_
  refine g_iast (pc := 27) C dX1_passHour_27 (by first | rfl | assumption) (by decide) (by first | rfl | assumption) (by first | assumption | decide | omega) ?_
  refine g_aload_n (pc := 28) (i := 0) (j := 0) C dX1_passHour_28 rfl rfl ?_
  refine g_getR (pc := 29) C dX1_passHour_29 lfX1_9 (by first | rfl | assumption) rfl ?_
  refine g_iconst (pc := 32) (v := 5) C dX1_passHour_32 (by decide) ?_
  refine g_iconst (pc := 33) (v := 0) C dX1_passHour_33 (by decide) ?_
  refine g_aload_n (pc := 34) (i := 0) (j := 0) C dX1_passHour_34 rfl rfl ?_
  refine g_getR (pc := 35) C dX1_passHour_35 lfX1_9 (by first | rfl | assumption) rfl ?_
  refine g_iconst (pc := 38) (v := 5) C dX1_passHour_38 (by decide) ?_
  refine g_iald (pc := 39) C dX1_passHour_39 (by first | rfl | assumption) (by decide) (by first | rfl | assumption) (by first | assumption | decide | omega) ?_
  refine g_aload_n (pc := 40) (i := 0) (j := 0) C dX1_passHour_40 rfl rfl ?_
  refine g_iload_n (pc := 41) (i := 2) (j := 2) C dX1_passHour_41 rfl rfl ?_
  refine g_callV (pc := 42) C dX1_passHour_42 lmX1_39 kcX1_leaks (by decide) (by first | rfl | assumption) (c_X1_leaks ha hq) rfl rfl (Nat.le_of_ble_eq_true rfl) ?_
  intro r9 sh9 I9 J9 hD9; obtain ⟨rfl, rfl, rfl, rfl⟩ := pm_Dq hD9
  try simp only [Option.toList_some, Option.toList_none, List.cons_append, List.nil_append]
  refine g_isub (pc := 45) C dX1_passHour_45 ?_
  refine g_mmax (pc := 46) C dX1_passHour_46 ljX1_42 lsM_max liM kcM_max (Nat.le_of_ble_eq_true rfl) ?_
  refine g_iast (pc := 49) C dX1_passHour_49 (by first | rfl | assumption) (by decide) (by first | rfl | assumption) (by first | assumption | decide | omega) ?_
  refine g_aload_n (pc := 50) (i := 0) (j := 0) C dX1_passHour_50 rfl rfl ?_
  refine g_getR (pc := 51) C dX1_passHour_51 lfX1_9 (by first | rfl | assumption) rfl ?_
  refine g_bipush (pc := 54) (v := 7) C dX1_passHour_54 (by decide) ?_
  refine g_iconst (pc := 56) (v := 0) C dX1_passHour_56 (by decide) ?_
  refine g_aload_n (pc := 57) (i := 0) (j := 0) C dX1_passHour_57 rfl rfl ?_
  refine g_getR (pc := 58) C dX1_passHour_58 lfX1_9 (by first | rfl | assumption) rfl ?_
  refine g_bipush (pc := 61) (v := 7) C dX1_passHour_61 (by decide) ?_
  refine g_iald (pc := 63) C dX1_passHour_63 (by first | rfl | assumption) (by decide) (by first | rfl | assumption) (by first | assumption | decide | omega) ?_
  refine g_aload_n (pc := 64) (i := 0) (j := 0) C dX1_passHour_64 rfl rfl ?_
  refine g_getR (pc := 65) C dX1_passHour_65 lfX1_9 (by first | rfl | assumption) rfl ?_
  refine g_bipush (pc := 68) (v := 8) C dX1_passHour_68 (by decide) ?_
  refine g_iald (pc := 70) C dX1_passHour_70 (by first | rfl | assumption) (by decide) (by first | rfl | assumption) (by first | assumption | decide | omega) ?_
  refine g_isub (pc := 71) C dX1_passHour_71 ?_
  refine g_mmax (pc := 72) C dX1_passHour_72 ljX1_42 lsM_max liM kcM_max (Nat.le_of_ble_eq_true rfl) ?_
  refine g_iast (pc := 75) C dX1_passHour_75 (by first | rfl | assumption) (by decide) (by first | rfl | assumption) (by first | assumption | decide | omega) ?_
  refine g_vret (pc := 76) C C2 dX1_passHour_76 (Nat.le_refl _) (Nat.le_refl _) ?_
  clear C C2
  refine ⟨rfl, rfl, ?_, rfl⟩
  simp only [pm_u_s, pm_s_at, pm_s_s]
  rfl

set_option maxHeartbeats 4000000 in
set_option maxRecDepth 100000 in
theorem c_X1_copyFrom {d : Nat} {a q : Nat} (ha : SHP[a]? = some (.inr (.inr (1, [.inr (some q)])))) (hq : SHP[q]? = some (.inl (0, 9))) {b r : Nat} (hb : SHP[b]? = some (.inr (.inr (1, [.inr (some r)])))) (hr : SHP[r]? = some (.inl (0, 9))) {I : pm_I} {J : pm_J} : pm_M (d + 1) 0 0 yX1_copyFrom cX1_copyFrom 2 (none : Option Jvm.ClassFile.FieldType) [.ref a, .ref b] SHP I J (pm_D none SHP (pm_s I q (bl_cp (I q) (I r) 9)) J) := by
  refine pm_start (own := RX1) (nm := "copyFrom") (by decide) rfl rfl (L := [(0, .ref a), (1, .ref b)]) rfl (Nat.le_of_ble_eq_true rfl) (fun Γ C C2 => ?_)
  refine g_aload_n (pc := 0) (i := 1) (j := 1) C dX1_copyFrom_0 rfl rfl ?_
  refine g_getR (pc := 1) C dX1_copyFrom_1 lfX1_9 (by first | rfl | assumption) rfl ?_
  refine g_iconst (pc := 4) (v := 0) C dX1_copyFrom_4 (by decide) ?_
  refine g_aload_n (pc := 5) (i := 0) (j := 0) C dX1_copyFrom_5 rfl rfl ?_
  refine g_getR (pc := 6) C dX1_copyFrom_6 lfX1_9 (by first | rfl | assumption) rfl ?_
  refine g_iconst (pc := 9) (v := 0) C dX1_copyFrom_9 (by decide) ?_
  refine g_bipush (pc := 10) (v := 9) C dX1_copyFrom_10 (by decide) ?_
  refine g_copy (pc := 12) (N := 9) C dX1_copyFrom_12 ljX1_18 rfl (by decide) hr hq (Nat.le_of_ble_eq_true rfl) ?_
  refine g_vret (pc := 15) C C2 dX1_copyFrom_15 (Nat.le_refl _) (Nat.le_refl _) ?_
  exact ⟨rfl, rfl, rfl, rfl⟩

set_option maxHeartbeats 4000000 in
set_option maxRecDepth 100000 in
theorem c_X1_begin {d : Nat} {a q : Nat} (ha : SHP[a]? = some (.inr (.inr (1, [.inr (some q)])))) (hq : SHP[q]? = some (.inl (0, 9))) {k x z : Int32} {I : pm_I} {J : pm_J} : pm_M (d + 1) 0 0 yX1_begin cX1_begin 4 (none : Option Jvm.ClassFile.FieldType) [.ref a, .int k, .int x, .int z] SHP I J (pm_D none SHP (pm_s I q (bl_first (I q) k x z)) J) := by
  refine pm_start (own := RX1) (nm := "begin") (by decide) rfl rfl (L := [(0, .ref a), (1, .int k), (2, .int x), (3, .int z)]) rfl (Nat.le_of_ble_eq_true rfl) (fun Γ C C2 => ?_)
  refine g_getsN (pc := 0) (j := 3) C dX1_begin_0 (by decide) (by decide +kernel) ?_
  refine g_iconst (pc := 3) (v := 0) C dX1_begin_3 (by decide) ?_
  refine g_aload_n (pc := 4) (i := 0) (j := 0) C dX1_begin_4 rfl rfl ?_
  refine g_getR (pc := 5) C dX1_begin_5 lfX1_9 (by first | rfl | assumption) rfl ?_
  refine g_iconst (pc := 8) (v := 0) C dX1_begin_8 (by decide) ?_
  refine g_bipush (pc := 9) (v := 9) C dX1_begin_9 (by decide) ?_
  refine g_copyT (pc := 11) (j := 3) (N := 9) C dX1_begin_11 ljX1_18 rfl (by decide) (by decide) rfl hq (Nat.le_of_ble_eq_true rfl) ?_
  refine g_aload_n (pc := 14) (i := 0) (j := 0) C dX1_begin_14 rfl rfl ?_
  refine g_getR (pc := 15) C dX1_begin_15 lfX1_9 (by first | rfl | assumption) rfl ?_
  refine g_iconst (pc := 18) (v := 0) C dX1_begin_18 (by decide) ?_
  refine g_iload_n (pc := 19) (i := 1) (j := 1) C dX1_begin_19 rfl rfl ?_
  refine g_iast (pc := 20) C dX1_begin_20 (by first | rfl | assumption) (by decide) (by first | rfl | assumption) (by first | assumption | decide | omega) ?_
  refine g_aload_n (pc := 21) (i := 0) (j := 0) C dX1_begin_21 rfl rfl ?_
  refine g_getR (pc := 22) C dX1_begin_22 lfX1_9 (by first | rfl | assumption) rfl ?_
  refine g_iconst (pc := 25) (v := 1) C dX1_begin_25 (by decide) ?_
  refine g_iload_n (pc := 26) (i := 2) (j := 2) C dX1_begin_26 rfl rfl ?_
  refine g_iast (pc := 27) C dX1_begin_27 (by first | rfl | assumption) (by decide) (by first | rfl | assumption) (by first | assumption | decide | omega) ?_
  refine g_aload_n (pc := 28) (i := 0) (j := 0) C dX1_begin_28 rfl rfl ?_
  refine g_getR (pc := 29) C dX1_begin_29 lfX1_9 (by first | rfl | assumption) rfl ?_
  refine g_iconst (pc := 32) (v := 2) C dX1_begin_32 (by decide) ?_
  refine g_iload_n (pc := 33) (i := 3) (j := 3) C dX1_begin_33 rfl rfl ?_
  refine g_iast (pc := 34) C dX1_begin_34 (by first | rfl | assumption) (by decide) (by first | rfl | assumption) (by first | assumption | decide | omega) ?_
  refine g_vret (pc := 35) C C2 dX1_begin_35 (Nat.le_refl _) (Nat.le_refl _) ?_
  refine ⟨rfl, rfl, ?_, rfl⟩
  simp only [pm_cp_s, pm_u_s, pm_s_at, pm_s_s]
  rfl

set_option maxHeartbeats 4000000 in
set_option maxRecDepth 100000 in
theorem c_X5_hourNow {d : Nat} {I : pm_I} {J : pm_J} : pm_M d 0 0 yX5_hourNow cX5_hourNow 1 (some .int) [.ref 1] SHP I J (pm_D (some (.int (I 1 3 - I 1 3 / 24 * 24))) SHP I J) := by
  refine pm_start (own := RX5) (nm := "hourNow") (by decide) rfl rfl (L := [(0, .ref 1)]) rfl (Nat.le_of_ble_eq_true rfl) (fun Γ C C2 => ?_)
  refine g_aload_n (pc := 0) (i := 0) (j := 0) C dX5_hourNow_0 rfl rfl ?_
  refine g_getI (pc := 1) C dX5_hourNow_1 lfX5_25 (by first | rfl | assumption) rfl ?_
  refine g_bipush (pc := 4) (v := 24) C dX5_hourNow_4 (by decide) ?_
  refine g_irem (pc := 6) C dX5_hourNow_6 (by first | decide | assumption) ?_
  refine g_iret (pc := 7) C C2 dX5_hourNow_7 rfl (Nat.le_refl _) (Nat.le_refl _) ?_
  clear C C2
  exact ⟨by first | rfl | grind, rfl, rfl, rfl⟩

set_option maxHeartbeats 4000000 in
set_option maxRecDepth 100000 in
theorem c_X5_has {d : Nat} {x : Int32} {I : pm_I} {J : pm_J} : pm_M (d + 1) 0 0 yX5_has cX5_has 2 (some .boolean) [.ref 1, .int x] SHP I J (pm_D (some (.int (pm_b (0 ≤ x ∧ x ≤ I 1 2 - 1)))) SHP I J) := by
  refine pm_start (own := RX5) (nm := "has") (by decide) rfl rfl (L := [(0, .ref 1), (1, .int x)]) rfl (Nat.le_of_ble_eq_true rfl) (fun Γ C C2 => ?_)
  refine g_iload_n (pc := 0) (i := 1) (j := 1) C dX5_has_0 rfl rfl ?_
  refine g_iconst (pc := 1) (v := 0) C dX5_has_1 (by decide) ?_
  refine g_aload_n (pc := 2) (i := 0) (j := 0) C dX5_has_2 rfl rfl ?_
  refine g_getI (pc := 3) C dX5_has_3 lfX5_21 (by first | rfl | assumption) rfl ?_
  refine g_iconst (pc := 6) (v := 1) C dX5_has_6 (by decide) ?_
  refine g_isub (pc := 7) C dX5_has_7 ?_
  refine g_callN (pc := 8) C dX5_has_8 lmX5_45 kcX7_within (by decide) (c_X7_within) rfl rfl (Nat.le_of_ble_eq_true rfl) ?_
  intro r9 sh9 I9 J9 hD9; obtain ⟨rfl, rfl, rfl, rfl⟩ := pm_Dq hD9
  try simp only [Option.toList_some, Option.toList_none, List.cons_append, List.nil_append]
  refine g_iret (pc := 11) C C2 dX5_has_11 (by first | rfl | exact pm_nz) (Nat.le_refl _) (Nat.le_refl _) ?_
  clear C C2
  exact ⟨by first | rfl | grind, rfl, rfl, rfl⟩

set_option maxHeartbeats 4000000 in
set_option maxRecDepth 100000 in
theorem c_X5_heightOf {d : Nat} {i : Nat} (hi : i < 6) {I : pm_I} {J : pm_J} : pm_M d 0 0 yX5_heightOf cX5_heightOf 2 (some .int) [.ref 1, .int (nI i)] SHP I J (pm_D (some (.int (bl_L I i 3))) SHP I J) := by
  refine pm_start (own := RX5) (nm := "heightOf") (by decide) rfl rfl (L := [(0, .ref 1), (1, .int (nI i))]) rfl (Nat.le_of_ble_eq_true rfl) (fun Γ C C2 => ?_)
  refine g_aload_n (pc := 0) (i := 0) (j := 0) C dX5_heightOf_0 rfl rfl ?_
  refine g_getR (pc := 1) C dX5_heightOf_1 lfX5_17 (by first | rfl | assumption) rfl ?_
  refine g_iload_n (pc := 4) (i := 1) (j := 1) C dX5_heightOf_4 rfl rfl ?_
  refine g_aald (pc := 5) C dX5_heightOf_5 (by first | rfl | assumption) (fun _ => rfl) rfl (by decide) (by first | rfl | assumption) (rsB i hi) ?_
  have e1 := shB i hi
  have e2 := shP i hi
  refine g_getR (pc := 6) C dX5_heightOf_6 lfX5_61 (shB i hi) rfl ?_
  refine g_iconst (pc := 9) (v := 3) C dX5_heightOf_9 (by decide) ?_
  refine g_iald (pc := 10) C dX5_heightOf_10 (by first | rfl | assumption) (by decide) (by first | rfl | assumption) (by first | assumption | decide | omega) ?_
  refine g_iret (pc := 11) C C2 dX5_heightOf_11 rfl (Nat.le_refl _) (Nat.le_refl _) ?_
  clear C C2
  exact ⟨by first | rfl | grind, rfl, rfl, rfl⟩

set_option maxHeartbeats 4000000 in
set_option maxRecDepth 100000 in
theorem c_X5_shareColumn {d : Nat} {i j : Nat} (hi : i < 6) (hj : j < 6) {I : pm_I} {J : pm_J} : pm_M d 0 0 yX5_shareColumn cX5_shareColumn 3 (some .boolean) [.ref 1, .int (nI i), .int (nI j)] SHP I J (pm_D (some (.int (pm_b (i ≠ j ∧ bl_L I i 2 = bl_L I j 2)))) SHP I J) := by
  refine pm_start (own := RX5) (nm := "shareColumn") (by decide) rfl rfl (L := [(0, .ref 1), (1, .int (nI i)), (2, .int (nI j))]) rfl (Nat.le_of_ble_eq_true rfl) (fun Γ C C2 => ?_)
  have e1 := shB i hi
  have e2 := shP i hi
  have e3 := shB j hj
  have e4 := shP j hj
  refine g_iload_n (pc := 0) (i := 1) (j := 1) C dX5_shareColumn_0 rfl rfl ?_
  refine g_iload_n (pc := 1) (i := 2) (j := 2) C dX5_shareColumn_1 rfl rfl ?_
  refine g_icmp_eq (pc := 2) (tgt := 34) C dX5_shareColumn_2 (by decide) (fun h2 => ?_) (fun h2 => ?_)
  · refine g_iconst (pc := 34) (v := 0) C dX5_shareColumn_34 (by decide) ?_
    refine g_iret (pc := 35) C C2 dX5_shareColumn_35 (by first | rfl | exact pm_nz) (Nat.le_refl _) (Nat.le_refl _) ?_
    clear C C2
    clear e1 e2 e3 e4
    have e0 := nI_eq (a := i) (b := j) (by omega) (by omega)
    exact ⟨by grind [pm_b], rfl, rfl, rfl⟩
  · refine g_aload_n (pc := 5) (i := 0) (j := 0) C dX5_shareColumn_5 rfl rfl ?_
    refine g_getR (pc := 6) C dX5_shareColumn_6 lfX5_17 (by first | rfl | assumption) rfl ?_
    refine g_iload_n (pc := 9) (i := 1) (j := 1) C dX5_shareColumn_9 rfl rfl ?_
    refine g_aald (pc := 10) C dX5_shareColumn_10 (by first | rfl | assumption) (fun _ => rfl) rfl (by decide) (by first | rfl | assumption) (rsB i hi) ?_
    refine g_getR (pc := 11) C dX5_shareColumn_11 lfX5_61 (by first | rfl | assumption) rfl ?_
    refine g_iconst (pc := 14) (v := 2) C dX5_shareColumn_14 (by decide) ?_
    refine g_iald (pc := 15) C dX5_shareColumn_15 (by first | rfl | assumption) (by decide) (by first | rfl | assumption) (by first | assumption | decide | omega) ?_
    refine g_aload_n (pc := 16) (i := 0) (j := 0) C dX5_shareColumn_16 rfl rfl ?_
    refine g_getR (pc := 17) C dX5_shareColumn_17 lfX5_17 (by first | rfl | assumption) rfl ?_
    refine g_iload_n (pc := 20) (i := 2) (j := 2) C dX5_shareColumn_20 rfl rfl ?_
    refine g_aald (pc := 21) C dX5_shareColumn_21 (by first | rfl | assumption) (fun _ => rfl) rfl (by decide) (by first | rfl | assumption) (rsB j hj) ?_
    refine g_getR (pc := 22) C dX5_shareColumn_22 lfX5_61 (by first | rfl | assumption) rfl ?_
    refine g_iconst (pc := 25) (v := 2) C dX5_shareColumn_25 (by decide) ?_
    refine g_iald (pc := 26) C dX5_shareColumn_26 (by first | rfl | assumption) (by decide) (by first | rfl | assumption) (by first | assumption | decide | omega) ?_
    refine g_icmp_ne (pc := 27) (tgt := 34) C dX5_shareColumn_27 (by decide) (fun h27 => ?_) (fun h27 => ?_)
    · refine g_iconst (pc := 34) (v := 0) C dX5_shareColumn_34 (by decide) ?_
      refine g_iret (pc := 35) C C2 dX5_shareColumn_35 (by first | rfl | exact pm_nz) (Nat.le_refl _) (Nat.le_refl _) ?_
      clear C C2
      clear e1 e2 e3 e4
      have e0 := nI_eq (a := i) (b := j) (by omega) (by omega)
      exact ⟨by grind [pm_b], rfl, rfl, rfl⟩
    · refine g_iconst (pc := 30) (v := 1) C dX5_shareColumn_30 (by decide) ?_
      refine g_goto (pc := 31) (tgt := 35) C dX5_shareColumn_31 (by decide) ?_
      refine g_iret (pc := 35) C C2 dX5_shareColumn_35 (by first | rfl | exact pm_nz) (Nat.le_refl _) (Nat.le_refl _) ?_
      clear C C2
      clear e1 e2 e3 e4
      have e0 := nI_eq (a := i) (b := j) (by omega) (by omega)
      exact ⟨by grind [pm_b], rfl, rfl, rfl⟩

set_option maxHeartbeats 4000000 in
set_option maxRecDepth 100000 in
theorem c_X5_tooNear {d : Nat} {x y : Int32} {I : pm_I} {J : pm_J} : pm_M (d + 1) 0 0 yX5_tooNear cX5_tooNear 3 (some .boolean) [.ref 1, .int x, .int y] SHP I J (pm_D (some (.int (pm_b (bl_near x y (I 1 4))))) SHP I J) := by
  refine pm_start (own := RX5) (nm := "tooNear") (by decide) rfl rfl (L := [(0, .ref 1), (1, .int x), (2, .int y)]) rfl (Nat.le_of_ble_eq_true rfl) (fun Γ C C2 => ?_)
  refine g_iload_n (pc := 0) (i := 1) (j := 1) C dX5_tooNear_0 rfl rfl ?_
  refine g_if_le (pc := 1) (tgt := 25) C dX5_tooNear_1 (by decide) (fun h1 => ?_) (fun h1 => ?_)
  · refine g_iconst (pc := 25) (v := 0) C dX5_tooNear_25 (by decide) ?_
    refine g_iret (pc := 26) C C2 dX5_tooNear_26 (by first | rfl | exact pm_nz) (Nat.le_refl _) (Nat.le_refl _) ?_
    clear C C2
    exact ⟨by first | rfl | grind [pm_b, bl_abs], rfl, rfl, rfl⟩
  · refine g_iload_n (pc := 4) (i := 2) (j := 2) C dX5_tooNear_4 rfl rfl ?_
    refine g_if_le (pc := 5) (tgt := 25) C dX5_tooNear_5 (by decide) (fun h5 => ?_) (fun h5 => ?_)
    · refine g_iconst (pc := 25) (v := 0) C dX5_tooNear_25 (by decide) ?_
      refine g_iret (pc := 26) C C2 dX5_tooNear_26 (by first | rfl | exact pm_nz) (Nat.le_refl _) (Nat.le_refl _) ?_
      clear C C2
      exact ⟨by first | rfl | grind [pm_b, bl_abs], rfl, rfl, rfl⟩
    · refine g_iload_n (pc := 8) (i := 1) (j := 1) C dX5_tooNear_8 rfl rfl ?_
      refine g_iload_n (pc := 9) (i := 2) (j := 2) C dX5_tooNear_9 rfl rfl ?_
      refine g_isub (pc := 10) C dX5_tooNear_10 ?_
      refine g_mabs (pc := 11) C dX5_tooNear_11 ljX5_64 lsM_abs liM kcM_abs (Nat.le_of_ble_eq_true rfl) ?_
      refine g_aload_n (pc := 14) (i := 0) (j := 0) C dX5_tooNear_14 rfl rfl ?_
      refine g_getI (pc := 15) C dX5_tooNear_15 lfX5_28 (by first | rfl | assumption) rfl ?_
      refine g_icmp_ge (pc := 18) (tgt := 25) C dX5_tooNear_18 (by decide) (fun h18 => ?_) (fun h18 => ?_)
      · refine g_iconst (pc := 25) (v := 0) C dX5_tooNear_25 (by decide) ?_
        refine g_iret (pc := 26) C C2 dX5_tooNear_26 (by first | rfl | exact pm_nz) (Nat.le_refl _) (Nat.le_refl _) ?_
        clear C C2
        exact ⟨by first | rfl | grind [pm_b, bl_abs], rfl, rfl, rfl⟩
      · refine g_iconst (pc := 21) (v := 1) C dX5_tooNear_21 (by decide) ?_
        refine g_goto (pc := 22) (tgt := 26) C dX5_tooNear_22 (by decide) ?_
        refine g_iret (pc := 26) C C2 dX5_tooNear_26 (by first | rfl | exact pm_nz) (Nat.le_refl _) (Nat.le_refl _) ?_
        clear C C2
        exact ⟨by first | rfl | grind [pm_b, bl_abs], rfl, rfl, rfl⟩

set_option maxHeartbeats 4000000 in
set_option maxRecDepth 100000 in
theorem c_X5_touchedBy {d : Nat} {i : Nat} (hi : i < 6) {I : pm_I} {J : pm_J} {n : Nat} (hn : I 1 2 = nI n) (h6 : n ≤ 6)  : pm_M (d + 2) 0 0 yX5_touchedBy cX5_touchedBy 4 (some .int) [.ref 1, .int (nI i)] SHP I J (pm_D (some (.int (bl_tset (bl_L I) (I 1 4) i n))) SHP I J) := by
  refine pm_start (own := RX5) (nm := "touchedBy") (by decide) rfl rfl (L := [(0, .ref 1), (1, .int (nI i))]) rfl (Nat.le_of_ble_eq_true rfl) (fun Γ C C2 => ?_)
  have hloop : ∀ j, j ≤ n → pm_G Γ 0 0 4 [(0, .ref 1), (1, .int (nI i)), (2, .int (bl_tset (bl_L I) (I 1 4) i j)), (3, .int (nI j))] [] SHP I J := by
    refine pm_up (fun j => pm_G Γ 0 0 4 [(0, .ref 1), (1, .int (nI i)), (2, .int (bl_tset (bl_L I) (I 1 4) i j)), (3, .int (nI j))] [] SHP I J) n (fun j hj ih => ?_)
    refine g_iload_n (pc := 4) (i := 3) (j := 3) C dX5_touchedBy_4 rfl rfl ?_
    refine g_aload_n (pc := 5) (i := 0) (j := 0) C dX5_touchedBy_5 rfl rfl ?_
    refine g_getI (pc := 6) C dX5_touchedBy_6 lfX5_21 (by first | rfl | assumption) rfl ?_
    refine g_icmp_ge (pc := 9) (tgt := 50) C dX5_touchedBy_9 (by decide) (fun h9 => ?_) (fun h9 => ?_)
    · have ej : j = n := by rw [hn] at h9; have := (nI_leI (a := n) (b := j) (by omega) (by omega)).mp h9; omega
      subst ej
      refine g_iload_n (pc := 50) (i := 2) (j := 2) C dX5_touchedBy_50 rfl rfl ?_
      refine g_iret (pc := 51) C C2 dX5_touchedBy_51 rfl (Nat.le_refl _) (Nat.le_refl _) ?_
      exact ⟨rfl, rfl, rfl, rfl⟩
    · have hlt : j < n := by rw [hn] at h9; exact Nat.lt_of_not_le (fun q => h9 ((nI_leI (by omega) (by omega)).mpr q))
      have hj6 : j < 6 := by omega
      refine g_aload_n (pc := 12) (i := 0) (j := 0) C dX5_touchedBy_12 rfl rfl ?_
      refine g_iload_n (pc := 13) (i := 1) (j := 1) C dX5_touchedBy_13 rfl rfl ?_
      refine g_iload_n (pc := 14) (i := 3) (j := 3) C dX5_touchedBy_14 rfl rfl ?_
      refine g_callV (pc := 15) C dX5_touchedBy_15 lmX5_70 kcX5_shareColumn (by decide) (by first | rfl | assumption) (c_X5_shareColumn hi hj6) rfl rfl (Nat.le_of_ble_eq_true rfl) ?_
      intro r9 sh9 I9 J9 hD9; obtain ⟨rfl, rfl, rfl, rfl⟩ := pm_Dq hD9
      try simp only [Option.toList_some, Option.toList_none, List.cons_append, List.nil_append]
      refine g_if_eqB (pc := 18) (tgt := 44) C dX5_touchedBy_18 (by decide) (fun h18 => ?_) (fun h18 => ?_)
      · refine g_iinc (pc := 44) (j := 3) (v := _ + 1) (L2 := [(0, _), (1, _), (2, _), (3, _)]) C dX5_touchedBy_44 rfl (by first | rfl | exact pm_inc _) (by decide) rfl ?_
        refine g_goto (pc := 47) (tgt := 4) C dX5_touchedBy_47 (by decide) ?_
        refine pm_Geq (ih hlt) ?_ rfl rfl rfl
        clear C C2 ih
        simp only [bl_tset, nI_1]
        grind
      · refine g_aload_n (pc := 21) (i := 0) (j := 0) C dX5_touchedBy_21 rfl rfl ?_
        refine g_aload_n (pc := 22) (i := 0) (j := 0) C dX5_touchedBy_22 rfl rfl ?_
        refine g_iload_n (pc := 23) (i := 1) (j := 1) C dX5_touchedBy_23 rfl rfl ?_
        refine g_callV (pc := 24) C dX5_touchedBy_24 lmX5_74 kcX5_heightOf (by decide) (by first | rfl | assumption) (c_X5_heightOf hi) rfl rfl (Nat.le_of_ble_eq_true rfl) ?_
        intro r9 sh9 I9 J9 hD9; obtain ⟨rfl, rfl, rfl, rfl⟩ := pm_Dq hD9
        try simp only [Option.toList_some, Option.toList_none, List.cons_append, List.nil_append]
        refine g_aload_n (pc := 27) (i := 0) (j := 0) C dX5_touchedBy_27 rfl rfl ?_
        refine g_iload_n (pc := 28) (i := 3) (j := 3) C dX5_touchedBy_28 rfl rfl ?_
        refine g_callV (pc := 29) C dX5_touchedBy_29 lmX5_74 kcX5_heightOf (by decide) (by first | rfl | assumption) (c_X5_heightOf hj6) rfl rfl (Nat.le_of_ble_eq_true rfl) ?_
        intro r9 sh9 I9 J9 hD9; obtain ⟨rfl, rfl, rfl, rfl⟩ := pm_Dq hD9
        try simp only [Option.toList_some, Option.toList_none, List.cons_append, List.nil_append]
        refine g_callV (pc := 32) C dX5_touchedBy_32 lmX5_77 kcX5_tooNear (by decide) (by first | rfl | assumption) (c_X5_tooNear) rfl rfl (Nat.le_of_ble_eq_true rfl) ?_
        intro r9 sh9 I9 J9 hD9; obtain ⟨rfl, rfl, rfl, rfl⟩ := pm_Dq hD9
        try simp only [Option.toList_some, Option.toList_none, List.cons_append, List.nil_append]
        refine g_if_eqB (pc := 35) (tgt := 44) C dX5_touchedBy_35 (by decide) (fun h35 => ?_) (fun h35 => ?_)
        · refine g_iinc (pc := 44) (j := 3) (v := _ + 1) (L2 := [(0, _), (1, _), (2, _), (3, _)]) C dX5_touchedBy_44 rfl (by first | rfl | exact pm_inc _) (by decide) rfl ?_
          refine g_goto (pc := 47) (tgt := 4) C dX5_touchedBy_47 (by decide) ?_
          refine pm_Geq (ih hlt) ?_ rfl rfl rfl
          clear C C2 ih
          simp only [bl_tset, nI_1]
          grind
        · refine g_iload_n (pc := 38) (i := 2) (j := 2) C dX5_touchedBy_38 rfl rfl ?_
          refine g_iconst (pc := 39) (v := 1) C dX5_touchedBy_39 (by decide) ?_
          refine g_iload_n (pc := 40) (i := 3) (j := 3) C dX5_touchedBy_40 rfl rfl ?_
          refine g_ishl (pc := 41) C dX5_touchedBy_41 ?_
          refine g_ior (pc := 42) C dX5_touchedBy_42 ?_
          refine g_istore_n (pc := 43) (i := 2) (L2 := [(0, _), (1, _), (2, _), (3, _)]) C dX5_touchedBy_43 rfl (by decide) rfl ?_
          refine g_iinc (pc := 44) (j := 3) (v := _ + 1) (L2 := [(0, _), (1, _), (2, _), (3, _)]) C dX5_touchedBy_44 rfl (by first | rfl | exact pm_inc _) (by decide) rfl ?_
          refine g_goto (pc := 47) (tgt := 4) C dX5_touchedBy_47 (by decide) ?_
          refine pm_Geq (ih hlt) ?_ rfl rfl rfl
          clear C C2 ih
          simp only [bl_tset, nI_1]
          grind
  refine g_iconst (pc := 0) (v := 0) C dX5_touchedBy_0 (by decide) ?_
  refine g_istore_n (pc := 1) (i := 2) (L2 := [(0, _), (1, _), (2, _)]) C dX5_touchedBy_1 rfl (by decide) rfl ?_
  refine g_iconst (pc := 2) (v := 0) C dX5_touchedBy_2 (by decide) ?_
  refine g_istore_n (pc := 3) (i := 3) (L2 := [(0, _), (1, _), (2, _), (3, _)]) C dX5_touchedBy_3 rfl (by decide) rfl ?_
  refine pm_Geq (hloop 0 (Nat.zero_le _)) ?_ rfl rfl rfl
  first | rfl | grind
