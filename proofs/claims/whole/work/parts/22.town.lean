/-! The live town: who hangs where, who reaches whom; hours; copies -/
/-- i hangs above j -/
abbrev bl_over (B : Nat → Nat → Int32) (i j : Nat) : Prop := B j 3 < B i 3 ∨ (B i 3 = B j 3 ∧ j < i)
def bl_enc (o : Option Nat) : Int32 := match o with
  | none => -3
  | some k => nI k
def bl_nextA (B : Nat → Nat → Int32) (i : Nat) : Nat → Option Nat
  | 0 => none
  | k + 1 => match bl_nextA B i k with
    | none => if i ≠ k ∧ B i 2 = B k 2 ∧ bl_over B k i then some k else none
    | some m => if (i ≠ k ∧ B i 2 = B k 2 ∧ bl_over B k i) ∧ bl_over B m k then some k else some m
def bl_nextB (B : Nat → Nat → Int32) (i : Nat) : Nat → Option Nat
  | 0 => none
  | k + 1 => match bl_nextB B i k with
    | none => if i ≠ k ∧ B i 2 = B k 2 ∧ bl_over B i k then some k else none
    | some m => if (i ≠ k ∧ B i 2 = B k 2 ∧ bl_over B i k) ∧ bl_over B k m then some k else some m
theorem bl_nextA_lt {B : Nat → Nat → Int32} {i m : Nat} : ∀ {k : Nat}, bl_nextA B i k = some m → m < k
  | 0, h => by cases h
  | k + 1, h => by
    have ih := fun m' (h' : bl_nextA B i k = some m') => bl_nextA_lt (m := m') h'
    grind [bl_nextA]
theorem bl_nextB_lt {B : Nat → Nat → Int32} {i m : Nat} : ∀ {k : Nat}, bl_nextB B i k = some m → m < k
  | 0, h => by cases h
  | k + 1, h => by
    have ih := fun m' (h' : bl_nextB B i k = some m') => bl_nextB_lt (m := m') h'
    grind [bl_nextB]
theorem bl_enc_some {o : Option Nat} (h : ¬ bl_enc o = -3) : ∃ m, o = some m := by
  cases o with
  | none => exact absurd rfl h
  | some m => exact ⟨m, rfl⟩
theorem nI_ne3 {m : Nat} (h : m < 2 ^ 31) : ¬ nI m = -3 := by
  intro q
  have := nI_toInt h
  rw [q] at this
  have e : (-3 : Int32).toInt = -3 := by decide
  omega
def bl_inR (B : Nat → Nat → Int32) (i : Nat) (o : Option Nat) : Int32 := match o with
  | none => 0
  | some m => if bl_abs (B i 3 - B m 3) ≤ 20 then 1 <<< (nI m &&& 31) else 0
def bl_reach (B : Nat → Nat → Int32) (i n : Nat) : Int32 := bl_inR B i (bl_nextA B i n) ||| bl_inR B i (bl_nextB B i n)
abbrev bl_can (B : Nat → Nat → Int32) (i j p n : Nat) (x : Int32) : Prop := (bl_reach B i n >>> (nI j &&& 31)) &&& 1 = 1 ∧ x ≤ B i p ∧ B j p + x ≤ (pm_tv 2).getD p 0
def bl_bc1 (x : Int32) : Int32 := x - ((x.toUInt32 >>> ((1 : Int32).toUInt32 &&& Int32.toUInt32 31)).toInt32 &&& 1431655765)
def bl_bc2 (x : Int32) : Int32 := (x &&& 858993459) + ((x.toUInt32 >>> ((2 : Int32).toUInt32 &&& Int32.toUInt32 31)).toInt32 &&& 858993459)
def bl_bc3 (x : Int32) : Int32 := (x + (x.toUInt32 >>> ((4 : Int32).toUInt32 &&& Int32.toUInt32 31)).toInt32) &&& 252645135
def bl_bc4 (x : Int32) : Int32 := x + (x.toUInt32 >>> ((8 : Int32).toUInt32 &&& Int32.toUInt32 31)).toInt32
def bl_bc5 (x : Int32) : Int32 := (x + (x.toUInt32 >>> ((16 : Int32).toUInt32 &&& Int32.toUInt32 31)).toInt32) &&& 63
def bl_bc (x : Int32) : Int32 := bl_bc5 (bl_bc4 (bl_bc3 (bl_bc2 (bl_bc1 x))))
/-- how often one touches another, both ways counted -/
def bl_ends (B : Nat → Nat → Int32) (gap : Int32) (n : Nat) : Nat → Int32
  | 0 => 0
  | k + 1 => bl_ends B gap n k + bl_bc (bl_tset B gap k n)
/-- the live town's first k balloons an hour on -/
def bl_hr (I : pm_I) (t h : Int32) : Nat → pm_I
  | 0 => I
  | k + 1 => pm_s (bl_hr I t h k) (5 + 2 * k) (bl_pass (I (5 + 2 * k)) t h)
theorem bl_hr_off {I : pm_I} {t h : Int32} {a : Nat} : ∀ {k : Nat}, (∀ b, b < k → a ≠ 5 + 2 * b) → bl_hr I t h k a = I a
  | 0, _ => rfl
  | k + 1, ha => by
    show pm_s _ _ _ a = _
    rw [pm_s_off _ _ _ _ (ha k (Nat.lt_succ_self k)), bl_hr_off (fun b hb => ha b (by omega))]
theorem bl_hr_at {I : pm_I} {t h : Int32} {b : Nat} : ∀ {k : Nat}, b < k → bl_hr I t h k (5 + 2 * b) = bl_pass (I (5 + 2 * b)) t h
  | 0, hb => by omega
  | k + 1, hb => by
    show pm_s _ _ _ _ = _
    by_cases e : b = k
    · subst e
      rw [pm_s_at]
    · rw [pm_s_off _ _ _ _ (by omega), bl_hr_at (by omega)]
/-- k balloons copied from one town (s: its first parts) to another (t) -/
def bl_cps (I : pm_I) (s t : Nat) : Nat → pm_I
  | 0 => I
  | k + 1 => pm_s (bl_cps I s t k) (t + 2 * k) (bl_cp (bl_cps I s t k (t + 2 * k)) (bl_cps I s t k (s + 2 * k)) 9)
def bl_zer (g : Nat → Int32) (k : Nat) : Nat → Int32 := fun j => if j < k then 0 else g j
theorem bl_cps_off {I : pm_I} {s t a : Nat} : ∀ {k : Nat}, (∀ b, b < k → a ≠ t + 2 * b) → bl_cps I s t k a = I a
  | 0, _ => rfl
  | k + 1, ha => by
    show pm_s _ _ _ a = _
    rw [pm_s_off _ _ _ _ (ha k (Nat.lt_succ_self k)), bl_cps_off (fun b hb => ha b (by omega))]
set_option maxHeartbeats 4000000 in
set_option maxRecDepth 100000 in
theorem c_X5_hangsAbove {d : Nat} {i j : Nat} (hi : i < 6) (hj : j < 6) {I : pm_I} {J : pm_J} : pm_M (d + 1) 0 0 yX5_hangsAbove cX5_hangsAbove 3 (some .boolean) [.ref 1, .int (nI i), .int (nI j)] SHP I J (pm_D (some (.int (pm_b (bl_over (bl_L I) i j)))) SHP I J) := by
  refine pm_start (own := RX5) (nm := "hangsAbove") (by decide) rfl rfl (L := [(0, .ref 1), (1, .int (nI i)), (2, .int (nI j))]) rfl (Nat.le_of_ble_eq_true rfl) (fun Γ C C2 => ?_)
  refine g_aload_n (pc := 0) (i := 0) (j := 0) C dX5_hangsAbove_0 rfl rfl ?_
  refine g_iload_n (pc := 1) (i := 1) (j := 1) C dX5_hangsAbove_1 rfl rfl ?_
  refine g_callV (pc := 2) C dX5_hangsAbove_2 lmX5_74 kcX5_heightOf (by decide) (by first | rfl | assumption) (c_X5_heightOf hi) rfl rfl (Nat.le_of_ble_eq_true rfl) ?_
  intro r9 sh9 I9 J9 hD9; obtain ⟨rfl, rfl, rfl, rfl⟩ := pm_Dq hD9
  try simp only [Option.toList_some, Option.toList_none, List.cons_append, List.nil_append]
  refine g_aload_n (pc := 5) (i := 0) (j := 0) C dX5_hangsAbove_5 rfl rfl ?_
  refine g_iload_n (pc := 6) (i := 2) (j := 2) C dX5_hangsAbove_6 rfl rfl ?_
  refine g_callV (pc := 7) C dX5_hangsAbove_7 lmX5_74 kcX5_heightOf (by decide) (by first | rfl | assumption) (c_X5_heightOf hj) rfl rfl (Nat.le_of_ble_eq_true rfl) ?_
  intro r9 sh9 I9 J9 hD9; obtain ⟨rfl, rfl, rfl, rfl⟩ := pm_Dq hD9
  try simp only [Option.toList_some, Option.toList_none, List.cons_append, List.nil_append]
  refine g_icmp_gt (pc := 10) (tgt := 31) C dX5_hangsAbove_10 (by decide) (fun h10 => ?_) (fun h10 => ?_)
  · refine g_iconst (pc := 31) (v := 1) C dX5_hangsAbove_31 (by decide) ?_
    refine g_goto (pc := 32) (tgt := 36) C dX5_hangsAbove_32 (by decide) ?_
    refine g_iret (pc := 36) C C2 dX5_hangsAbove_36 (by first | rfl | exact pm_nz) (Nat.le_refl _) (Nat.le_refl _) ?_
    clear C C2
    have e0 := nI_leI (a := i) (b := j) (by omega) (by omega)
    exact ⟨by first | rfl | grind [pm_b], rfl, rfl, rfl⟩
  · refine g_aload_n (pc := 13) (i := 0) (j := 0) C dX5_hangsAbove_13 rfl rfl ?_
    refine g_iload_n (pc := 14) (i := 1) (j := 1) C dX5_hangsAbove_14 rfl rfl ?_
    refine g_callV (pc := 15) C dX5_hangsAbove_15 lmX5_74 kcX5_heightOf (by decide) (by first | rfl | assumption) (c_X5_heightOf hi) rfl rfl (Nat.le_of_ble_eq_true rfl) ?_
    intro r9 sh9 I9 J9 hD9; obtain ⟨rfl, rfl, rfl, rfl⟩ := pm_Dq hD9
    try simp only [Option.toList_some, Option.toList_none, List.cons_append, List.nil_append]
    refine g_aload_n (pc := 18) (i := 0) (j := 0) C dX5_hangsAbove_18 rfl rfl ?_
    refine g_iload_n (pc := 19) (i := 2) (j := 2) C dX5_hangsAbove_19 rfl rfl ?_
    refine g_callV (pc := 20) C dX5_hangsAbove_20 lmX5_74 kcX5_heightOf (by decide) (by first | rfl | assumption) (c_X5_heightOf hj) rfl rfl (Nat.le_of_ble_eq_true rfl) ?_
    intro r9 sh9 I9 J9 hD9; obtain ⟨rfl, rfl, rfl, rfl⟩ := pm_Dq hD9
    try simp only [Option.toList_some, Option.toList_none, List.cons_append, List.nil_append]
    refine g_icmp_ne (pc := 23) (tgt := 35) C dX5_hangsAbove_23 (by decide) (fun h23 => ?_) (fun h23 => ?_)
    · refine g_iconst (pc := 35) (v := 0) C dX5_hangsAbove_35 (by decide) ?_
      refine g_iret (pc := 36) C C2 dX5_hangsAbove_36 (by first | rfl | exact pm_nz) (Nat.le_refl _) (Nat.le_refl _) ?_
      clear C C2
      have e0 := nI_leI (a := i) (b := j) (by omega) (by omega)
      exact ⟨by first | rfl | grind [pm_b], rfl, rfl, rfl⟩
    · refine g_iload_n (pc := 26) (i := 1) (j := 1) C dX5_hangsAbove_26 rfl rfl ?_
      refine g_iload_n (pc := 27) (i := 2) (j := 2) C dX5_hangsAbove_27 rfl rfl ?_
      refine g_icmp_le (pc := 28) (tgt := 35) C dX5_hangsAbove_28 (by decide) (fun h28 => ?_) (fun h28 => ?_)
      · refine g_iconst (pc := 35) (v := 0) C dX5_hangsAbove_35 (by decide) ?_
        refine g_iret (pc := 36) C C2 dX5_hangsAbove_36 (by first | rfl | exact pm_nz) (Nat.le_refl _) (Nat.le_refl _) ?_
        clear C C2
        have e0 := nI_leI (a := i) (b := j) (by omega) (by omega)
        exact ⟨by first | rfl | grind [pm_b], rfl, rfl, rfl⟩
      · refine g_iconst (pc := 31) (v := 1) C dX5_hangsAbove_31 (by decide) ?_
        refine g_goto (pc := 32) (tgt := 36) C dX5_hangsAbove_32 (by decide) ?_
        refine g_iret (pc := 36) C C2 dX5_hangsAbove_36 (by first | rfl | exact pm_nz) (Nat.le_refl _) (Nat.le_refl _) ?_
        clear C C2
        have e0 := nI_leI (a := i) (b := j) (by omega) (by omega)
        exact ⟨by first | rfl | grind [pm_b], rfl, rfl, rfl⟩

set_option maxHeartbeats 4000000 in
set_option maxRecDepth 100000 in
theorem c_X5_nextAbove {d : Nat} {i : Nat} (hi : i < 6) {I : pm_I} {J : pm_J} {n : Nat} (hn : I 1 2 = nI n) (h6 : n ≤ 6)  : pm_M (d + 2) 0 0 yX5_nextAbove cX5_nextAbove 4 (some .int) [.ref 1, .int (nI i)] SHP I J (pm_D (some (.int (bl_enc (bl_nextA (bl_L I) i n)))) SHP I J) := by
  refine pm_start (own := RX5) (nm := "nextAbove") (by decide) rfl rfl (L := [(0, .ref 1), (1, .int (nI i))]) rfl (Nat.le_of_ble_eq_true rfl) (fun Γ C C2 => ?_)
  have hloop : ∀ j, j ≤ n → pm_G Γ 0 0 5 [(0, .ref 1), (1, .int (nI i)), (2, .int (bl_enc (bl_nextA (bl_L I) i j))), (3, .int (nI j))] [] SHP I J := by
    refine pm_up (fun j => pm_G Γ 0 0 5 [(0, .ref 1), (1, .int (nI i)), (2, .int (bl_enc (bl_nextA (bl_L I) i j))), (3, .int (nI j))] [] SHP I J) n (fun j hj ih => ?_)
    refine g_iload_n (pc := 5) (i := 3) (j := 3) C dX5_nextAbove_5 rfl rfl ?_
    refine g_aload_n (pc := 6) (i := 0) (j := 0) C dX5_nextAbove_6 rfl rfl ?_
    refine g_getI (pc := 7) C dX5_nextAbove_7 lfX5_21 (by first | rfl | assumption) rfl ?_
    refine g_icmp_ge (pc := 10) (tgt := 54) C dX5_nextAbove_10 (by decide) (fun h10 => ?_) (fun h10 => ?_)
    · have ej : j = n := by (try rw [hn] at h10); have := (nI_leI (a := n) (b := j) (by omega) (by omega)).mp h10; omega
      subst ej
      refine g_iload_n (pc := 54) (i := 2) (j := 2) C dX5_nextAbove_54 rfl rfl ?_
      refine g_iret (pc := 55) C C2 dX5_nextAbove_55 rfl (Nat.le_refl _) (Nat.le_refl _) ?_
      exact ⟨rfl, rfl, rfl, rfl⟩
    · have hlt : j < n := by (try rw [hn] at h10); exact Nat.lt_of_not_le (fun q => h10 ((nI_leI (a := n) (b := j) (by omega) (by omega)).mpr q))
      have hj6 : j < 6 := by omega
      refine g_aload_n (pc := 13) (i := 0) (j := 0) C dX5_nextAbove_13 rfl rfl ?_
      refine g_iload_n (pc := 14) (i := 1) (j := 1) C dX5_nextAbove_14 rfl rfl ?_
      refine g_iload_n (pc := 15) (i := 3) (j := 3) C dX5_nextAbove_15 rfl rfl ?_
      refine g_callV (pc := 16) C dX5_nextAbove_16 lmX5_70 kcX5_shareColumn (by decide) (by first | rfl | assumption) (c_X5_shareColumn hi hj6) rfl rfl (Nat.le_of_ble_eq_true rfl) ?_
      intro r9 sh9 I9 J9 hD9; obtain ⟨rfl, rfl, rfl, rfl⟩ := pm_Dq hD9
      try simp only [Option.toList_some, Option.toList_none, List.cons_append, List.nil_append]
      refine g_if_eqB (pc := 19) (tgt := 48) C dX5_nextAbove_19 (by decide) (fun h19 => ?_) (fun h19 => ?_)
      · refine g_iinc (pc := 48) (j := 3) (v := _ + 1) (L2 := [(0, _), (1, _), (2, _), (3, _)]) C dX5_nextAbove_48 rfl (by first | rfl | exact pm_inc _) (by decide) rfl ?_
        refine g_goto (pc := 51) (tgt := 5) C dX5_nextAbove_51 (by decide) ?_
        refine pm_Geq (ih hlt) ?_ rfl rfl rfl
        clear C C2 ih
        have e3 := fun m (h : bl_nextA (bl_L I) i j = some m) => nI_ne3 (m := m) (by have := bl_nextA_lt h; omega)
        grind [bl_nextA, bl_enc, nI_1]
      · refine g_aload_n (pc := 22) (i := 0) (j := 0) C dX5_nextAbove_22 rfl rfl ?_
        refine g_iload_n (pc := 23) (i := 3) (j := 3) C dX5_nextAbove_23 rfl rfl ?_
        refine g_iload_n (pc := 24) (i := 1) (j := 1) C dX5_nextAbove_24 rfl rfl ?_
        refine g_callV (pc := 25) C dX5_nextAbove_25 lmX5_88 kcX5_hangsAbove (by decide) (by first | rfl | assumption) (c_X5_hangsAbove hj6 hi) rfl rfl (Nat.le_of_ble_eq_true rfl) ?_
        intro r9 sh9 I9 J9 hD9; obtain ⟨rfl, rfl, rfl, rfl⟩ := pm_Dq hD9
        try simp only [Option.toList_some, Option.toList_none, List.cons_append, List.nil_append]
        refine g_if_eqB (pc := 28) (tgt := 48) C dX5_nextAbove_28 (by decide) (fun h28 => ?_) (fun h28 => ?_)
        · refine g_iinc (pc := 48) (j := 3) (v := _ + 1) (L2 := [(0, _), (1, _), (2, _), (3, _)]) C dX5_nextAbove_48 rfl (by first | rfl | exact pm_inc _) (by decide) rfl ?_
          refine g_goto (pc := 51) (tgt := 5) C dX5_nextAbove_51 (by decide) ?_
          refine pm_Geq (ih hlt) ?_ rfl rfl rfl
          clear C C2 ih
          have e3 := fun m (h : bl_nextA (bl_L I) i j = some m) => nI_ne3 (m := m) (by have := bl_nextA_lt h; omega)
          grind [bl_nextA, bl_enc, nI_1]
        · refine g_iload_n (pc := 31) (i := 2) (j := 2) C dX5_nextAbove_31 rfl rfl ?_
          refine g_bipush (pc := 32) (v := (-3)) C dX5_nextAbove_32 (by decide) ?_
          refine g_icmp_eq (pc := 34) (tgt := 46) C dX5_nextAbove_34 (by decide) (fun h34 => ?_) (fun h34 => ?_)
          · refine g_iload_n (pc := 46) (i := 3) (j := 3) C dX5_nextAbove_46 rfl rfl ?_
            refine g_istore_n (pc := 47) (i := 2) (L2 := [(0, _), (1, _), (2, _), (3, _)]) C dX5_nextAbove_47 rfl (by decide) rfl ?_
            refine g_iinc (pc := 48) (j := 3) (v := _ + 1) (L2 := [(0, _), (1, _), (2, _), (3, _)]) C dX5_nextAbove_48 rfl (by first | rfl | exact pm_inc _) (by decide) rfl ?_
            refine g_goto (pc := 51) (tgt := 5) C dX5_nextAbove_51 (by decide) ?_
            refine pm_Geq (ih hlt) ?_ rfl rfl rfl
            clear C C2 ih
            have e3 := fun m (h : bl_nextA (bl_L I) i j = some m) => nI_ne3 (m := m) (by have := bl_nextA_lt h; omega)
            grind [bl_nextA, bl_enc, nI_1]
          · obtain ⟨m, em⟩ := bl_enc_some h34
            have hm6 : m < 6 := by have := bl_nextA_lt em; omega
            simp only [em, bl_enc]
            refine g_aload_n (pc := 37) (i := 0) (j := 0) C dX5_nextAbove_37 rfl rfl ?_
            refine g_iload_n (pc := 38) (i := 2) (j := 2) C dX5_nextAbove_38 rfl rfl ?_
            refine g_iload_n (pc := 39) (i := 3) (j := 3) C dX5_nextAbove_39 rfl rfl ?_
            refine g_callV (pc := 40) C dX5_nextAbove_40 lmX5_88 kcX5_hangsAbove (by decide) (by first | rfl | assumption) (c_X5_hangsAbove hm6 hj6) rfl rfl (Nat.le_of_ble_eq_true rfl) ?_
            intro r9 sh9 I9 J9 hD9; obtain ⟨rfl, rfl, rfl, rfl⟩ := pm_Dq hD9
            try simp only [Option.toList_some, Option.toList_none, List.cons_append, List.nil_append]
            refine g_if_eqB (pc := 43) (tgt := 48) C dX5_nextAbove_43 (by decide) (fun h43 => ?_) (fun h43 => ?_)
            · refine g_iinc (pc := 48) (j := 3) (v := _ + 1) (L2 := [(0, _), (1, _), (2, _), (3, _)]) C dX5_nextAbove_48 rfl (by first | rfl | exact pm_inc _) (by decide) rfl ?_
              refine g_goto (pc := 51) (tgt := 5) C dX5_nextAbove_51 (by decide) ?_
              refine pm_Geq (ih hlt) ?_ rfl rfl rfl
              clear C C2 ih
              have e3 := fun m (h : bl_nextA (bl_L I) i j = some m) => nI_ne3 (m := m) (by have := bl_nextA_lt h; omega)
              grind [bl_nextA, bl_enc, nI_1]
            · refine g_iload_n (pc := 46) (i := 3) (j := 3) C dX5_nextAbove_46 rfl rfl ?_
              refine g_istore_n (pc := 47) (i := 2) (L2 := [(0, _), (1, _), (2, _), (3, _)]) C dX5_nextAbove_47 rfl (by decide) rfl ?_
              refine g_iinc (pc := 48) (j := 3) (v := _ + 1) (L2 := [(0, _), (1, _), (2, _), (3, _)]) C dX5_nextAbove_48 rfl (by first | rfl | exact pm_inc _) (by decide) rfl ?_
              refine g_goto (pc := 51) (tgt := 5) C dX5_nextAbove_51 (by decide) ?_
              refine pm_Geq (ih hlt) ?_ rfl rfl rfl
              clear C C2 ih
              have e3 := fun m (h : bl_nextA (bl_L I) i j = some m) => nI_ne3 (m := m) (by have := bl_nextA_lt h; omega)
              grind [bl_nextA, bl_enc, nI_1]
  refine g_bipush (pc := 0) (v := (-3)) C dX5_nextAbove_0 (by decide) ?_
  refine g_istore_n (pc := 2) (i := 2) (L2 := [(0, _), (1, _), (2, _)]) C dX5_nextAbove_2 rfl (by decide) rfl ?_
  refine g_iconst (pc := 3) (v := 0) C dX5_nextAbove_3 (by decide) ?_
  refine g_istore_n (pc := 4) (i := 3) (L2 := [(0, _), (1, _), (2, _), (3, _)]) C dX5_nextAbove_4 rfl (by decide) rfl ?_
  refine pm_Geq (hloop 0 (Nat.zero_le _)) ?_ rfl ?_ ?_ <;> first | rfl | grind

set_option maxHeartbeats 4000000 in
set_option maxRecDepth 100000 in
theorem c_X5_nextBelow {d : Nat} {i : Nat} (hi : i < 6) {I : pm_I} {J : pm_J} {n : Nat} (hn : I 1 2 = nI n) (h6 : n ≤ 6)  : pm_M (d + 2) 0 0 yX5_nextBelow cX5_nextBelow 4 (some .int) [.ref 1, .int (nI i)] SHP I J (pm_D (some (.int (bl_enc (bl_nextB (bl_L I) i n)))) SHP I J) := by
  refine pm_start (own := RX5) (nm := "nextBelow") (by decide) rfl rfl (L := [(0, .ref 1), (1, .int (nI i))]) rfl (Nat.le_of_ble_eq_true rfl) (fun Γ C C2 => ?_)
  have hloop : ∀ j, j ≤ n → pm_G Γ 0 0 5 [(0, .ref 1), (1, .int (nI i)), (2, .int (bl_enc (bl_nextB (bl_L I) i j))), (3, .int (nI j))] [] SHP I J := by
    refine pm_up (fun j => pm_G Γ 0 0 5 [(0, .ref 1), (1, .int (nI i)), (2, .int (bl_enc (bl_nextB (bl_L I) i j))), (3, .int (nI j))] [] SHP I J) n (fun j hj ih => ?_)
    refine g_iload_n (pc := 5) (i := 3) (j := 3) C dX5_nextBelow_5 rfl rfl ?_
    refine g_aload_n (pc := 6) (i := 0) (j := 0) C dX5_nextBelow_6 rfl rfl ?_
    refine g_getI (pc := 7) C dX5_nextBelow_7 lfX5_21 (by first | rfl | assumption) rfl ?_
    refine g_icmp_ge (pc := 10) (tgt := 54) C dX5_nextBelow_10 (by decide) (fun h10 => ?_) (fun h10 => ?_)
    · have ej : j = n := by (try rw [hn] at h10); have := (nI_leI (a := n) (b := j) (by omega) (by omega)).mp h10; omega
      subst ej
      refine g_iload_n (pc := 54) (i := 2) (j := 2) C dX5_nextBelow_54 rfl rfl ?_
      refine g_iret (pc := 55) C C2 dX5_nextBelow_55 rfl (Nat.le_refl _) (Nat.le_refl _) ?_
      exact ⟨rfl, rfl, rfl, rfl⟩
    · have hlt : j < n := by (try rw [hn] at h10); exact Nat.lt_of_not_le (fun q => h10 ((nI_leI (a := n) (b := j) (by omega) (by omega)).mpr q))
      have hj6 : j < 6 := by omega
      refine g_aload_n (pc := 13) (i := 0) (j := 0) C dX5_nextBelow_13 rfl rfl ?_
      refine g_iload_n (pc := 14) (i := 1) (j := 1) C dX5_nextBelow_14 rfl rfl ?_
      refine g_iload_n (pc := 15) (i := 3) (j := 3) C dX5_nextBelow_15 rfl rfl ?_
      refine g_callV (pc := 16) C dX5_nextBelow_16 lmX5_70 kcX5_shareColumn (by decide) (by first | rfl | assumption) (c_X5_shareColumn hi hj6) rfl rfl (Nat.le_of_ble_eq_true rfl) ?_
      intro r9 sh9 I9 J9 hD9; obtain ⟨rfl, rfl, rfl, rfl⟩ := pm_Dq hD9
      try simp only [Option.toList_some, Option.toList_none, List.cons_append, List.nil_append]
      refine g_if_eqB (pc := 19) (tgt := 48) C dX5_nextBelow_19 (by decide) (fun h19 => ?_) (fun h19 => ?_)
      · refine g_iinc (pc := 48) (j := 3) (v := _ + 1) (L2 := [(0, _), (1, _), (2, _), (3, _)]) C dX5_nextBelow_48 rfl (by first | rfl | exact pm_inc _) (by decide) rfl ?_
        refine g_goto (pc := 51) (tgt := 5) C dX5_nextBelow_51 (by decide) ?_
        refine pm_Geq (ih hlt) ?_ rfl rfl rfl
        clear C C2 ih
        have e3 := fun m (h : bl_nextB (bl_L I) i j = some m) => nI_ne3 (m := m) (by have := bl_nextB_lt h; omega)
        grind [bl_nextB, bl_enc, nI_1]
      · refine g_aload_n (pc := 22) (i := 0) (j := 0) C dX5_nextBelow_22 rfl rfl ?_
        refine g_iload_n (pc := 23) (i := 1) (j := 1) C dX5_nextBelow_23 rfl rfl ?_
        refine g_iload_n (pc := 24) (i := 3) (j := 3) C dX5_nextBelow_24 rfl rfl ?_
        refine g_callV (pc := 25) C dX5_nextBelow_25 lmX5_88 kcX5_hangsAbove (by decide) (by first | rfl | assumption) (c_X5_hangsAbove hi hj6) rfl rfl (Nat.le_of_ble_eq_true rfl) ?_
        intro r9 sh9 I9 J9 hD9; obtain ⟨rfl, rfl, rfl, rfl⟩ := pm_Dq hD9
        try simp only [Option.toList_some, Option.toList_none, List.cons_append, List.nil_append]
        refine g_if_eqB (pc := 28) (tgt := 48) C dX5_nextBelow_28 (by decide) (fun h28 => ?_) (fun h28 => ?_)
        · refine g_iinc (pc := 48) (j := 3) (v := _ + 1) (L2 := [(0, _), (1, _), (2, _), (3, _)]) C dX5_nextBelow_48 rfl (by first | rfl | exact pm_inc _) (by decide) rfl ?_
          refine g_goto (pc := 51) (tgt := 5) C dX5_nextBelow_51 (by decide) ?_
          refine pm_Geq (ih hlt) ?_ rfl rfl rfl
          clear C C2 ih
          have e3 := fun m (h : bl_nextB (bl_L I) i j = some m) => nI_ne3 (m := m) (by have := bl_nextB_lt h; omega)
          grind [bl_nextB, bl_enc, nI_1]
        · refine g_iload_n (pc := 31) (i := 2) (j := 2) C dX5_nextBelow_31 rfl rfl ?_
          refine g_bipush (pc := 32) (v := (-3)) C dX5_nextBelow_32 (by decide) ?_
          refine g_icmp_eq (pc := 34) (tgt := 46) C dX5_nextBelow_34 (by decide) (fun h34 => ?_) (fun h34 => ?_)
          · refine g_iload_n (pc := 46) (i := 3) (j := 3) C dX5_nextBelow_46 rfl rfl ?_
            refine g_istore_n (pc := 47) (i := 2) (L2 := [(0, _), (1, _), (2, _), (3, _)]) C dX5_nextBelow_47 rfl (by decide) rfl ?_
            refine g_iinc (pc := 48) (j := 3) (v := _ + 1) (L2 := [(0, _), (1, _), (2, _), (3, _)]) C dX5_nextBelow_48 rfl (by first | rfl | exact pm_inc _) (by decide) rfl ?_
            refine g_goto (pc := 51) (tgt := 5) C dX5_nextBelow_51 (by decide) ?_
            refine pm_Geq (ih hlt) ?_ rfl rfl rfl
            clear C C2 ih
            have e3 := fun m (h : bl_nextB (bl_L I) i j = some m) => nI_ne3 (m := m) (by have := bl_nextB_lt h; omega)
            grind [bl_nextB, bl_enc, nI_1]
          · obtain ⟨m, em⟩ := bl_enc_some h34
            have hm6 : m < 6 := by have := bl_nextB_lt em; omega
            simp only [em, bl_enc]
            refine g_aload_n (pc := 37) (i := 0) (j := 0) C dX5_nextBelow_37 rfl rfl ?_
            refine g_iload_n (pc := 38) (i := 3) (j := 3) C dX5_nextBelow_38 rfl rfl ?_
            refine g_iload_n (pc := 39) (i := 2) (j := 2) C dX5_nextBelow_39 rfl rfl ?_
            refine g_callV (pc := 40) C dX5_nextBelow_40 lmX5_88 kcX5_hangsAbove (by decide) (by first | rfl | assumption) (c_X5_hangsAbove hj6 hm6) rfl rfl (Nat.le_of_ble_eq_true rfl) ?_
            intro r9 sh9 I9 J9 hD9; obtain ⟨rfl, rfl, rfl, rfl⟩ := pm_Dq hD9
            try simp only [Option.toList_some, Option.toList_none, List.cons_append, List.nil_append]
            refine g_if_eqB (pc := 43) (tgt := 48) C dX5_nextBelow_43 (by decide) (fun h43 => ?_) (fun h43 => ?_)
            · refine g_iinc (pc := 48) (j := 3) (v := _ + 1) (L2 := [(0, _), (1, _), (2, _), (3, _)]) C dX5_nextBelow_48 rfl (by first | rfl | exact pm_inc _) (by decide) rfl ?_
              refine g_goto (pc := 51) (tgt := 5) C dX5_nextBelow_51 (by decide) ?_
              refine pm_Geq (ih hlt) ?_ rfl rfl rfl
              clear C C2 ih
              have e3 := fun m (h : bl_nextB (bl_L I) i j = some m) => nI_ne3 (m := m) (by have := bl_nextB_lt h; omega)
              grind [bl_nextB, bl_enc, nI_1]
            · refine g_iload_n (pc := 46) (i := 3) (j := 3) C dX5_nextBelow_46 rfl rfl ?_
              refine g_istore_n (pc := 47) (i := 2) (L2 := [(0, _), (1, _), (2, _), (3, _)]) C dX5_nextBelow_47 rfl (by decide) rfl ?_
              refine g_iinc (pc := 48) (j := 3) (v := _ + 1) (L2 := [(0, _), (1, _), (2, _), (3, _)]) C dX5_nextBelow_48 rfl (by first | rfl | exact pm_inc _) (by decide) rfl ?_
              refine g_goto (pc := 51) (tgt := 5) C dX5_nextBelow_51 (by decide) ?_
              refine pm_Geq (ih hlt) ?_ rfl rfl rfl
              clear C C2 ih
              have e3 := fun m (h : bl_nextB (bl_L I) i j = some m) => nI_ne3 (m := m) (by have := bl_nextB_lt h; omega)
              grind [bl_nextB, bl_enc, nI_1]
  refine g_bipush (pc := 0) (v := (-3)) C dX5_nextBelow_0 (by decide) ?_
  refine g_istore_n (pc := 2) (i := 2) (L2 := [(0, _), (1, _), (2, _)]) C dX5_nextBelow_2 rfl (by decide) rfl ?_
  refine g_iconst (pc := 3) (v := 0) C dX5_nextBelow_3 (by decide) ?_
  refine g_istore_n (pc := 4) (i := 3) (L2 := [(0, _), (1, _), (2, _), (3, _)]) C dX5_nextBelow_4 rfl (by decide) rfl ?_
  refine pm_Geq (hloop 0 (Nat.zero_le _)) ?_ rfl ?_ ?_ <;> first | rfl | grind

set_option maxHeartbeats 4000000 in
set_option maxRecDepth 100000 in
theorem c_X5_inReach0 {d : Nat} {i : Nat} (hi : i < 6) {I : pm_I} {J : pm_J} : pm_M (d + 2) 0 0 yX5_inReach cX5_inReach 3 (some .int) [.ref 1, .int (nI i), .int (-3)] SHP I J (pm_D (some (.int (0))) SHP I J) := by
  refine pm_start (own := RX5) (nm := "inReach") (by decide) rfl rfl (L := [(0, .ref 1), (1, .int (nI i)), (2, .int (-3))]) rfl (Nat.le_of_ble_eq_true rfl) (fun Γ C C2 => ?_)
  refine g_iload_n (pc := 0) (i := 2) (j := 2) C dX5_inReach_0 rfl rfl ?_
  refine g_bipush (pc := 1) (v := (-3)) C dX5_inReach_1 (by decide) ?_
  refine g_icmp_eq (pc := 3) (tgt := 25) C dX5_inReach_3 (by decide) (fun h3 => ?_) (fun h3 => absurd rfl h3)
  refine g_iconst (pc := 25) (v := 0) C dX5_inReach_25 (by decide) ?_
  refine g_iret (pc := 26) C C2 dX5_inReach_26 rfl (Nat.le_refl _) (Nat.le_refl _) ?_
  exact ⟨rfl, rfl, rfl, rfl⟩

set_option maxHeartbeats 4000000 in
set_option maxRecDepth 100000 in
theorem c_X5_inReach1 {d : Nat} {i m : Nat} (hi : i < 6) (hm : m < 6) {I : pm_I} {J : pm_J} : pm_M (d + 2) 0 0 yX5_inReach cX5_inReach 3 (some .int) [.ref 1, .int (nI i), .int (nI m)] SHP I J (pm_D (some (.int (bl_inR (bl_L I) i (some m)))) SHP I J) := by
  refine pm_start (own := RX5) (nm := "inReach") (by decide) rfl rfl (L := [(0, .ref 1), (1, .int (nI i)), (2, .int (nI m))]) rfl (Nat.le_of_ble_eq_true rfl) (fun Γ C C2 => ?_)
  refine g_iload_n (pc := 0) (i := 2) (j := 2) C dX5_inReach_0 rfl rfl ?_
  refine g_bipush (pc := 1) (v := (-3)) C dX5_inReach_1 (by decide) ?_
  refine g_icmp_eq (pc := 3) (tgt := 25) C dX5_inReach_3 (by decide) (fun h3 => absurd h3 (nI_ne3 (by omega))) (fun h3 => ?_)
  refine g_aload_n (pc := 6) (i := 0) (j := 0) C dX5_inReach_6 rfl rfl ?_
  refine g_iload_n (pc := 7) (i := 1) (j := 1) C dX5_inReach_7 rfl rfl ?_
  refine g_callV (pc := 8) C dX5_inReach_8 lmX5_74 kcX5_heightOf (by decide) (by first | rfl | assumption) (c_X5_heightOf hi) rfl rfl (Nat.le_of_ble_eq_true rfl) ?_
  intro r9 sh9 I9 J9 hD9; obtain ⟨rfl, rfl, rfl, rfl⟩ := pm_Dq hD9
  try simp only [Option.toList_some, Option.toList_none, List.cons_append, List.nil_append]
  refine g_aload_n (pc := 11) (i := 0) (j := 0) C dX5_inReach_11 rfl rfl ?_
  refine g_iload_n (pc := 12) (i := 2) (j := 2) C dX5_inReach_12 rfl rfl ?_
  refine g_callV (pc := 13) C dX5_inReach_13 lmX5_74 kcX5_heightOf (by decide) (by first | rfl | assumption) (c_X5_heightOf hm) rfl rfl (Nat.le_of_ble_eq_true rfl) ?_
  intro r9 sh9 I9 J9 hD9; obtain ⟨rfl, rfl, rfl, rfl⟩ := pm_Dq hD9
  try simp only [Option.toList_some, Option.toList_none, List.cons_append, List.nil_append]
  refine g_isub (pc := 16) C dX5_inReach_16 ?_
  refine g_mabs (pc := 17) C dX5_inReach_17 ljX5_64 lsM_abs liM kcM_abs (Nat.le_of_ble_eq_true rfl) ?_
  refine g_bipush (pc := 20) (v := 20) C dX5_inReach_20 (by decide) ?_
  refine g_icmp_le (pc := 22) (tgt := 27) C dX5_inReach_22 (by decide) (fun h22 => ?_) (fun h22 => ?_)
  · refine g_iconst (pc := 27) (v := 1) C dX5_inReach_27 (by decide) ?_
    refine g_iload_n (pc := 28) (i := 2) (j := 2) C dX5_inReach_28 rfl rfl ?_
    refine g_ishl (pc := 29) C dX5_inReach_29 ?_
    refine g_iret (pc := 30) C C2 dX5_inReach_30 rfl (Nat.le_refl _) (Nat.le_refl _) ?_
    clear C C2
    exact ⟨by first | rfl | grind [bl_inR, bl_abs], rfl, rfl, rfl⟩
  · refine g_iconst (pc := 25) (v := 0) C dX5_inReach_25 (by decide) ?_
    refine g_iret (pc := 26) C C2 dX5_inReach_26 rfl (Nat.le_refl _) (Nat.le_refl _) ?_
    clear C C2
    exact ⟨by first | rfl | grind [bl_inR, bl_abs], rfl, rfl, rfl⟩

theorem c_X5_inReach {d : Nat} {i : Nat} (hi : i < 6) {I : pm_I} {J : pm_J} {q : Option Nat} (hq : ∀ m, q = some m → m < 6) : pm_M (d + 2) 0 0 yX5_inReach cX5_inReach 3 (some .int) [.ref 1, .int (nI i), .int (bl_enc q)] SHP I J (pm_D (some (.int (bl_inR (bl_L I) i q))) SHP I J) := by
  cases q with
  | none => exact c_X5_inReach0 hi
  | some m => exact c_X5_inReach1 hi (hq m rfl)

set_option maxHeartbeats 4000000 in
set_option maxRecDepth 100000 in
theorem c_X5_reachedBy {d : Nat} {i : Nat} (hi : i < 6) {I : pm_I} {J : pm_J} {n : Nat} (hn : I 1 2 = nI n) (h6 : n ≤ 6)  : pm_M (d + 3) 0 0 yX5_reachedBy cX5_reachedBy 2 (some .int) [.ref 1, .int (nI i)] SHP I J (pm_D (some (.int (bl_reach (bl_L I) i n))) SHP I J) := by
  refine pm_start (own := RX5) (nm := "reachedBy") (by decide) rfl rfl (L := [(0, .ref 1), (1, .int (nI i))]) rfl (Nat.le_of_ble_eq_true rfl) (fun Γ C C2 => ?_)
  refine g_aload_n (pc := 0) (i := 0) (j := 0) C dX5_reachedBy_0 rfl rfl ?_
  refine g_iload_n (pc := 1) (i := 1) (j := 1) C dX5_reachedBy_1 rfl rfl ?_
  refine g_aload_n (pc := 2) (i := 0) (j := 0) C dX5_reachedBy_2 rfl rfl ?_
  refine g_iload_n (pc := 3) (i := 1) (j := 1) C dX5_reachedBy_3 rfl rfl ?_
  refine g_callV (pc := 4) C dX5_reachedBy_4 lmX5_91 kcX5_nextAbove (by decide) (by first | rfl | assumption) (c_X5_nextAbove hi hn h6) rfl rfl (Nat.le_of_ble_eq_true rfl) ?_
  intro r9 sh9 I9 J9 hD9; obtain ⟨rfl, rfl, rfl, rfl⟩ := pm_Dq hD9
  try simp only [Option.toList_some, Option.toList_none, List.cons_append, List.nil_append]
  refine g_callV (pc := 7) C dX5_reachedBy_7 lmX5_94 kcX5_inReach (by decide) (by first | rfl | assumption) (c_X5_inReach hi (fun m h => by have := bl_nextA_lt h; omega)) rfl rfl (Nat.le_of_ble_eq_true rfl) ?_
  intro r9 sh9 I9 J9 hD9; obtain ⟨rfl, rfl, rfl, rfl⟩ := pm_Dq hD9
  try simp only [Option.toList_some, Option.toList_none, List.cons_append, List.nil_append]
  refine g_aload_n (pc := 10) (i := 0) (j := 0) C dX5_reachedBy_10 rfl rfl ?_
  refine g_iload_n (pc := 11) (i := 1) (j := 1) C dX5_reachedBy_11 rfl rfl ?_
  refine g_aload_n (pc := 12) (i := 0) (j := 0) C dX5_reachedBy_12 rfl rfl ?_
  refine g_iload_n (pc := 13) (i := 1) (j := 1) C dX5_reachedBy_13 rfl rfl ?_
  refine g_callV (pc := 14) C dX5_reachedBy_14 lmX5_98 kcX5_nextBelow (by decide) (by first | rfl | assumption) (c_X5_nextBelow hi hn h6) rfl rfl (Nat.le_of_ble_eq_true rfl) ?_
  intro r9 sh9 I9 J9 hD9; obtain ⟨rfl, rfl, rfl, rfl⟩ := pm_Dq hD9
  try simp only [Option.toList_some, Option.toList_none, List.cons_append, List.nil_append]
  refine g_callV (pc := 17) C dX5_reachedBy_17 lmX5_94 kcX5_inReach (by decide) (by first | rfl | assumption) (c_X5_inReach hi (fun m h => by have := bl_nextB_lt h; omega)) rfl rfl (Nat.le_of_ble_eq_true rfl) ?_
  intro r9 sh9 I9 J9 hD9; obtain ⟨rfl, rfl, rfl, rfl⟩ := pm_Dq hD9
  try simp only [Option.toList_some, Option.toList_none, List.cons_append, List.nil_append]
  refine g_ior (pc := 20) C dX5_reachedBy_20 ?_
  refine g_iret (pc := 21) C C2 dX5_reachedBy_21 rfl (Nat.le_refl _) (Nat.le_refl _) ?_
  clear C C2
  exact ⟨by first | rfl | grind [bl_reach], rfl, rfl, rfl⟩

set_option maxHeartbeats 4000000 in
set_option maxRecDepth 100000 in
theorem c_X5_canGive {d : Nat} {i j p : Nat} {x : Int32} (hi : i < 6) (hj : j < 6) (hp : p < 9) {I : pm_I} {J : pm_J} {n : Nat} (hn : I 1 2 = nI n) (h6 : n ≤ 6)  : pm_M (d + 4) 0 0 yX5_canGive cX5_canGive 5 (some .boolean) [.ref 1, .int (nI i), .int (nI j), .int (nI p), .int x] SHP I J (pm_D (some (.int (pm_b (bl_can (bl_L I) i j p n x)))) SHP I J) := by
  refine pm_start (own := RX5) (nm := "canGive") (by decide) rfl rfl (L := [(0, .ref 1), (1, .int (nI i)), (2, .int (nI j)), (3, .int (nI p)), (4, .int x)]) rfl (Nat.le_of_ble_eq_true rfl) (fun Γ C C2 => ?_)
  have e1 := shB i hi
  have e2 := shP i hi
  have e3 := shB j hj
  have e4 := shP j hj
  refine g_aload_n (pc := 0) (i := 0) (j := 0) C dX5_canGive_0 rfl rfl ?_
  refine g_iload_n (pc := 1) (i := 1) (j := 1) C dX5_canGive_1 rfl rfl ?_
  refine g_callV (pc := 2) C dX5_canGive_2 lmX5_101 kcX5_reachedBy (by decide) (by first | rfl | assumption) (c_X5_reachedBy hi hn h6) rfl rfl (Nat.le_of_ble_eq_true rfl) ?_
  intro r9 sh9 I9 J9 hD9; obtain ⟨rfl, rfl, rfl, rfl⟩ := pm_Dq hD9
  try simp only [Option.toList_some, Option.toList_none, List.cons_append, List.nil_append]
  refine g_iload_n (pc := 5) (i := 2) (j := 2) C dX5_canGive_5 rfl rfl ?_
  refine g_ishr (pc := 6) C dX5_canGive_6 ?_
  refine g_iconst (pc := 7) (v := 1) C dX5_canGive_7 (by decide) ?_
  refine g_iand (pc := 8) C dX5_canGive_8 ?_
  refine g_iconst (pc := 9) (v := 1) C dX5_canGive_9 (by decide) ?_
  refine g_icmp_ne (pc := 10) (tgt := 55) C dX5_canGive_10 (by decide) (fun h10 => ?_) (fun h10 => ?_)
  · refine g_iconst (pc := 55) (v := 0) C dX5_canGive_55 (by decide) ?_
    refine g_iret (pc := 56) C C2 dX5_canGive_56 (by first | rfl | exact pm_nz) (Nat.le_refl _) (Nat.le_refl _) ?_
    clear C C2
    exact ⟨by first | rfl | grind [pm_b], rfl, rfl, rfl⟩
  · refine g_aload_n (pc := 13) (i := 0) (j := 0) C dX5_canGive_13 rfl rfl ?_
    refine g_getR (pc := 14) C dX5_canGive_14 lfX5_17 (by first | rfl | assumption) rfl ?_
    refine g_iload_n (pc := 17) (i := 1) (j := 1) C dX5_canGive_17 rfl rfl ?_
    refine g_aald (pc := 18) C dX5_canGive_18 (by first | rfl | assumption) (fun _ => rfl) rfl (by decide) (by first | rfl | assumption) (rsB i hi) ?_
    refine g_getR (pc := 19) C dX5_canGive_19 lfX5_61 (by first | rfl | assumption) rfl ?_
    refine g_iload_n (pc := 22) (i := 3) (j := 3) C dX5_canGive_22 rfl rfl ?_
    refine g_iald (pc := 23) C dX5_canGive_23 (by first | rfl | assumption) (by decide) (by first | rfl | assumption) (by first | assumption | decide | omega) ?_
    refine g_iload (pc := 24) (j := 4) C dX5_canGive_24 rfl ?_
    refine g_icmp_lt (pc := 26) (tgt := 55) C dX5_canGive_26 (by decide) (fun h26 => ?_) (fun h26 => ?_)
    · refine g_iconst (pc := 55) (v := 0) C dX5_canGive_55 (by decide) ?_
      refine g_iret (pc := 56) C C2 dX5_canGive_56 (by first | rfl | exact pm_nz) (Nat.le_refl _) (Nat.le_refl _) ?_
      clear C C2
      exact ⟨by first | rfl | grind [pm_b], rfl, rfl, rfl⟩
    · refine g_aload_n (pc := 29) (i := 0) (j := 0) C dX5_canGive_29 rfl rfl ?_
      refine g_getR (pc := 30) C dX5_canGive_30 lfX5_17 (by first | rfl | assumption) rfl ?_
      refine g_iload_n (pc := 33) (i := 2) (j := 2) C dX5_canGive_33 rfl rfl ?_
      refine g_aald (pc := 34) C dX5_canGive_34 (by first | rfl | assumption) (fun _ => rfl) rfl (by decide) (by first | rfl | assumption) (rsB j hj) ?_
      refine g_getR (pc := 35) C dX5_canGive_35 lfX5_61 (by first | rfl | assumption) rfl ?_
      refine g_iload_n (pc := 38) (i := 3) (j := 3) C dX5_canGive_38 rfl rfl ?_
      refine g_iald (pc := 39) C dX5_canGive_39 (by first | rfl | assumption) (by decide) (by first | rfl | assumption) (by first | assumption | decide | omega) ?_
      refine g_iload (pc := 40) (j := 4) C dX5_canGive_40 rfl ?_
      refine g_iadd (pc := 42) C dX5_canGive_42 ?_
      refine g_getsN (pc := 43) (j := 2) C dX5_canGive_43 (by decide) (by decide +kernel) ?_
      refine g_iload_n (pc := 46) (i := 3) (j := 3) C dX5_canGive_46 rfl rfl ?_
      refine g_tald (pc := 47) (j := 2) C dX5_canGive_47 (by decide) (by first | rfl | assumption) (by first | assumption | decide | omega) ?_
      refine g_icmp_gt (pc := 48) (tgt := 55) C dX5_canGive_48 (by decide) (fun h48 => ?_) (fun h48 => ?_)
      · refine g_iconst (pc := 55) (v := 0) C dX5_canGive_55 (by decide) ?_
        refine g_iret (pc := 56) C C2 dX5_canGive_56 (by first | rfl | exact pm_nz) (Nat.le_refl _) (Nat.le_refl _) ?_
        clear C C2
        exact ⟨by first | rfl | grind [pm_b], rfl, rfl, rfl⟩
      · refine g_iconst (pc := 51) (v := 1) C dX5_canGive_51 (by decide) ?_
        refine g_goto (pc := 52) (tgt := 56) C dX5_canGive_52 (by decide) ?_
        refine g_iret (pc := 56) C C2 dX5_canGive_56 (by first | rfl | exact pm_nz) (Nat.le_refl _) (Nat.le_refl _) ?_
        clear C C2
        exact ⟨by first | rfl | grind [pm_b], rfl, rfl, rfl⟩

set_option maxHeartbeats 4000000 in
set_option maxRecDepth 100000 in
theorem c_J6_bitCount_0f7a4 {d : Nat} {x : Int32} {I : pm_I} {J : pm_J} : pm_M d 0 0 yJ6_bitCount_0f7a4 cJ6_bitCount_0f7a4 1 (some .int) [.int x] SHP I J (pm_D (some (.int (bl_bc x))) SHP I J) := by
  refine pm_start (own := RJ6) (nm := "bitCount") (by decide) rfl rfl (L := [(0, .int x)]) rfl (Nat.le_of_ble_eq_true rfl) (fun Γ C C2 => ?_)
  refine g_iload_n (pc := 0) (i := 0) (j := 0) C dJ6_bitCount_0f7a4_0 rfl rfl ?_
  refine g_iload_n (pc := 1) (i := 0) (j := 0) C dJ6_bitCount_0f7a4_1 rfl rfl ?_
  refine g_iconst (pc := 2) (v := 1) C dJ6_bitCount_0f7a4_2 (by decide) ?_
  refine g_iushr (pc := 3) C dJ6_bitCount_0f7a4_3 ?_
  refine g_ldcw (pc := 4) C dJ6_bitCount_0f7a4_4 lcJ6_265 ?_
  refine g_iand (pc := 7) C dJ6_bitCount_0f7a4_7 ?_
  refine g_isub (pc := 8) C dJ6_bitCount_0f7a4_8 ?_
  refine g_istore_n (pc := 9) (i := 0) (L2 := [(0, _)]) C dJ6_bitCount_0f7a4_9 rfl (by decide) rfl ?_
  refine g_iload_n (pc := 10) (i := 0) (j := 0) C dJ6_bitCount_0f7a4_10 rfl rfl ?_
  refine g_ldcw (pc := 11) C dJ6_bitCount_0f7a4_11 lcJ6_266 ?_
  refine g_iand (pc := 14) C dJ6_bitCount_0f7a4_14 ?_
  refine g_iload_n (pc := 15) (i := 0) (j := 0) C dJ6_bitCount_0f7a4_15 rfl rfl ?_
  refine g_iconst (pc := 16) (v := 2) C dJ6_bitCount_0f7a4_16 (by decide) ?_
  refine g_iushr (pc := 17) C dJ6_bitCount_0f7a4_17 ?_
  refine g_ldcw (pc := 18) C dJ6_bitCount_0f7a4_18 lcJ6_266 ?_
  refine g_iand (pc := 21) C dJ6_bitCount_0f7a4_21 ?_
  refine g_iadd (pc := 22) C dJ6_bitCount_0f7a4_22 ?_
  refine g_istore_n (pc := 23) (i := 0) (L2 := [(0, _)]) C dJ6_bitCount_0f7a4_23 rfl (by decide) rfl ?_
  refine g_iload_n (pc := 24) (i := 0) (j := 0) C dJ6_bitCount_0f7a4_24 rfl rfl ?_
  refine g_iload_n (pc := 25) (i := 0) (j := 0) C dJ6_bitCount_0f7a4_25 rfl rfl ?_
  refine g_iconst (pc := 26) (v := 4) C dJ6_bitCount_0f7a4_26 (by decide) ?_
  refine g_iushr (pc := 27) C dJ6_bitCount_0f7a4_27 ?_
  refine g_iadd (pc := 28) C dJ6_bitCount_0f7a4_28 ?_
  refine g_ldcw (pc := 29) C dJ6_bitCount_0f7a4_29 lcJ6_267 ?_
  refine g_iand (pc := 32) C dJ6_bitCount_0f7a4_32 ?_
  refine g_istore_n (pc := 33) (i := 0) (L2 := [(0, _)]) C dJ6_bitCount_0f7a4_33 rfl (by decide) rfl ?_
  refine g_iload_n (pc := 34) (i := 0) (j := 0) C dJ6_bitCount_0f7a4_34 rfl rfl ?_
  refine g_iload_n (pc := 35) (i := 0) (j := 0) C dJ6_bitCount_0f7a4_35 rfl rfl ?_
  refine g_bipush (pc := 36) (v := 8) C dJ6_bitCount_0f7a4_36 (by decide) ?_
  refine g_iushr (pc := 38) C dJ6_bitCount_0f7a4_38 ?_
  refine g_iadd (pc := 39) C dJ6_bitCount_0f7a4_39 ?_
  refine g_istore_n (pc := 40) (i := 0) (L2 := [(0, _)]) C dJ6_bitCount_0f7a4_40 rfl (by decide) rfl ?_
  refine g_iload_n (pc := 41) (i := 0) (j := 0) C dJ6_bitCount_0f7a4_41 rfl rfl ?_
  refine g_iload_n (pc := 42) (i := 0) (j := 0) C dJ6_bitCount_0f7a4_42 rfl rfl ?_
  refine g_bipush (pc := 43) (v := 16) C dJ6_bitCount_0f7a4_43 (by decide) ?_
  refine g_iushr (pc := 45) C dJ6_bitCount_0f7a4_45 ?_
  refine g_iadd (pc := 46) C dJ6_bitCount_0f7a4_46 ?_
  refine g_istore_n (pc := 47) (i := 0) (L2 := [(0, _)]) C dJ6_bitCount_0f7a4_47 rfl (by decide) rfl ?_
  refine g_iload_n (pc := 48) (i := 0) (j := 0) C dJ6_bitCount_0f7a4_48 rfl rfl ?_
  refine g_bipush (pc := 49) (v := 63) C dJ6_bitCount_0f7a4_49 (by decide) ?_
  refine g_iand (pc := 51) C dJ6_bitCount_0f7a4_51 ?_
  refine g_iret (pc := 52) C C2 dJ6_bitCount_0f7a4_52 rfl (Nat.le_refl _) (Nat.le_refl _) ?_
  exact ⟨rfl, rfl, rfl, rfl⟩

set_option maxHeartbeats 4000000 in
set_option maxRecDepth 100000 in
theorem c_X5_touchingPairs {d : Nat} {I : pm_I} {J : pm_J} {n : Nat} (hn : I 1 2 = nI n) (h6 : n ≤ 6)  : pm_M (d + 3) 0 0 yX5_touchingPairs cX5_touchingPairs 3 (some .int) [.ref 1] SHP I J (pm_D (some (.int (bl_ends (bl_L I) (I 1 4) n n / 2))) SHP I J) := by
  refine pm_start (own := RX5) (nm := "touchingPairs") (by decide) rfl rfl (L := [(0, .ref 1)]) rfl (Nat.le_of_ble_eq_true rfl) (fun Γ C C2 => ?_)
  have hloop : ∀ j, j ≤ n → pm_G Γ 0 0 4 [(0, .ref 1), (1, .int (bl_ends (bl_L I) (I 1 4) n j)), (2, .int (nI j))] [] SHP I J := by
    refine pm_up (fun j => pm_G Γ 0 0 4 [(0, .ref 1), (1, .int (bl_ends (bl_L I) (I 1 4) n j)), (2, .int (nI j))] [] SHP I J) n (fun j hj ih => ?_)
    refine g_iload_n (pc := 4) (i := 2) (j := 2) C dX5_touchingPairs_4 rfl rfl ?_
    refine g_aload_n (pc := 5) (i := 0) (j := 0) C dX5_touchingPairs_5 rfl rfl ?_
    refine g_getI (pc := 6) C dX5_touchingPairs_6 lfX5_21 (by first | rfl | assumption) rfl ?_
    refine g_icmp_ge (pc := 9) (tgt := 29) C dX5_touchingPairs_9 (by decide) (fun h9 => ?_) (fun h9 => ?_)
    · have ej : j = n := by (try rw [hn] at h9); have := (nI_leI (a := n) (b := j) (by omega) (by omega)).mp h9; omega
      subst ej
      refine g_iload_n (pc := 29) (i := 1) (j := 1) C dX5_touchingPairs_29 rfl rfl ?_
      refine g_iconst (pc := 30) (v := 2) C dX5_touchingPairs_30 (by decide) ?_
      refine g_idiv (pc := 31) C dX5_touchingPairs_31 (by first | decide | assumption) ?_
      refine g_iret (pc := 32) C C2 dX5_touchingPairs_32 rfl (Nat.le_refl _) (Nat.le_refl _) ?_
      exact ⟨rfl, rfl, rfl, rfl⟩
    · have hlt : j < n := by (try rw [hn] at h9); exact Nat.lt_of_not_le (fun q => h9 ((nI_leI (a := n) (b := j) (by omega) (by omega)).mpr q))
      have hj6 : j < 6 := by omega
      refine g_iload_n (pc := 12) (i := 1) (j := 1) C dX5_touchingPairs_12 rfl rfl ?_
      refine g_aload_n (pc := 13) (i := 0) (j := 0) C dX5_touchingPairs_13 rfl rfl ?_
      refine g_iload_n (pc := 14) (i := 2) (j := 2) C dX5_touchingPairs_14 rfl rfl ?_
      refine g_callV (pc := 15) C dX5_touchingPairs_15 lmX5_80 kcX5_touchedBy (by decide) (by first | rfl | assumption) (c_X5_touchedBy hj6 hn h6) rfl rfl (Nat.le_of_ble_eq_true rfl) ?_
      intro r9 sh9 I9 J9 hD9; obtain ⟨rfl, rfl, rfl, rfl⟩ := pm_Dq hD9
      try simp only [Option.toList_some, Option.toList_none, List.cons_append, List.nil_append]
      refine g_callS (pc := 18) C dX5_touchingPairs_18 lmX5_83 kcJ6_bitCount_0f7a4 (by decide) (c_J6_bitCount_0f7a4) rfl rfl (Nat.le_of_ble_eq_true rfl) ?_
      intro r9 sh9 I9 J9 hD9; obtain ⟨rfl, rfl, rfl, rfl⟩ := pm_Dq hD9
      try simp only [Option.toList_some, Option.toList_none, List.cons_append, List.nil_append]
      refine g_iadd (pc := 21) C dX5_touchingPairs_21 ?_
      refine g_istore_n (pc := 22) (i := 1) (L2 := [(0, _), (1, _), (2, _)]) C dX5_touchingPairs_22 rfl (by decide) rfl ?_
      refine g_iinc (pc := 23) (j := 2) (v := _ + 1) (L2 := [(0, _), (1, _), (2, _)]) C dX5_touchingPairs_23 rfl (by first | rfl | exact pm_inc _) (by decide) rfl ?_
      refine g_goto (pc := 26) (tgt := 4) C dX5_touchingPairs_26 (by decide) ?_
      refine pm_Geq (ih hlt) ?_ rfl rfl rfl
      simp only [bl_ends, nI_1]
  refine g_iconst (pc := 0) (v := 0) C dX5_touchingPairs_0 (by decide) ?_
  refine g_istore_n (pc := 1) (i := 1) (L2 := [(0, _), (1, _)]) C dX5_touchingPairs_1 rfl (by decide) rfl ?_
  refine g_iconst (pc := 2) (v := 0) C dX5_touchingPairs_2 (by decide) ?_
  refine g_istore_n (pc := 3) (i := 2) (L2 := [(0, _), (1, _), (2, _)]) C dX5_touchingPairs_3 rfl (by decide) rfl ?_
  refine pm_Geq (hloop 0 (Nat.zero_le _)) ?_ rfl ?_ ?_ <;> first | rfl | grind

set_option maxHeartbeats 4000000 in
set_option maxRecDepth 100000 in
theorem c_X5_passHour {d : Nat} {I : pm_I} {J : pm_J} {n : Nat} (hn : I 1 2 = nI n) (h6 : n ≤ 6) {h : Nat} (hh : I 1 3 - I 1 3 / 24 * 24 = nI h) (hh24 : h < 24) : pm_M (d + 3) 0 0 yX5_passHour cX5_passHour 3 (none : Option Jvm.ClassFile.FieldType) [.ref 1] SHP I J (pm_D none SHP (pm_u (bl_hr I (I 2 h) (nI h) n) 1 3 (I 1 3 + 1)) J) := by
  refine pm_start (own := RX5) (nm := "passHour") (by decide) rfl rfl (L := [(0, .ref 1)]) rfl (Nat.le_of_ble_eq_true rfl) (fun Γ C C2 => ?_)
  have hloop : ∀ j, j ≤ n → pm_G Γ 0 0 7 [(0, .ref 1), (1, .int (nI h)), (2, .int (nI j))] [] SHP (bl_hr I (I 2 h) (nI h) j) J := by
    refine pm_up (fun j => pm_G Γ 0 0 7 [(0, .ref 1), (1, .int (nI h)), (2, .int (nI j))] [] SHP (bl_hr I (I 2 h) (nI h) j) J) n (fun j hj ih => ?_)
    refine g_iload_n (pc := 7) (i := 2) (j := 2) C dX5_passHour_7 rfl rfl ?_
    refine g_aload_n (pc := 8) (i := 0) (j := 0) C dX5_passHour_8 rfl rfl ?_
    refine g_getI (pc := 9) C dX5_passHour_9 lfX5_21 (by first | rfl | assumption) rfl ?_
    refine g_icmp_ge (pc := 12) (tgt := 37) C dX5_passHour_12 (by decide) (fun h12 => ?_) (fun h12 => ?_)
    · rw [show bl_hr I (I 2 h) (nI h) j 1 = I 1 from bl_hr_off (fun b hb => by omega)] at h12
      have ej : j = n := by (try rw [hn] at h12); have := (nI_leI (a := n) (b := j) (by omega) (by omega)).mp h12; omega
      subst ej
      refine g_aload_n (pc := 37) (i := 0) (j := 0) C dX5_passHour_37 rfl rfl ?_
      refine g_dup (pc := 38) C dX5_passHour_38 rfl ?_
      refine g_getI (pc := 39) C dX5_passHour_39 lfX5_25 (by first | rfl | assumption) rfl ?_
      refine g_iconst (pc := 42) (v := 1) C dX5_passHour_42 (by decide) ?_
      refine g_iadd (pc := 43) C dX5_passHour_43 ?_
      refine g_putI (pc := 44) C dX5_passHour_44 lpX5_25 rfl rfl (by first | rfl | assumption) rfl ?_
      refine g_vret (pc := 47) C C2 dX5_passHour_47 (Nat.le_refl _) (Nat.le_refl _) ?_
      refine ⟨rfl, rfl, ?_, rfl⟩
      rw [show bl_hr I (I 2 h) (nI h) j 1 = I 1 from bl_hr_off (fun b hb => by omega)]
    · rw [show bl_hr I (I 2 h) (nI h) j 1 = I 1 from bl_hr_off (fun b hb => by omega)] at h12
      have hlt : j < n := by (try rw [hn] at h12); exact Nat.lt_of_not_le (fun q => h12 ((nI_leI (a := n) (b := j) (by omega) (by omega)).mpr q))
      have hj6 : j < 6 := by omega
      refine g_aload_n (pc := 15) (i := 0) (j := 0) C dX5_passHour_15 rfl rfl ?_
      refine g_getR (pc := 16) C dX5_passHour_16 lfX5_17 (by first | rfl | assumption) rfl ?_
      refine g_iload_n (pc := 19) (i := 2) (j := 2) C dX5_passHour_19 rfl rfl ?_
      refine g_aald (pc := 20) C dX5_passHour_20 (by first | rfl | assumption) (fun _ => rfl) rfl (by decide) (by first | rfl | assumption) (rsB j hj6) ?_
      refine g_aload_n (pc := 21) (i := 0) (j := 0) C dX5_passHour_21 rfl rfl ?_
      refine g_getR (pc := 22) C dX5_passHour_22 lfX5_9 (by first | rfl | assumption) rfl ?_
      refine g_iload_n (pc := 25) (i := 1) (j := 1) C dX5_passHour_25 rfl rfl ?_
      refine g_iald (pc := 26) C dX5_passHour_26 (by first | rfl | assumption) (by decide) (by first | rfl | assumption) (by first | assumption | decide | omega) ?_
      refine g_iload_n (pc := 27) (i := 1) (j := 1) C dX5_passHour_27 rfl rfl ?_
      refine g_callV (pc := 28) C dX5_passHour_28 lmX5_57 kcX1_passHour (by decide) (shB j hj6) (c_X1_passHour (shB j hj6) (shP j hj6)) rfl rfl (Nat.le_of_ble_eq_true rfl) ?_
      intro r9 sh9 I9 J9 hD9; obtain ⟨rfl, rfl, rfl, rfl⟩ := pm_Dq hD9
      try simp only [Option.toList_some, Option.toList_none, List.cons_append, List.nil_append]
      refine g_iinc (pc := 31) (j := 2) (v := _ + 1) (L2 := [(0, _), (1, _), (2, _)]) C dX5_passHour_31 rfl (by first | rfl | exact pm_inc _) (by decide) rfl ?_
      refine g_goto (pc := 34) (tgt := 7) C dX5_passHour_34 (by decide) ?_
      refine pm_Geq (ih hlt) ?_ rfl ?_ rfl
      · simp only [nI_1]
      · show _ = pm_s _ _ _
        rw [show bl_hr I (I 2 h) (nI h) j 2 = I 2 from bl_hr_off (fun b hb => by omega), show bl_hr I (I 2 h) (nI h) j (5 + 2 * j) = I (5 + 2 * j) from bl_hr_off (fun b hb => by omega)]
  refine g_aload_n (pc := 0) (i := 0) (j := 0) C dX5_passHour_0 rfl rfl ?_
  refine g_callV (pc := 1) C dX5_passHour_1 lmX5_53 kcX5_hourNow (by decide) (by first | rfl | assumption) (c_X5_hourNow) rfl rfl (Nat.le_of_ble_eq_true rfl) ?_
  intro r9 sh9 I9 J9 hD9; obtain ⟨rfl, rfl, rfl, rfl⟩ := pm_Dq hD9
  try simp only [Option.toList_some, Option.toList_none, List.cons_append, List.nil_append]
  rw [hh]
  refine g_istore_n (pc := 4) (i := 1) (L2 := [(0, _), (1, _)]) C dX5_passHour_4 rfl (by decide) rfl ?_
  refine g_iconst (pc := 5) (v := 0) C dX5_passHour_5 (by decide) ?_
  refine g_istore_n (pc := 6) (i := 2) (L2 := [(0, _), (1, _), (2, _)]) C dX5_passHour_6 rfl (by decide) rfl ?_
  refine pm_Geq (hloop 0 (Nat.zero_le _)) ?_ rfl ?_ ?_ <;> first | rfl | grind

set_option maxHeartbeats 4000000 in
set_option maxRecDepth 100000 in
theorem c_X5_add_1 {d : Nat} {k x z : Int32} {I : pm_I} {J : pm_J} {n : Nat} (hn : I 1 2 = nI n) (h6 : n < 6) : pm_M (d + 2) 0 0 yX5_add cX5_add 4 (none : Option Jvm.ClassFile.FieldType) [.ref 1, .int k, .int x, .int z] SHP I J (pm_D none SHP (pm_u (pm_s I (5 + 2 * n) (bl_first (I (5 + 2 * n)) k x z)) 1 2 (nI (n + 1))) J) := by
  refine pm_start (own := RX5) (nm := "add") (by decide) rfl rfl (L := [(0, .ref 1), (1, .int k), (2, .int x), (3, .int z)]) rfl (Nat.le_of_ble_eq_true rfl) (fun Γ C C2 => ?_)
  refine g_aload_n (pc := 0) (i := 0) (j := 0) C dX5_add_0 rfl rfl ?_
  refine g_getR (pc := 1) C dX5_add_1 lfX5_17 (by first | rfl | assumption) rfl ?_
  refine g_aload_n (pc := 4) (i := 0) (j := 0) C dX5_add_4 rfl rfl ?_
  refine g_getI (pc := 5) C dX5_add_5 lfX5_21 (by first | rfl | assumption) rfl ?_
  refine g_aald (pc := 8) C dX5_add_8 (by first | rfl | assumption) (fun _ => rfl) rfl (by decide) hn (rsB n h6) ?_
  refine g_iload_n (pc := 9) (i := 1) (j := 1) C dX5_add_9 rfl rfl ?_
  refine g_iload_n (pc := 10) (i := 2) (j := 2) C dX5_add_10 rfl rfl ?_
  refine g_iload_n (pc := 11) (i := 3) (j := 3) C dX5_add_11 rfl rfl ?_
  refine g_callV (pc := 12) C dX5_add_12 lmX5_49 kcX1_begin (by decide) (shB n h6) (c_X1_begin (shB n h6) (shP n h6)) rfl rfl (Nat.le_of_ble_eq_true rfl) ?_
  intro r9 sh9 I9 J9 hD9; obtain ⟨rfl, rfl, rfl, rfl⟩ := pm_Dq hD9
  try simp only [Option.toList_some, Option.toList_none, List.cons_append, List.nil_append]
  refine g_aload_n (pc := 15) (i := 0) (j := 0) C dX5_add_15 rfl rfl ?_
  refine g_dup (pc := 16) C dX5_add_16 rfl ?_
  refine g_getI (pc := 17) C dX5_add_17 lfX5_21 (by first | rfl | assumption) rfl ?_
  refine g_iconst (pc := 20) (v := 1) C dX5_add_20 (by decide) ?_
  refine g_iadd (pc := 21) C dX5_add_21 ?_
  refine g_putI (pc := 22) C dX5_add_22 lpX5_21 rfl rfl (by first | rfl | assumption) rfl ?_
  refine g_vret (pc := 25) C C2 dX5_add_25 (Nat.le_refl _) (Nat.le_refl _) ?_
  refine ⟨rfl, rfl, ?_, rfl⟩
  rw [show pm_s I (5 + 2 * n) (bl_first (I (5 + 2 * n)) k x z) 1 = I 1 from pm_s_off _ _ _ _ (by omega), hn, nI_1]

set_option maxHeartbeats 4000000 in
set_option maxRecDepth 100000 in
theorem c_X5_add_31 {d : Nat} {k x z : Int32} {I : pm_I} {J : pm_J} {n : Nat} (hn : I 31 2 = nI n) (h6 : n < 6) : pm_M (d + 2) 0 0 yX5_add cX5_add 4 (none : Option Jvm.ClassFile.FieldType) [.ref 31, .int k, .int x, .int z] SHP I J (pm_D none SHP (pm_u (pm_s I (35 + 2 * n) (bl_first (I (35 + 2 * n)) k x z)) 31 2 (nI (n + 1))) J) := by
  refine pm_start (own := RX5) (nm := "add") (by decide) rfl rfl (L := [(0, .ref 31), (1, .int k), (2, .int x), (3, .int z)]) rfl (Nat.le_of_ble_eq_true rfl) (fun Γ C C2 => ?_)
  refine g_aload_n (pc := 0) (i := 0) (j := 0) C dX5_add_0 rfl rfl ?_
  refine g_getR (pc := 1) C dX5_add_1 lfX5_17 (by first | rfl | assumption) rfl ?_
  refine g_aload_n (pc := 4) (i := 0) (j := 0) C dX5_add_4 rfl rfl ?_
  refine g_getI (pc := 5) C dX5_add_5 lfX5_21 (by first | rfl | assumption) rfl ?_
  refine g_aald (pc := 8) C dX5_add_8 (by first | rfl | assumption) (fun _ => rfl) rfl (by decide) hn (rsBt n h6) ?_
  refine g_iload_n (pc := 9) (i := 1) (j := 1) C dX5_add_9 rfl rfl ?_
  refine g_iload_n (pc := 10) (i := 2) (j := 2) C dX5_add_10 rfl rfl ?_
  refine g_iload_n (pc := 11) (i := 3) (j := 3) C dX5_add_11 rfl rfl ?_
  refine g_callV (pc := 12) C dX5_add_12 lmX5_49 kcX1_begin (by decide) (shBt n h6) (c_X1_begin (shBt n h6) (shPt n h6)) rfl rfl (Nat.le_of_ble_eq_true rfl) ?_
  intro r9 sh9 I9 J9 hD9; obtain ⟨rfl, rfl, rfl, rfl⟩ := pm_Dq hD9
  try simp only [Option.toList_some, Option.toList_none, List.cons_append, List.nil_append]
  refine g_aload_n (pc := 15) (i := 0) (j := 0) C dX5_add_15 rfl rfl ?_
  refine g_dup (pc := 16) C dX5_add_16 rfl ?_
  refine g_getI (pc := 17) C dX5_add_17 lfX5_21 (by first | rfl | assumption) rfl ?_
  refine g_iconst (pc := 20) (v := 1) C dX5_add_20 (by decide) ?_
  refine g_iadd (pc := 21) C dX5_add_21 ?_
  refine g_putI (pc := 22) C dX5_add_22 lpX5_21 rfl rfl (by first | rfl | assumption) rfl ?_
  refine g_vret (pc := 25) C C2 dX5_add_25 (Nat.le_refl _) (Nat.le_refl _) ?_
  refine ⟨rfl, rfl, ?_, rfl⟩
  rw [show pm_s I (35 + 2 * n) (bl_first (I (35 + 2 * n)) k x z) 31 = I 31 from pm_s_off _ _ _ _ (by omega), hn, nI_1]

set_option maxHeartbeats 4000000 in
set_option maxRecDepth 100000 in
theorem c_X5_becomeEmpty {d : Nat} {I : pm_I} {J : pm_J} : pm_M d 0 0 yX5_becomeEmpty cX5_becomeEmpty 2 (none : Option Jvm.ClassFile.FieldType) [.ref 31] SHP I J (pm_D none SHP (pm_u (pm_u (pm_u (pm_s I 32 (bl_zer (I 32) 24)) 31 2 0) 31 3 0) 31 4 3) J) := by
  refine pm_start (own := RX5) (nm := "becomeEmpty") (by decide) rfl rfl (L := [(0, .ref 31)]) rfl (Nat.le_of_ble_eq_true rfl) (fun Γ C C2 => ?_)
  have hloop : ∀ j, j ≤ 24 → pm_G Γ 0 0 2 [(0, .ref 31), (1, .int (nI j))] [] SHP (pm_s I 32 (bl_zer (I 32) j)) J := by
    refine pm_up (fun j => pm_G Γ 0 0 2 [(0, .ref 31), (1, .int (nI j))] [] SHP (pm_s I 32 (bl_zer (I 32) j)) J) 24 (fun j hj ih => ?_)
    refine g_iload_n (pc := 2) (i := 1) (j := 1) C dX5_becomeEmpty_2 rfl rfl ?_
    refine g_bipush (pc := 3) (v := 24) C dX5_becomeEmpty_3 (by decide) ?_
    refine g_icmp_ge (pc := 5) (tgt := 21) C dX5_becomeEmpty_5 (by decide) (fun h5 => ?_) (fun h5 => ?_)
    · have ej : j = 24 := by (try rw [hn] at h5); have := (nI_leI (a := 24) (b := j) (by omega) (by omega)).mp h5; omega
      subst ej
      refine g_aload_n (pc := 21) (i := 0) (j := 0) C dX5_becomeEmpty_21 rfl rfl ?_
      refine g_iconst (pc := 22) (v := 0) C dX5_becomeEmpty_22 (by decide) ?_
      refine g_putI (pc := 23) C dX5_becomeEmpty_23 lpX5_21 rfl rfl (by first | rfl | assumption) rfl ?_
      refine g_aload_n (pc := 26) (i := 0) (j := 0) C dX5_becomeEmpty_26 rfl rfl ?_
      refine g_iconst (pc := 27) (v := 0) C dX5_becomeEmpty_27 (by decide) ?_
      refine g_putI (pc := 28) C dX5_becomeEmpty_28 lpX5_25 rfl rfl (by first | rfl | assumption) rfl ?_
      refine g_aload_n (pc := 31) (i := 0) (j := 0) C dX5_becomeEmpty_31 rfl rfl ?_
      refine g_iconst (pc := 32) (v := 3) C dX5_becomeEmpty_32 (by decide) ?_
      refine g_putI (pc := 33) C dX5_becomeEmpty_33 lpX5_28 rfl rfl (by first | rfl | assumption) rfl ?_
      refine g_vret (pc := 36) C C2 dX5_becomeEmpty_36 (Nat.le_refl _) (Nat.le_refl _) ?_
      exact ⟨rfl, rfl, rfl, rfl⟩
    · have hlt : j < 24 := by (try rw [hn] at h5); exact Nat.lt_of_not_le (fun q => h5 ((nI_leI (a := 24) (b := j) (by omega) (by omega)).mpr q))
      refine g_aload_n (pc := 8) (i := 0) (j := 0) C dX5_becomeEmpty_8 rfl rfl ?_
      refine g_getR (pc := 9) C dX5_becomeEmpty_9 lfX5_9 (by first | rfl | assumption) rfl ?_
      refine g_iload_n (pc := 12) (i := 1) (j := 1) C dX5_becomeEmpty_12 rfl rfl ?_
      refine g_iconst (pc := 13) (v := 0) C dX5_becomeEmpty_13 (by decide) ?_
      refine g_iast (pc := 14) (j := j) C dX5_becomeEmpty_14 (by first | rfl | assumption) (by decide) (by first | rfl | assumption) hlt ?_
      refine g_iinc (pc := 15) (j := 1) (v := _ + 1) (L2 := [(0, _), (1, _)]) C dX5_becomeEmpty_15 rfl (by first | rfl | exact pm_inc _) (by decide) rfl ?_
      refine g_goto (pc := 18) (tgt := 2) C dX5_becomeEmpty_18 (by decide) ?_
      refine pm_Geq (ih hlt) ?_ rfl ?_ rfl
      · simp only [nI_1]
      · rw [pm_u_s, pm_s_at, pm_s_s]; congr 1; funext k; unfold bl_zer upd; grind
  refine g_iconst (pc := 0) (v := 0) C dX5_becomeEmpty_0 (by decide) ?_
  refine g_istore_n (pc := 1) (i := 1) (L2 := [(0, _), (1, _)]) C dX5_becomeEmpty_1 rfl (by decide) rfl ?_
  refine pm_Geq (hloop 0 (Nat.zero_le _)) rfl rfl ?_ rfl
  funext b k
  unfold pm_s bl_zer
  split
  · next h => subst h; simp
  · rfl

set_option maxHeartbeats 4000000 in
set_option maxRecDepth 100000 in
theorem c_X5_copyFrom_1_31 {d : Nat} {I : pm_I} {J : pm_J} {n : Nat} (hn : I 31 2 = nI n) (h6 : n ≤ 6) : pm_M (d + 2) 0 0 yX5_copyFrom cX5_copyFrom 3 (none : Option Jvm.ClassFile.FieldType) [.ref 1, .ref 31] SHP I J (pm_D none SHP (pm_u (pm_u (pm_u (pm_u (bl_cps (pm_s I 2 (bl_cp (I 2) (I 32) 24)) 35 5 n) 1 2 (nI n)) 1 3 (I 31 3)) 1 4 (I 31 4)) 1 5 (I 31 5)) J) := by
  refine pm_start (own := RX5) (nm := "copyFrom") (by decide) rfl rfl (L := [(0, .ref 1), (1, .ref 31)]) rfl (Nat.le_of_ble_eq_true rfl) (fun Γ C C2 => ?_)
  have hloop : ∀ j, j ≤ n → pm_G Γ 0 0 17 [(0, .ref 1), (1, .ref 31), (2, .int (nI j))] [] SHP (bl_cps (pm_s I 2 (bl_cp (I 2) (I 32) 24)) 35 5 j) J := by
    refine pm_up (fun j => pm_G Γ 0 0 17 [(0, .ref 1), (1, .ref 31), (2, .int (nI j))] [] SHP (bl_cps (pm_s I 2 (bl_cp (I 2) (I 32) 24)) 35 5 j) J) n (fun j hj ih => ?_)
    refine g_iload_n (pc := 17) (i := 2) (j := 2) C dX5_copyFrom_17 rfl rfl ?_
    refine g_aload_n (pc := 18) (i := 1) (j := 1) C dX5_copyFrom_18 rfl rfl ?_
    refine g_getI (pc := 19) C dX5_copyFrom_19 lfX5_21 (by first | rfl | assumption) rfl ?_
    refine g_icmp_ge (pc := 22) (tgt := 46) C dX5_copyFrom_22 (by decide) (fun h22 => ?_) (fun h22 => ?_)
    · rw [show (bl_cps (pm_s I 2 (bl_cp (I 2) (I 32) 24)) 35 5 j) 31 = I 31 from by rw [bl_cps_off (fun b hb => by omega)]; exact pm_s_off _ _ _ _ (by decide)] at h22
      have ej : j = n := by (try rw [hn] at h22); have := (nI_leI (a := n) (b := j) (by omega) (by omega)).mp h22; omega
      subst ej
      refine g_aload_n (pc := 46) (i := 0) (j := 0) C dX5_copyFrom_46 rfl rfl ?_
      refine g_aload_n (pc := 47) (i := 1) (j := 1) C dX5_copyFrom_47 rfl rfl ?_
      refine g_getI (pc := 48) C dX5_copyFrom_48 lfX5_21 (by first | rfl | assumption) rfl ?_
      refine g_putI (pc := 51) C dX5_copyFrom_51 lpX5_21 rfl rfl (by first | rfl | assumption) rfl ?_
      refine g_aload_n (pc := 54) (i := 0) (j := 0) C dX5_copyFrom_54 rfl rfl ?_
      refine g_aload_n (pc := 55) (i := 1) (j := 1) C dX5_copyFrom_55 rfl rfl ?_
      refine g_getI (pc := 56) C dX5_copyFrom_56 lfX5_25 (by first | rfl | assumption) rfl ?_
      refine g_putI (pc := 59) C dX5_copyFrom_59 lpX5_25 rfl rfl (by first | rfl | assumption) rfl ?_
      refine g_aload_n (pc := 62) (i := 0) (j := 0) C dX5_copyFrom_62 rfl rfl ?_
      refine g_aload_n (pc := 63) (i := 1) (j := 1) C dX5_copyFrom_63 rfl rfl ?_
      refine g_getI (pc := 64) C dX5_copyFrom_64 lfX5_28 (by first | rfl | assumption) rfl ?_
      refine g_putI (pc := 67) C dX5_copyFrom_67 lpX5_28 rfl rfl (by first | rfl | assumption) rfl ?_
      refine g_aload_n (pc := 70) (i := 0) (j := 0) C dX5_copyFrom_70 rfl rfl ?_
      refine g_aload_n (pc := 71) (i := 1) (j := 1) C dX5_copyFrom_71 rfl rfl ?_
      refine g_getI (pc := 72) C dX5_copyFrom_72 lfX5_31 (by first | rfl | assumption) rfl ?_
      refine g_putI (pc := 75) C dX5_copyFrom_75 lpX5_31 rfl rfl (by first | rfl | assumption) rfl ?_
      refine g_vret (pc := 78) C C2 dX5_copyFrom_78 (Nat.le_refl _) (Nat.le_refl _) ?_
      refine ⟨rfl, rfl, ?_, rfl⟩
      have e1 : (bl_cps (pm_s I 2 (bl_cp (I 2) (I 32) 24)) 35 5 j) 31 = I 31 := by rw [bl_cps_off (fun b hb => by omega)]; exact pm_s_off _ _ _ _ (by decide)
      simp only [pm_u_s, pm_s_at, pm_s_s, pm_s_off _ 1 31 _ (by decide), e1, hn]
    · rw [show (bl_cps (pm_s I 2 (bl_cp (I 2) (I 32) 24)) 35 5 j) 31 = I 31 from by rw [bl_cps_off (fun b hb => by omega)]; exact pm_s_off _ _ _ _ (by decide)] at h22
      have hlt : j < n := by (try rw [hn] at h22); exact Nat.lt_of_not_le (fun q => h22 ((nI_leI (a := n) (b := j) (by omega) (by omega)).mpr q))
      have hj6 : j < 6 := by omega
      refine g_aload_n (pc := 25) (i := 0) (j := 0) C dX5_copyFrom_25 rfl rfl ?_
      refine g_getR (pc := 26) C dX5_copyFrom_26 lfX5_17 (by first | rfl | assumption) rfl ?_
      refine g_iload_n (pc := 29) (i := 2) (j := 2) C dX5_copyFrom_29 rfl rfl ?_
      refine g_aald (pc := 30) C dX5_copyFrom_30 (by first | rfl | assumption) (fun _ => rfl) rfl (by decide) (by first | rfl | assumption) (rsB j hj6) ?_
      refine g_aload_n (pc := 31) (i := 1) (j := 1) C dX5_copyFrom_31 rfl rfl ?_
      refine g_getR (pc := 32) C dX5_copyFrom_32 lfX5_17 (by first | rfl | assumption) rfl ?_
      refine g_iload_n (pc := 35) (i := 2) (j := 2) C dX5_copyFrom_35 rfl rfl ?_
      refine g_aald (pc := 36) C dX5_copyFrom_36 (by first | rfl | assumption) (fun _ => rfl) rfl (by decide) (by first | rfl | assumption) (rsBt j hj6) ?_
      refine g_callV (pc := 37) C dX5_copyFrom_37 lmX5_41 kcX1_copyFrom (by decide) (shB j hj6) (c_X1_copyFrom (shB j hj6) (shP j hj6) (shBt j hj6) (shPt j hj6)) rfl rfl (Nat.le_of_ble_eq_true rfl) ?_
      intro r9 sh9 I9 J9 hD9; obtain ⟨rfl, rfl, rfl, rfl⟩ := pm_Dq hD9
      try simp only [Option.toList_some, Option.toList_none, List.cons_append, List.nil_append]
      refine g_iinc (pc := 40) (j := 2) (v := _ + 1) (L2 := [(0, _), (1, _), (2, _)]) C dX5_copyFrom_40 rfl (by first | rfl | exact pm_inc _) (by decide) rfl ?_
      refine g_goto (pc := 43) (tgt := 17) C dX5_copyFrom_43 (by decide) ?_
      refine pm_Geq (ih hlt) ?_ rfl rfl rfl
      simp only [nI_1]
  refine g_aload_n (pc := 0) (i := 1) (j := 1) C dX5_copyFrom_0 rfl rfl ?_
  refine g_getR (pc := 1) C dX5_copyFrom_1 lfX5_9 (by first | rfl | assumption) rfl ?_
  refine g_iconst (pc := 4) (v := 0) C dX5_copyFrom_4 (by decide) ?_
  refine g_aload_n (pc := 5) (i := 0) (j := 0) C dX5_copyFrom_5 rfl rfl ?_
  refine g_getR (pc := 6) C dX5_copyFrom_6 lfX5_9 (by first | rfl | assumption) rfl ?_
  refine g_iconst (pc := 9) (v := 0) C dX5_copyFrom_9 (by decide) ?_
  refine g_bipush (pc := 10) (v := 24) C dX5_copyFrom_10 (by decide) ?_
  refine g_copy (pc := 12) (N := 24) C dX5_copyFrom_12 ljX5_35 rfl (by decide) (by first | rfl | assumption) (by first | rfl | assumption) (Nat.le_of_ble_eq_true rfl) ?_
  refine g_iconst (pc := 15) (v := 0) C dX5_copyFrom_15 (by decide) ?_
  refine g_istore_n (pc := 16) (i := 2) (L2 := [(0, _), (1, _), (2, _)]) C dX5_copyFrom_16 rfl (by decide) rfl ?_
  exact hloop 0 (Nat.zero_le _)

set_option maxHeartbeats 4000000 in
set_option maxRecDepth 100000 in
theorem c_X5_copyFrom_16_1 {d : Nat} {I : pm_I} {J : pm_J} {n : Nat} (hn : I 1 2 = nI n) (h6 : n ≤ 6) : pm_M (d + 2) 0 0 yX5_copyFrom cX5_copyFrom 3 (none : Option Jvm.ClassFile.FieldType) [.ref 16, .ref 1] SHP I J (pm_D none SHP (pm_u (pm_u (pm_u (pm_u (bl_cps (pm_s I 17 (bl_cp (I 17) (I 2) 24)) 5 20 n) 16 2 (nI n)) 16 3 (I 1 3)) 16 4 (I 1 4)) 16 5 (I 1 5)) J) := by
  refine pm_start (own := RX5) (nm := "copyFrom") (by decide) rfl rfl (L := [(0, .ref 16), (1, .ref 1)]) rfl (Nat.le_of_ble_eq_true rfl) (fun Γ C C2 => ?_)
  have hloop : ∀ j, j ≤ n → pm_G Γ 0 0 17 [(0, .ref 16), (1, .ref 1), (2, .int (nI j))] [] SHP (bl_cps (pm_s I 17 (bl_cp (I 17) (I 2) 24)) 5 20 j) J := by
    refine pm_up (fun j => pm_G Γ 0 0 17 [(0, .ref 16), (1, .ref 1), (2, .int (nI j))] [] SHP (bl_cps (pm_s I 17 (bl_cp (I 17) (I 2) 24)) 5 20 j) J) n (fun j hj ih => ?_)
    refine g_iload_n (pc := 17) (i := 2) (j := 2) C dX5_copyFrom_17 rfl rfl ?_
    refine g_aload_n (pc := 18) (i := 1) (j := 1) C dX5_copyFrom_18 rfl rfl ?_
    refine g_getI (pc := 19) C dX5_copyFrom_19 lfX5_21 (by first | rfl | assumption) rfl ?_
    refine g_icmp_ge (pc := 22) (tgt := 46) C dX5_copyFrom_22 (by decide) (fun h22 => ?_) (fun h22 => ?_)
    · rw [show (bl_cps (pm_s I 17 (bl_cp (I 17) (I 2) 24)) 5 20 j) 1 = I 1 from by rw [bl_cps_off (fun b hb => by omega)]; exact pm_s_off _ _ _ _ (by decide)] at h22
      have ej : j = n := by (try rw [hn] at h22); have := (nI_leI (a := n) (b := j) (by omega) (by omega)).mp h22; omega
      subst ej
      refine g_aload_n (pc := 46) (i := 0) (j := 0) C dX5_copyFrom_46 rfl rfl ?_
      refine g_aload_n (pc := 47) (i := 1) (j := 1) C dX5_copyFrom_47 rfl rfl ?_
      refine g_getI (pc := 48) C dX5_copyFrom_48 lfX5_21 (by first | rfl | assumption) rfl ?_
      refine g_putI (pc := 51) C dX5_copyFrom_51 lpX5_21 rfl rfl (by first | rfl | assumption) rfl ?_
      refine g_aload_n (pc := 54) (i := 0) (j := 0) C dX5_copyFrom_54 rfl rfl ?_
      refine g_aload_n (pc := 55) (i := 1) (j := 1) C dX5_copyFrom_55 rfl rfl ?_
      refine g_getI (pc := 56) C dX5_copyFrom_56 lfX5_25 (by first | rfl | assumption) rfl ?_
      refine g_putI (pc := 59) C dX5_copyFrom_59 lpX5_25 rfl rfl (by first | rfl | assumption) rfl ?_
      refine g_aload_n (pc := 62) (i := 0) (j := 0) C dX5_copyFrom_62 rfl rfl ?_
      refine g_aload_n (pc := 63) (i := 1) (j := 1) C dX5_copyFrom_63 rfl rfl ?_
      refine g_getI (pc := 64) C dX5_copyFrom_64 lfX5_28 (by first | rfl | assumption) rfl ?_
      refine g_putI (pc := 67) C dX5_copyFrom_67 lpX5_28 rfl rfl (by first | rfl | assumption) rfl ?_
      refine g_aload_n (pc := 70) (i := 0) (j := 0) C dX5_copyFrom_70 rfl rfl ?_
      refine g_aload_n (pc := 71) (i := 1) (j := 1) C dX5_copyFrom_71 rfl rfl ?_
      refine g_getI (pc := 72) C dX5_copyFrom_72 lfX5_31 (by first | rfl | assumption) rfl ?_
      refine g_putI (pc := 75) C dX5_copyFrom_75 lpX5_31 rfl rfl (by first | rfl | assumption) rfl ?_
      refine g_vret (pc := 78) C C2 dX5_copyFrom_78 (Nat.le_refl _) (Nat.le_refl _) ?_
      refine ⟨rfl, rfl, ?_, rfl⟩
      have e1 : (bl_cps (pm_s I 17 (bl_cp (I 17) (I 2) 24)) 5 20 j) 1 = I 1 := by rw [bl_cps_off (fun b hb => by omega)]; exact pm_s_off _ _ _ _ (by decide)
      simp only [pm_u_s, pm_s_at, pm_s_s, pm_s_off _ 16 1 _ (by decide), e1, hn]
    · rw [show (bl_cps (pm_s I 17 (bl_cp (I 17) (I 2) 24)) 5 20 j) 1 = I 1 from by rw [bl_cps_off (fun b hb => by omega)]; exact pm_s_off _ _ _ _ (by decide)] at h22
      have hlt : j < n := by (try rw [hn] at h22); exact Nat.lt_of_not_le (fun q => h22 ((nI_leI (a := n) (b := j) (by omega) (by omega)).mpr q))
      have hj6 : j < 6 := by omega
      refine g_aload_n (pc := 25) (i := 0) (j := 0) C dX5_copyFrom_25 rfl rfl ?_
      refine g_getR (pc := 26) C dX5_copyFrom_26 lfX5_17 (by first | rfl | assumption) rfl ?_
      refine g_iload_n (pc := 29) (i := 2) (j := 2) C dX5_copyFrom_29 rfl rfl ?_
      refine g_aald (pc := 30) C dX5_copyFrom_30 (by first | rfl | assumption) (fun _ => rfl) rfl (by decide) (by first | rfl | assumption) (rsBk j hj6) ?_
      refine g_aload_n (pc := 31) (i := 1) (j := 1) C dX5_copyFrom_31 rfl rfl ?_
      refine g_getR (pc := 32) C dX5_copyFrom_32 lfX5_17 (by first | rfl | assumption) rfl ?_
      refine g_iload_n (pc := 35) (i := 2) (j := 2) C dX5_copyFrom_35 rfl rfl ?_
      refine g_aald (pc := 36) C dX5_copyFrom_36 (by first | rfl | assumption) (fun _ => rfl) rfl (by decide) (by first | rfl | assumption) (rsB j hj6) ?_
      refine g_callV (pc := 37) C dX5_copyFrom_37 lmX5_41 kcX1_copyFrom (by decide) (shBk j hj6) (c_X1_copyFrom (shBk j hj6) (shPk j hj6) (shB j hj6) (shP j hj6)) rfl rfl (Nat.le_of_ble_eq_true rfl) ?_
      intro r9 sh9 I9 J9 hD9; obtain ⟨rfl, rfl, rfl, rfl⟩ := pm_Dq hD9
      try simp only [Option.toList_some, Option.toList_none, List.cons_append, List.nil_append]
      refine g_iinc (pc := 40) (j := 2) (v := _ + 1) (L2 := [(0, _), (1, _), (2, _)]) C dX5_copyFrom_40 rfl (by first | rfl | exact pm_inc _) (by decide) rfl ?_
      refine g_goto (pc := 43) (tgt := 17) C dX5_copyFrom_43 (by decide) ?_
      refine pm_Geq (ih hlt) ?_ rfl rfl rfl
      simp only [nI_1]
  refine g_aload_n (pc := 0) (i := 1) (j := 1) C dX5_copyFrom_0 rfl rfl ?_
  refine g_getR (pc := 1) C dX5_copyFrom_1 lfX5_9 (by first | rfl | assumption) rfl ?_
  refine g_iconst (pc := 4) (v := 0) C dX5_copyFrom_4 (by decide) ?_
  refine g_aload_n (pc := 5) (i := 0) (j := 0) C dX5_copyFrom_5 rfl rfl ?_
  refine g_getR (pc := 6) C dX5_copyFrom_6 lfX5_9 (by first | rfl | assumption) rfl ?_
  refine g_iconst (pc := 9) (v := 0) C dX5_copyFrom_9 (by decide) ?_
  refine g_bipush (pc := 10) (v := 24) C dX5_copyFrom_10 (by decide) ?_
  refine g_copy (pc := 12) (N := 24) C dX5_copyFrom_12 ljX5_35 rfl (by decide) (by first | rfl | assumption) (by first | rfl | assumption) (Nat.le_of_ble_eq_true rfl) ?_
  refine g_iconst (pc := 15) (v := 0) C dX5_copyFrom_15 (by decide) ?_
  refine g_istore_n (pc := 16) (i := 2) (L2 := [(0, _), (1, _), (2, _)]) C dX5_copyFrom_16 rfl (by decide) rfl ?_
  exact hloop 0 (Nat.zero_le _)

set_option maxHeartbeats 4000000 in
set_option maxRecDepth 100000 in
theorem c_X5_copyFrom_1_16 {d : Nat} {I : pm_I} {J : pm_J} {n : Nat} (hn : I 16 2 = nI n) (h6 : n ≤ 6) : pm_M (d + 2) 0 0 yX5_copyFrom cX5_copyFrom 3 (none : Option Jvm.ClassFile.FieldType) [.ref 1, .ref 16] SHP I J (pm_D none SHP (pm_u (pm_u (pm_u (pm_u (bl_cps (pm_s I 2 (bl_cp (I 2) (I 17) 24)) 20 5 n) 1 2 (nI n)) 1 3 (I 16 3)) 1 4 (I 16 4)) 1 5 (I 16 5)) J) := by
  refine pm_start (own := RX5) (nm := "copyFrom") (by decide) rfl rfl (L := [(0, .ref 1), (1, .ref 16)]) rfl (Nat.le_of_ble_eq_true rfl) (fun Γ C C2 => ?_)
  have hloop : ∀ j, j ≤ n → pm_G Γ 0 0 17 [(0, .ref 1), (1, .ref 16), (2, .int (nI j))] [] SHP (bl_cps (pm_s I 2 (bl_cp (I 2) (I 17) 24)) 20 5 j) J := by
    refine pm_up (fun j => pm_G Γ 0 0 17 [(0, .ref 1), (1, .ref 16), (2, .int (nI j))] [] SHP (bl_cps (pm_s I 2 (bl_cp (I 2) (I 17) 24)) 20 5 j) J) n (fun j hj ih => ?_)
    refine g_iload_n (pc := 17) (i := 2) (j := 2) C dX5_copyFrom_17 rfl rfl ?_
    refine g_aload_n (pc := 18) (i := 1) (j := 1) C dX5_copyFrom_18 rfl rfl ?_
    refine g_getI (pc := 19) C dX5_copyFrom_19 lfX5_21 (by first | rfl | assumption) rfl ?_
    refine g_icmp_ge (pc := 22) (tgt := 46) C dX5_copyFrom_22 (by decide) (fun h22 => ?_) (fun h22 => ?_)
    · rw [show (bl_cps (pm_s I 2 (bl_cp (I 2) (I 17) 24)) 20 5 j) 16 = I 16 from by rw [bl_cps_off (fun b hb => by omega)]; exact pm_s_off _ _ _ _ (by decide)] at h22
      have ej : j = n := by (try rw [hn] at h22); have := (nI_leI (a := n) (b := j) (by omega) (by omega)).mp h22; omega
      subst ej
      refine g_aload_n (pc := 46) (i := 0) (j := 0) C dX5_copyFrom_46 rfl rfl ?_
      refine g_aload_n (pc := 47) (i := 1) (j := 1) C dX5_copyFrom_47 rfl rfl ?_
      refine g_getI (pc := 48) C dX5_copyFrom_48 lfX5_21 (by first | rfl | assumption) rfl ?_
      refine g_putI (pc := 51) C dX5_copyFrom_51 lpX5_21 rfl rfl (by first | rfl | assumption) rfl ?_
      refine g_aload_n (pc := 54) (i := 0) (j := 0) C dX5_copyFrom_54 rfl rfl ?_
      refine g_aload_n (pc := 55) (i := 1) (j := 1) C dX5_copyFrom_55 rfl rfl ?_
      refine g_getI (pc := 56) C dX5_copyFrom_56 lfX5_25 (by first | rfl | assumption) rfl ?_
      refine g_putI (pc := 59) C dX5_copyFrom_59 lpX5_25 rfl rfl (by first | rfl | assumption) rfl ?_
      refine g_aload_n (pc := 62) (i := 0) (j := 0) C dX5_copyFrom_62 rfl rfl ?_
      refine g_aload_n (pc := 63) (i := 1) (j := 1) C dX5_copyFrom_63 rfl rfl ?_
      refine g_getI (pc := 64) C dX5_copyFrom_64 lfX5_28 (by first | rfl | assumption) rfl ?_
      refine g_putI (pc := 67) C dX5_copyFrom_67 lpX5_28 rfl rfl (by first | rfl | assumption) rfl ?_
      refine g_aload_n (pc := 70) (i := 0) (j := 0) C dX5_copyFrom_70 rfl rfl ?_
      refine g_aload_n (pc := 71) (i := 1) (j := 1) C dX5_copyFrom_71 rfl rfl ?_
      refine g_getI (pc := 72) C dX5_copyFrom_72 lfX5_31 (by first | rfl | assumption) rfl ?_
      refine g_putI (pc := 75) C dX5_copyFrom_75 lpX5_31 rfl rfl (by first | rfl | assumption) rfl ?_
      refine g_vret (pc := 78) C C2 dX5_copyFrom_78 (Nat.le_refl _) (Nat.le_refl _) ?_
      refine ⟨rfl, rfl, ?_, rfl⟩
      have e1 : (bl_cps (pm_s I 2 (bl_cp (I 2) (I 17) 24)) 20 5 j) 16 = I 16 := by rw [bl_cps_off (fun b hb => by omega)]; exact pm_s_off _ _ _ _ (by decide)
      simp only [pm_u_s, pm_s_at, pm_s_s, pm_s_off _ 1 16 _ (by decide), e1, hn]
    · rw [show (bl_cps (pm_s I 2 (bl_cp (I 2) (I 17) 24)) 20 5 j) 16 = I 16 from by rw [bl_cps_off (fun b hb => by omega)]; exact pm_s_off _ _ _ _ (by decide)] at h22
      have hlt : j < n := by (try rw [hn] at h22); exact Nat.lt_of_not_le (fun q => h22 ((nI_leI (a := n) (b := j) (by omega) (by omega)).mpr q))
      have hj6 : j < 6 := by omega
      refine g_aload_n (pc := 25) (i := 0) (j := 0) C dX5_copyFrom_25 rfl rfl ?_
      refine g_getR (pc := 26) C dX5_copyFrom_26 lfX5_17 (by first | rfl | assumption) rfl ?_
      refine g_iload_n (pc := 29) (i := 2) (j := 2) C dX5_copyFrom_29 rfl rfl ?_
      refine g_aald (pc := 30) C dX5_copyFrom_30 (by first | rfl | assumption) (fun _ => rfl) rfl (by decide) (by first | rfl | assumption) (rsB j hj6) ?_
      refine g_aload_n (pc := 31) (i := 1) (j := 1) C dX5_copyFrom_31 rfl rfl ?_
      refine g_getR (pc := 32) C dX5_copyFrom_32 lfX5_17 (by first | rfl | assumption) rfl ?_
      refine g_iload_n (pc := 35) (i := 2) (j := 2) C dX5_copyFrom_35 rfl rfl ?_
      refine g_aald (pc := 36) C dX5_copyFrom_36 (by first | rfl | assumption) (fun _ => rfl) rfl (by decide) (by first | rfl | assumption) (rsBk j hj6) ?_
      refine g_callV (pc := 37) C dX5_copyFrom_37 lmX5_41 kcX1_copyFrom (by decide) (shB j hj6) (c_X1_copyFrom (shB j hj6) (shP j hj6) (shBk j hj6) (shPk j hj6)) rfl rfl (Nat.le_of_ble_eq_true rfl) ?_
      intro r9 sh9 I9 J9 hD9; obtain ⟨rfl, rfl, rfl, rfl⟩ := pm_Dq hD9
      try simp only [Option.toList_some, Option.toList_none, List.cons_append, List.nil_append]
      refine g_iinc (pc := 40) (j := 2) (v := _ + 1) (L2 := [(0, _), (1, _), (2, _)]) C dX5_copyFrom_40 rfl (by first | rfl | exact pm_inc _) (by decide) rfl ?_
      refine g_goto (pc := 43) (tgt := 17) C dX5_copyFrom_43 (by decide) ?_
      refine pm_Geq (ih hlt) ?_ rfl rfl rfl
      simp only [nI_1]
  refine g_aload_n (pc := 0) (i := 1) (j := 1) C dX5_copyFrom_0 rfl rfl ?_
  refine g_getR (pc := 1) C dX5_copyFrom_1 lfX5_9 (by first | rfl | assumption) rfl ?_
  refine g_iconst (pc := 4) (v := 0) C dX5_copyFrom_4 (by decide) ?_
  refine g_aload_n (pc := 5) (i := 0) (j := 0) C dX5_copyFrom_5 rfl rfl ?_
  refine g_getR (pc := 6) C dX5_copyFrom_6 lfX5_9 (by first | rfl | assumption) rfl ?_
  refine g_iconst (pc := 9) (v := 0) C dX5_copyFrom_9 (by decide) ?_
  refine g_bipush (pc := 10) (v := 24) C dX5_copyFrom_10 (by decide) ?_
  refine g_copy (pc := 12) (N := 24) C dX5_copyFrom_12 ljX5_35 rfl (by decide) (by first | rfl | assumption) (by first | rfl | assumption) (Nat.le_of_ble_eq_true rfl) ?_
  refine g_iconst (pc := 15) (v := 0) C dX5_copyFrom_15 (by decide) ?_
  refine g_istore_n (pc := 16) (i := 2) (L2 := [(0, _), (1, _), (2, _)]) C dX5_copyFrom_16 rfl (by decide) rfl ?_
  exact hloop 0 (Nat.zero_le _)
