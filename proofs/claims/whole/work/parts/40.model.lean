/-! The model: one balloon, who hangs where, who touches whom -/
/-- the model's balloon b, by the numbers of the parts: its row begins at a -/
def md (I : pm_I) (a b : Nat) : Nat → Int32 := fun p => if p = 0 then I 104 b else if p = 1 then I 105 b else I 106 (a + 7 * b + (p - 1))
theorem md_0 (I : pm_I) (a b : Nat) : md I a b 0 = I 104 b := rfl
theorem md_1 (I : pm_I) (a b : Nat) : md I a b 1 = I 105 b := rfl
theorem md_2 (I : pm_I) (a b : Nat) : md I a b 2 = I 106 (a + 7 * b + 1) := rfl
theorem md_3 (I : pm_I) (a b : Nat) : md I a b 3 = I 106 (a + 7 * b + 2) := rfl
theorem md_4 (I : pm_I) (a b : Nat) : md I a b 4 = I 106 (a + 7 * b + 3) := rfl
theorem md_5 (I : pm_I) (a b : Nat) : md I a b 5 = I 106 (a + 7 * b + 4) := rfl
theorem md_6 (I : pm_I) (a b : Nat) : md I a b 6 = I 106 (a + 7 * b + 5) := rfl
theorem md_7 (I : pm_I) (a b : Nat) : md I a b 7 = I 106 (a + 7 * b + 6) := rfl
theorem md_8 (I : pm_I) (a b : Nat) : md I a b 8 = I 106 (a + 7 * b + 7) := rfl
theorem mo_ix (a b p : Nat) : nI a + 7 * nI b + nI p = nI (a + 7 * b + p) := by
  rw [show (7 : Int32) = nI 7 from rfl, pk_mul, nI_add, nI_add]
def mo_inR (B : Nat → Nat → Int32) (i : Nat) (o : Option Nat) : Int32 := match o with
  | none => 0
  | some m => if bl_abs (B m 3 - B i 3) ≤ 20 then 1 <<< (nI m &&& 31) else 0
def mo_reach (B : Nat → Nat → Int32) (i n : Nat) : Int32 := (0 ||| mo_inR B i (bl_nextA B i n)) ||| mo_inR B i (bl_nextB B i n)
def mo_pop (s : Nat) : Nat := s % 2 + s / 2 % 2 + s / 4 % 2 + s / 8 % 2 + s / 16 % 2 + s / 32 % 2
theorem mo_pop_step : ∀ s, s < 64 → 0 < s → mo_pop (s &&& (s - 1)) + 1 = mo_pop s ∧ (s &&& (s - 1)) < s ∧ nI s &&& (nI s - 1) = nI (s &&& (s - 1)) := by decide +kernel
theorem bl_bc_pop : ∀ s, s < 64 → bl_bc (nI s) = nI (mo_pop s) := by decide +kernel
theorem bl_or_bit : ∀ k, k < 6 → ∀ s, s < 2 ^ k → nI s ||| (1 <<< (nI k &&& 31)) = nI (s + 2 ^ k) := by decide +kernel
theorem bl_tset_nat {B : Nat → Nat → Int32} {gap : Int32} {i : Nat} : ∀ n, n ≤ 6 → ∃ s, s < 2 ^ n ∧ bl_tset B gap i n = nI s
  | 0, _ => ⟨0, by decide, rfl⟩
  | n + 1, h => by
    obtain ⟨s, h1, h2⟩ := bl_tset_nat (B := B) (gap := gap) (i := i) n (by omega)
    unfold bl_tset
    split
    · refine ⟨s + 2 ^ n, by rw [Nat.pow_succ]; omega, ?_⟩
      rw [h2]
      exact bl_or_bit n (by omega) s h1
    · exact ⟨s, by rw [Nat.pow_succ]; omega, h2⟩
theorem bl_tset_64 {B : Nat → Nat → Int32} {gap : Int32} {i n : Nat} (h : n ≤ 6) : ∃ s, s < 64 ∧ bl_tset B gap i n = nI s := by
  obtain ⟨s, h1, h2⟩ := bl_tset_nat (B := B) (gap := gap) (i := i) n h
  have h3 : 2 ^ n ≤ 2 ^ 6 := Nat.pow_le_pow_right (by decide) h
  exact ⟨s, by have : 2 ^ 6 = 64 := by decide
               omega, h2⟩
def mo_near (v to : Int32) : Int32 := if v < to then (if v + 10 < to then v + 10 else to) else (if to < v - 10 then v - 10 else to)
theorem bl_nextA_none {B : Nat → Nat → Int32} {i k : Nat} (h : bl_nextA B i k = none) : bl_nextA B i (k + 1) = if i ≠ k ∧ B i 2 = B k 2 ∧ bl_over B k i then some k else none := by rw [bl_nextA, h]
theorem bl_nextA_some {B : Nat → Nat → Int32} {i k m : Nat} (h : bl_nextA B i k = some m) : bl_nextA B i (k + 1) = if (i ≠ k ∧ B i 2 = B k 2 ∧ bl_over B k i) ∧ bl_over B m k then some k else some m := by rw [bl_nextA, h]
theorem bl_nextB_none {B : Nat → Nat → Int32} {i k : Nat} (h : bl_nextB B i k = none) : bl_nextB B i (k + 1) = if i ≠ k ∧ B i 2 = B k 2 ∧ bl_over B i k then some k else none := by rw [bl_nextB, h]
theorem bl_nextB_some {B : Nat → Nat → Int32} {i k m : Nat} (h : bl_nextB B i k = some m) : bl_nextB B i (k + 1) = if (i ≠ k ∧ B i 2 = B k 2 ∧ bl_over B i k) ∧ bl_over B k m then some k else some m := by rw [bl_nextB, h]
theorem pm_b_1 {P : Prop} [Decidable P] : pm_b P = 1 ↔ P := by unfold pm_b; split <;> simp_all
theorem bl_over_tot {B : Nat → Nat → Int32} {i j : Nat} (h : i ≠ j) : ¬ bl_over B i j ↔ bl_over B j i := by
  unfold bl_over
  grind
set_option maxHeartbeats 4000000 in
set_option maxRecDepth 100000 in
theorem c_X8_in {d : Nat} {v lo hi : Int32} {sh : List pm_S} {I : pm_I} {J : pm_J} : pm_M d 0 0 yX8_in cX8_in 3 (some .boolean) [.int v, .int lo, .int hi] sh I J (pm_D (some (.int (pm_b (lo ≤ v ∧ v ≤ hi)))) sh I J) := by
  refine pm_start (own := RX8) (nm := "in") (by decide) rfl rfl (L := [(0, .int v), (1, .int lo), (2, .int hi)]) rfl (Nat.le_of_ble_eq_true rfl) (fun Γ C C2 => ?_)
  refine g_iload_n (pc := 0) (i := 0) (j := 0) C dX8_in_0 rfl rfl ?_
  refine g_iload_n (pc := 1) (i := 1) (j := 1) C dX8_in_1 rfl rfl ?_
  refine g_icmp_lt (pc := 2) (tgt := 14) C dX8_in_2 (by decide) (fun h2 => ?_) (fun h2 => ?_)
  · refine g_iconst (pc := 14) (v := 0) C dX8_in_14 (by decide) ?_
    refine g_iret (pc := 15) C C2 dX8_in_15 (by first | rfl | exact pm_nz) (Nat.le_refl _) (Nat.le_refl _) ?_
    clear C C2
    exact ⟨by grind [pm_b], rfl, rfl, rfl⟩
  · refine g_iload_n (pc := 5) (i := 0) (j := 0) C dX8_in_5 rfl rfl ?_
    refine g_iload_n (pc := 6) (i := 2) (j := 2) C dX8_in_6 rfl rfl ?_
    refine g_icmp_gt (pc := 7) (tgt := 14) C dX8_in_7 (by decide) (fun h7 => ?_) (fun h7 => ?_)
    · refine g_iconst (pc := 14) (v := 0) C dX8_in_14 (by decide) ?_
      refine g_iret (pc := 15) C C2 dX8_in_15 (by first | rfl | exact pm_nz) (Nat.le_refl _) (Nat.le_refl _) ?_
      clear C C2
      exact ⟨by grind [pm_b], rfl, rfl, rfl⟩
    · refine g_iconst (pc := 10) (v := 1) C dX8_in_10 (by decide) ?_
      refine g_goto (pc := 11) (tgt := 15) C dX8_in_11 (by decide) ?_
      refine g_iret (pc := 15) C C2 dX8_in_15 (by first | rfl | exact pm_nz) (Nat.le_refl _) (Nat.le_refl _) ?_
      clear C C2
      exact ⟨by grind [pm_b], rfl, rfl, rfl⟩

set_option maxHeartbeats 4000000 in
set_option maxRecDepth 100000 in
theorem c_X8_isHour {d : Nat} {x : Int32} {sh : List pm_S} {I : pm_I} {J : pm_J} : pm_M (d + 1) 0 0 yX8_isHour cX8_isHour 1 (some .boolean) [.int x] sh I J (pm_D (some (.int (pm_b (0 ≤ x ∧ x ≤ 23)))) sh I J) := by
  refine pm_start (own := RX8) (nm := "isHour") (by decide) rfl rfl (L := [(0, .int x)]) rfl (Nat.le_of_ble_eq_true rfl) (fun Γ C C2 => ?_)
  refine g_iload_n (pc := 0) (i := 0) (j := 0) C dX8_isHour_0 rfl rfl ?_
  refine g_iconst (pc := 1) (v := 0) C dX8_isHour_1 (by decide) ?_
  refine g_bipush (pc := 2) (v := 23) C dX8_isHour_2 (by decide) ?_
  refine g_callS (pc := 4) C dX8_isHour_4 lmX8_78 kcX8_in (by decide) (c_X8_in) rfl rfl (Nat.le_of_ble_eq_true rfl) ?_
  intro r9 sh9 I9 J9 hD9; obtain ⟨rfl, rfl, rfl, rfl⟩ := pm_Dq hD9; clear hD9
  try simp only [Option.toList_some, Option.toList_none, List.cons_append, List.nil_append]
  refine g_iret (pc := 7) C C2 dX8_isHour_7 (by first | rfl | exact pm_nz) (Nat.le_refl _) (Nat.le_refl _) ?_
  exact ⟨rfl, rfl, rfl, rfl⟩

set_option maxHeartbeats 4000000 in
set_option maxRecDepth 100000 in
theorem c_X8_isTrial {d : Nat} {x : Int32} {sh : List pm_S} {I : pm_I} {J : pm_J} : pm_M (d + 1) 0 0 yX8_isTrial cX8_isTrial 1 (some .boolean) [.int x] sh I J (pm_D (some (.int (pm_b (0 ≤ x ∧ x ≤ 48)))) sh I J) := by
  refine pm_start (own := RX8) (nm := "isTrial") (by decide) rfl rfl (L := [(0, .int x)]) rfl (Nat.le_of_ble_eq_true rfl) (fun Γ C C2 => ?_)
  refine g_iload_n (pc := 0) (i := 0) (j := 0) C dX8_isTrial_0 rfl rfl ?_
  refine g_iconst (pc := 1) (v := 0) C dX8_isTrial_1 (by decide) ?_
  refine g_bipush (pc := 2) (v := 48) C dX8_isTrial_2 (by decide) ?_
  refine g_callS (pc := 4) C dX8_isTrial_4 lmX8_78 kcX8_in (by decide) (c_X8_in) rfl rfl (Nat.le_of_ble_eq_true rfl) ?_
  intro r9 sh9 I9 J9 hD9; obtain ⟨rfl, rfl, rfl, rfl⟩ := pm_Dq hD9; clear hD9
  try simp only [Option.toList_some, Option.toList_none, List.cons_append, List.nil_append]
  refine g_iret (pc := 7) C C2 dX8_isTrial_7 (by first | rfl | exact pm_nz) (Nat.le_refl _) (Nat.le_refl _) ?_
  exact ⟨rfl, rfl, rfl, rfl⟩

set_option maxHeartbeats 4000000 in
set_option maxRecDepth 100000 in
theorem c_X8_isSoon {d : Nat} {x : Int32} {sh : List pm_S} {I : pm_I} {J : pm_J} : pm_M (d + 1) 0 0 yX8_isSoon cX8_isSoon 1 (some .boolean) [.int x] sh I J (pm_D (some (.int (pm_b (0 ≤ x ∧ x ≤ 24)))) sh I J) := by
  refine pm_start (own := RX8) (nm := "isSoon") (by decide) rfl rfl (L := [(0, .int x)]) rfl (Nat.le_of_ble_eq_true rfl) (fun Γ C C2 => ?_)
  refine g_iload_n (pc := 0) (i := 0) (j := 0) C dX8_isSoon_0 rfl rfl ?_
  refine g_iconst (pc := 1) (v := 0) C dX8_isSoon_1 (by decide) ?_
  refine g_bipush (pc := 2) (v := 24) C dX8_isSoon_2 (by decide) ?_
  refine g_callS (pc := 4) C dX8_isSoon_4 lmX8_78 kcX8_in (by decide) (c_X8_in) rfl rfl (Nat.le_of_ble_eq_true rfl) ?_
  intro r9 sh9 I9 J9 hD9; obtain ⟨rfl, rfl, rfl, rfl⟩ := pm_Dq hD9; clear hD9
  try simp only [Option.toList_some, Option.toList_none, List.cons_append, List.nil_append]
  refine g_iret (pc := 7) C C2 dX8_isSoon_7 (by first | rfl | exact pm_nz) (Nat.le_refl _) (Nat.le_refl _) ?_
  exact ⟨rfl, rfl, rfl, rfl⟩

set_option maxHeartbeats 4000000 in
set_option maxRecDepth 100000 in
theorem c_X8_isShelf {d : Nat} {x : Int32} {sh : List pm_S} {I : pm_I} {J : pm_J} : pm_M (d + 1) 0 0 yX8_isShelf cX8_isShelf 1 (some .boolean) [.int x] sh I J (pm_D (some (.int (pm_b (0 ≤ x ∧ x ≤ 3)))) sh I J) := by
  refine pm_start (own := RX8) (nm := "isShelf") (by decide) rfl rfl (L := [(0, .int x)]) rfl (Nat.le_of_ble_eq_true rfl) (fun Γ C C2 => ?_)
  refine g_iload_n (pc := 0) (i := 0) (j := 0) C dX8_isShelf_0 rfl rfl ?_
  refine g_iconst (pc := 1) (v := 0) C dX8_isShelf_1 (by decide) ?_
  refine g_iconst (pc := 2) (v := 3) C dX8_isShelf_2 (by decide) ?_
  refine g_callS (pc := 3) C dX8_isShelf_3 lmX8_78 kcX8_in (by decide) (c_X8_in) rfl rfl (Nat.le_of_ble_eq_true rfl) ?_
  intro r9 sh9 I9 J9 hD9; obtain ⟨rfl, rfl, rfl, rfl⟩ := pm_Dq hD9; clear hD9
  try simp only [Option.toList_some, Option.toList_none, List.cons_append, List.nil_append]
  refine g_iret (pc := 6) C C2 dX8_isShelf_6 (by first | rfl | exact pm_nz) (Nat.le_refl _) (Nat.le_refl _) ?_
  exact ⟨rfl, rfl, rfl, rfl⟩

set_option maxHeartbeats 4000000 in
set_option maxRecDepth 100000 in
theorem c_X8_isWarmth {d : Nat} {x : Int32} {sh : List pm_S} {I : pm_I} {J : pm_J} : pm_M (d + 1) 0 0 yX8_isWarmth cX8_isWarmth 1 (some .boolean) [.int x] sh I J (pm_D (some (.int (pm_b (-20 ≤ x ∧ x ≤ 40)))) sh I J) := by
  refine pm_start (own := RX8) (nm := "isWarmth") (by decide) rfl rfl (L := [(0, .int x)]) rfl (Nat.le_of_ble_eq_true rfl) (fun Γ C C2 => ?_)
  refine g_iload_n (pc := 0) (i := 0) (j := 0) C dX8_isWarmth_0 rfl rfl ?_
  refine g_bipush (pc := 1) (v := (-20)) C dX8_isWarmth_1 (by decide) ?_
  refine g_bipush (pc := 3) (v := 40) C dX8_isWarmth_3 (by decide) ?_
  refine g_callS (pc := 5) C dX8_isWarmth_5 lmX8_78 kcX8_in (by decide) (c_X8_in) rfl rfl (Nat.le_of_ble_eq_true rfl) ?_
  intro r9 sh9 I9 J9 hD9; obtain ⟨rfl, rfl, rfl, rfl⟩ := pm_Dq hD9; clear hD9
  try simp only [Option.toList_some, Option.toList_none, List.cons_append, List.nil_append]
  refine g_iret (pc := 8) C C2 dX8_isWarmth_8 (by first | rfl | exact pm_nz) (Nat.le_refl _) (Nat.le_refl _) ?_
  exact ⟨rfl, rfl, rfl, rfl⟩

set_option maxHeartbeats 4000000 in
set_option maxRecDepth 100000 in
theorem c_X8_isKind {d : Nat} {x y : Int32} {sh : List pm_S} {I : pm_I} {J : pm_J} : pm_M (d + 1) 0 0 yX8_isKind cX8_isKind 2 (some .boolean) [.int x, .int y] sh I J (pm_D (some (.int (pm_b ((0 ≤ x ∧ x ≤ 5) ∧ 0 ≤ y ∧ y ≤ 9)))) sh I J) := by
  refine pm_start (own := RX8) (nm := "isKind") (by decide) rfl rfl (L := [(0, .int x), (1, .int y)]) rfl (Nat.le_of_ble_eq_true rfl) (fun Γ C C2 => ?_)
  refine g_iload_n (pc := 0) (i := 0) (j := 0) C dX8_isKind_0 rfl rfl ?_
  refine g_iconst (pc := 1) (v := 0) C dX8_isKind_1 (by decide) ?_
  refine g_iconst (pc := 2) (v := 5) C dX8_isKind_2 (by decide) ?_
  refine g_callS (pc := 3) C dX8_isKind_3 lmX8_78 kcX8_in (by decide) (c_X8_in) rfl rfl (Nat.le_of_ble_eq_true rfl) ?_
  intro r9 sh9 I9 J9 hD9; obtain ⟨rfl, rfl, rfl, rfl⟩ := pm_Dq hD9; clear hD9
  try simp only [Option.toList_some, Option.toList_none, List.cons_append, List.nil_append]
  refine g_if_eqB (pc := 6) (tgt := 23) C dX8_isKind_6 (by decide) (fun h6 => ?_) (fun h6 => ?_)
  · refine g_iconst (pc := 23) (v := 0) C dX8_isKind_23 (by decide) ?_
    refine g_iret (pc := 24) C C2 dX8_isKind_24 (by first | rfl | exact pm_nz) (Nat.le_refl _) (Nat.le_refl _) ?_
    clear C C2
    exact ⟨by grind [pm_b], rfl, rfl, rfl⟩
  · refine g_iload_n (pc := 9) (i := 1) (j := 1) C dX8_isKind_9 rfl rfl ?_
    refine g_iconst (pc := 10) (v := 0) C dX8_isKind_10 (by decide) ?_
    refine g_bipush (pc := 11) (v := 9) C dX8_isKind_11 (by decide) ?_
    refine g_callS (pc := 13) C dX8_isKind_13 lmX8_78 kcX8_in (by decide) (c_X8_in) rfl rfl (Nat.le_of_ble_eq_true rfl) ?_
    intro r9 sh9 I9 J9 hD9; obtain ⟨rfl, rfl, rfl, rfl⟩ := pm_Dq hD9; clear hD9
    try simp only [Option.toList_some, Option.toList_none, List.cons_append, List.nil_append]
    refine g_if_eqB (pc := 16) (tgt := 23) C dX8_isKind_16 (by decide) (fun h16 => ?_) (fun h16 => ?_)
    · refine g_iconst (pc := 23) (v := 0) C dX8_isKind_23 (by decide) ?_
      refine g_iret (pc := 24) C C2 dX8_isKind_24 (by first | rfl | exact pm_nz) (Nat.le_refl _) (Nat.le_refl _) ?_
      clear C C2
      exact ⟨by grind [pm_b], rfl, rfl, rfl⟩
    · refine g_iconst (pc := 19) (v := 1) C dX8_isKind_19 (by decide) ?_
      refine g_goto (pc := 20) (tgt := 24) C dX8_isKind_20 (by decide) ?_
      refine g_iret (pc := 24) C C2 dX8_isKind_24 (by first | rfl | exact pm_nz) (Nat.le_refl _) (Nat.le_refl _) ?_
      clear C C2
      exact ⟨by grind [pm_b], rfl, rfl, rfl⟩

set_option maxHeartbeats 4000000 in
set_option maxRecDepth 100000 in
theorem c_X8_isBalloon {d : Nat} {x : Int32} {I : pm_I} {J : pm_J} : pm_M (d + 1) 0 0 yX8_isBalloon cX8_isBalloon 2 (some .boolean) [.ref 102, .int x] SHP I J (pm_D (some (.int (pm_b (0 ≤ x ∧ x ≤ I 102 2 - 1)))) SHP I J) := by
  refine pm_start (own := RX8) (nm := "isBalloon") (by decide) rfl rfl (L := [(0, .ref 102), (1, .int x)]) rfl (Nat.le_of_ble_eq_true rfl) (fun Γ C C2 => ?_)
  refine g_iload_n (pc := 0) (i := 1) (j := 1) C dX8_isBalloon_0 rfl rfl ?_
  refine g_iconst (pc := 1) (v := 0) C dX8_isBalloon_1 (by decide) ?_
  refine g_aload_n (pc := 2) (i := 0) (j := 0) C dX8_isBalloon_2 rfl rfl ?_
  refine g_getI (pc := 3) C dX8_isBalloon_3 lfX8_82 (by first | rfl | assumption) rfl ?_
  refine g_iconst (pc := 6) (v := 1) C dX8_isBalloon_6 (by decide) ?_
  refine g_isub (pc := 7) C dX8_isBalloon_7 ?_
  refine g_callS (pc := 8) C dX8_isBalloon_8 lmX8_78 kcX8_in (by decide) (c_X8_in) rfl rfl (Nat.le_of_ble_eq_true rfl) ?_
  intro r9 sh9 I9 J9 hD9; obtain ⟨rfl, rfl, rfl, rfl⟩ := pm_Dq hD9; clear hD9
  try simp only [Option.toList_some, Option.toList_none, List.cons_append, List.nil_append]
  refine g_iret (pc := 11) C C2 dX8_isBalloon_11 (by first | rfl | exact pm_nz) (Nat.le_refl _) (Nat.le_refl _) ?_
  exact ⟨rfl, rfl, rfl, rfl⟩

set_option maxHeartbeats 4000000 in
set_option maxRecDepth 100000 in
theorem c_X8_its {d : Nat} {I : pm_I} {J : pm_J} {a : Nat} (hat : I 102 6 = nI a) (ha : a ≤ 43) {b p : Nat} (hb : b < 6) (hp : p ≤ 7) : pm_M d 0 0 yX8_its cX8_its 3 (some .int) [.ref 102, .int (nI b), .int (nI p)] SHP I J (pm_D (some (.int (I 106 (a + 7 * b + p)))) SHP I J) := by
  refine pm_start (own := RX8) (nm := "its") (by decide) rfl rfl (L := [(0, .ref 102), (1, .int (nI b)), (2, .int (nI p))]) rfl (Nat.le_of_ble_eq_true rfl) (fun Γ C C2 => ?_)
  refine g_aload_n (pc := 0) (i := 0) (j := 0) C dX8_its_0 rfl rfl ?_
  refine g_getR (pc := 1) C dX8_its_1 lfX8_23 (by first | rfl | assumption) rfl ?_
  refine g_aload_n (pc := 4) (i := 0) (j := 0) C dX8_its_4 rfl rfl ?_
  refine g_getI (pc := 5) C dX8_its_5 lfX8_85 (by first | rfl | assumption) rfl ?_
  refine g_bipush (pc := 8) (v := 7) C dX8_its_8 (by decide) ?_
  refine g_iload_n (pc := 10) (i := 1) (j := 1) C dX8_its_10 rfl rfl ?_
  refine g_imul (pc := 11) C dX8_its_11 ?_
  refine g_iadd (pc := 12) C dX8_its_12 ?_
  refine g_iload_n (pc := 13) (i := 2) (j := 2) C dX8_its_13 rfl rfl ?_
  refine g_iadd (pc := 14) C dX8_its_14 ?_
  rw [hat, mo_ix]
  refine g_iald (pc := 15) C dX8_its_15 (by first | rfl | assumption) (by decide) (by first | rfl | assumption) (by first | assumption | decide | omega) ?_
  refine g_iret (pc := 16) C C2 dX8_its_16 rfl (Nat.le_refl _) (Nat.le_refl _) ?_
  exact ⟨rfl, rfl, rfl, rfl⟩

set_option maxHeartbeats 4000000 in
set_option maxRecDepth 100000 in
theorem c_X8_sets {d : Nat} {I : pm_I} {J : pm_J} {a : Nat} (hat : I 102 6 = nI a) (ha : a ≤ 43) {b p : Nat} {v : Int32} (hb : b < 6) (hp : p ≤ 7) : pm_M d 0 0 yX8_sets cX8_sets 4 (none : Option Jvm.ClassFile.FieldType) [.ref 102, .int (nI b), .int (nI p), .int v] SHP I J (pm_D none SHP (pm_u I 106 (a + 7 * b + p) v) J) := by
  refine pm_start (own := RX8) (nm := "sets") (by decide) rfl rfl (L := [(0, .ref 102), (1, .int (nI b)), (2, .int (nI p)), (3, .int v)]) rfl (Nat.le_of_ble_eq_true rfl) (fun Γ C C2 => ?_)
  refine g_aload_n (pc := 0) (i := 0) (j := 0) C dX8_sets_0 rfl rfl ?_
  refine g_getR (pc := 1) C dX8_sets_1 lfX8_23 (by first | rfl | assumption) rfl ?_
  refine g_aload_n (pc := 4) (i := 0) (j := 0) C dX8_sets_4 rfl rfl ?_
  refine g_getI (pc := 5) C dX8_sets_5 lfX8_85 (by first | rfl | assumption) rfl ?_
  refine g_bipush (pc := 8) (v := 7) C dX8_sets_8 (by decide) ?_
  refine g_iload_n (pc := 10) (i := 1) (j := 1) C dX8_sets_10 rfl rfl ?_
  refine g_imul (pc := 11) C dX8_sets_11 ?_
  refine g_iadd (pc := 12) C dX8_sets_12 ?_
  refine g_iload_n (pc := 13) (i := 2) (j := 2) C dX8_sets_13 rfl rfl ?_
  refine g_iadd (pc := 14) C dX8_sets_14 ?_
  rw [hat, mo_ix]
  refine g_iload_n (pc := 15) (i := 3) (j := 3) C dX8_sets_15 rfl rfl ?_
  refine g_iast (pc := 16) C dX8_sets_16 (by first | rfl | assumption) (by decide) (by first | rfl | assumption) (by first | assumption | decide | omega) ?_
  refine g_vret (pc := 17) C C2 dX8_sets_17 (Nat.le_refl _) (Nat.le_refl _) ?_
  exact ⟨rfl, rfl, rfl, rfl⟩

set_option maxHeartbeats 4000000 in
set_option maxRecDepth 100000 in
theorem c_X8_weight {d : Nat} {I : pm_I} {J : pm_J} {a : Nat} (hat : I 102 6 = nI a) (ha : a ≤ 43) {b : Nat} (hb : b < 6)  : pm_M (d + 1) 0 0 yX8_weight cX8_weight 2 (some .int) [.ref 102, .int (nI b)] SHP I J (pm_D (some (.int (bl_weight (md I a b)))) SHP I J) := by
  refine pm_start (own := RX8) (nm := "weight") (by decide) rfl rfl (L := [(0, .ref 102), (1, .int (nI b))]) rfl (Nat.le_of_ble_eq_true rfl) (fun Γ C C2 => ?_)
  refine g_aload_n (pc := 0) (i := 0) (j := 0) C dX8_weight_0 rfl rfl ?_
  refine g_iload_n (pc := 1) (i := 1) (j := 1) C dX8_weight_1 rfl rfl ?_
  refine g_iconst (pc := 2) (v := 5) C dX8_weight_2 (by decide) ?_
  refine g_callV (pc := 3) C dX8_weight_3 lmX8_219 kcX8_its (by decide) (by first | rfl | assumption) (c_X8_its (p := 5) hat ha hb (by decide)) rfl rfl (Nat.le_of_ble_eq_true rfl) ?_
  intro r9 sh9 I9 J9 hD9; obtain ⟨rfl, rfl, rfl, rfl⟩ := pm_Dq hD9; clear hD9
  try simp only [Option.toList_some, Option.toList_none, List.cons_append, List.nil_append]
  refine g_aload_n (pc := 6) (i := 0) (j := 0) C dX8_weight_6 rfl rfl ?_
  refine g_iload_n (pc := 7) (i := 1) (j := 1) C dX8_weight_7 rfl rfl ?_
  refine g_bipush (pc := 8) (v := 6) C dX8_weight_8 (by decide) ?_
  refine g_callV (pc := 10) C dX8_weight_10 lmX8_219 kcX8_its (by decide) (by first | rfl | assumption) (c_X8_its (p := 6) hat ha hb (by decide)) rfl rfl (Nat.le_of_ble_eq_true rfl) ?_
  intro r9 sh9 I9 J9 hD9; obtain ⟨rfl, rfl, rfl, rfl⟩ := pm_Dq hD9; clear hD9
  try simp only [Option.toList_some, Option.toList_none, List.cons_append, List.nil_append]
  refine g_iadd (pc := 13) C dX8_weight_13 ?_
  refine g_aload_n (pc := 14) (i := 0) (j := 0) C dX8_weight_14 rfl rfl ?_
  refine g_iload_n (pc := 15) (i := 1) (j := 1) C dX8_weight_15 rfl rfl ?_
  refine g_bipush (pc := 16) (v := 7) C dX8_weight_16 (by decide) ?_
  refine g_callV (pc := 18) C dX8_weight_18 lmX8_219 kcX8_its (by decide) (by first | rfl | assumption) (c_X8_its (p := 7) hat ha hb (by decide)) rfl rfl (Nat.le_of_ble_eq_true rfl) ?_
  intro r9 sh9 I9 J9 hD9; obtain ⟨rfl, rfl, rfl, rfl⟩ := pm_Dq hD9; clear hD9
  try simp only [Option.toList_some, Option.toList_none, List.cons_append, List.nil_append]
  refine g_iadd (pc := 21) C dX8_weight_21 ?_
  refine g_aload_n (pc := 22) (i := 0) (j := 0) C dX8_weight_22 rfl rfl ?_
  refine g_getR (pc := 23) C dX8_weight_23 lfX8_20 (by first | rfl | assumption) rfl ?_
  refine g_iload_n (pc := 26) (i := 1) (j := 1) C dX8_weight_26 rfl rfl ?_
  refine g_iald (pc := 27) C dX8_weight_27 (by first | rfl | assumption) (by decide) (by first | rfl | assumption) (by first | assumption | decide | omega) ?_
  refine g_iadd (pc := 28) C dX8_weight_28 ?_
  refine g_iret (pc := 29) C C2 dX8_weight_29 rfl (Nat.le_refl _) (Nat.le_refl _) ?_
  exact ⟨rfl, rfl, rfl, rfl⟩

set_option maxHeartbeats 4000000 in
set_option maxRecDepth 100000 in
theorem c_X8_hourNow {d : Nat} {I : pm_I} {J : pm_J} {a : Nat} (hat : I 102 6 = nI a) (ha : a ≤ 43) {t : Nat} (ht : I 106 a = nI t) (ht2 : t < 200)  : pm_M d 0 0 yX8_hourNow cX8_hourNow 1 (some .int) [.ref 102] SHP I J (pm_D (some (.int (nI (t % 24)))) SHP I J) := by
  refine pm_start (own := RX8) (nm := "hourNow") (by decide) rfl rfl (L := [(0, .ref 102)]) rfl (Nat.le_of_ble_eq_true rfl) (fun Γ C C2 => ?_)
  refine g_aload_n (pc := 0) (i := 0) (j := 0) C dX8_hourNow_0 rfl rfl ?_
  refine g_getR (pc := 1) C dX8_hourNow_1 lfX8_23 (by first | rfl | assumption) rfl ?_
  refine g_aload_n (pc := 4) (i := 0) (j := 0) C dX8_hourNow_4 rfl rfl ?_
  refine g_getI (pc := 5) C dX8_hourNow_5 lfX8_85 (by first | rfl | assumption) rfl ?_
  refine g_iconst (pc := 8) (v := 0) C dX8_hourNow_8 (by decide) ?_
  refine g_iadd (pc := 9) C dX8_hourNow_9 ?_
  rw [hat, show nI a + 0 = nI a from Int32.add_zero _]
  refine g_iald (pc := 10) C dX8_hourNow_10 (by first | rfl | assumption) (by decide) (by first | rfl | assumption) (by first | assumption | decide | omega) ?_
  refine g_bipush (pc := 11) (v := 24) C dX8_hourNow_11 (by decide) ?_
  refine g_irem (pc := 13) C dX8_hourNow_13 (by first | decide | assumption) ?_
  refine g_iret (pc := 14) C C2 dX8_hourNow_14 rfl (Nat.le_refl _) (Nat.le_refl _) ?_
  refine ⟨?_, rfl, rfl, rfl⟩
  rw [ht]
  congr 2
  exact pk_rem (d := 24) (by omega) (by decide) (by decide)

set_option maxHeartbeats 4000000 in
set_option maxRecDepth 100000 in
theorem c_X8_lift {d : Nat} {I : pm_I} {J : pm_J} {a : Nat} (hat : I 102 6 = nI a) (ha : a ≤ 43) {b : Nat} (hb : b < 6) {t : Nat} (ht : I 106 a = nI t) (ht2 : t < 200)  : pm_M (d + 1) 0 0 yX8_lift cX8_lift 5 (some .int) [.ref 102, .int (nI b)] SHP I J (pm_D (some (.int (bl_lift (md I a b) (I 103 (t % 24) - I 102 7)))) SHP I J) := by
  refine pm_start (own := RX8) (nm := "lift") (by decide) rfl rfl (L := [(0, .ref 102), (1, .int (nI b))]) rfl (Nat.le_of_ble_eq_true rfl) (fun Γ C C2 => ?_)
  refine g_aload_n (pc := 0) (i := 0) (j := 0) C dX8_lift_0 rfl rfl ?_
  refine g_getR (pc := 1) C dX8_lift_1 lfX8_7 (by first | rfl | assumption) rfl ?_
  refine g_aload_n (pc := 4) (i := 0) (j := 0) C dX8_lift_4 rfl rfl ?_
  refine g_callV (pc := 5) C dX8_lift_5 lmX8_222 kcX8_hourNow (by decide) (by first | rfl | assumption) (c_X8_hourNow hat ha ht ht2) rfl rfl (Nat.le_of_ble_eq_true rfl) ?_
  intro r9 sh9 I9 J9 hD9; obtain ⟨rfl, rfl, rfl, rfl⟩ := pm_Dq hD9; clear hD9
  try simp only [Option.toList_some, Option.toList_none, List.cons_append, List.nil_append]
  have e24 : t % 24 < 24 := Nat.mod_lt _ (by decide)
  refine g_iald (pc := 8) C dX8_lift_8 (by first | rfl | assumption) (by decide) (by first | rfl | assumption) (by first | assumption | decide | omega) ?_
  refine g_aload_n (pc := 9) (i := 0) (j := 0) C dX8_lift_9 rfl rfl ?_
  refine g_getI (pc := 10) C dX8_lift_10 lfX8_225 (by first | rfl | assumption) rfl ?_
  refine g_isub (pc := 13) C dX8_lift_13 ?_
  refine g_istore_n (pc := 14) (i := 2) (L2 := [(0, _), (1, _), (2, _)]) C dX8_lift_14 rfl (by decide) rfl ?_
  refine g_aload_n (pc := 15) (i := 0) (j := 0) C dX8_lift_15 rfl rfl ?_
  refine g_getR (pc := 16) C dX8_lift_16 lfX8_17 (by first | rfl | assumption) rfl ?_
  refine g_iload_n (pc := 19) (i := 1) (j := 1) C dX8_lift_19 rfl rfl ?_
  refine g_iald (pc := 20) C dX8_lift_20 (by first | rfl | assumption) (by decide) (by first | rfl | assumption) (by first | assumption | decide | omega) ?_
  refine g_iconst (pc := 21) (v := 1) C dX8_lift_21 (by decide) ?_
  refine g_icmp_eq (pc := 22) (tgt := 35) C dX8_lift_22 (by decide) (fun h22 => ?_) (fun h22 => ?_)
  · refine g_iconst (pc := 35) (v := 1) C dX8_lift_35 (by decide) ?_
    refine g_goto (pc := 36) (tgt := 40) C dX8_lift_36 (by decide) ?_
    refine g_istore_n (pc := 40) (i := 3) (L2 := [(0, _), (1, _), (2, _), (3, _)]) C dX8_lift_40 rfl (by decide) rfl ?_
    refine g_aload_n (pc := 41) (i := 0) (j := 0) C dX8_lift_41 rfl rfl ?_
    refine g_iload_n (pc := 42) (i := 1) (j := 1) C dX8_lift_42 rfl rfl ?_
    refine g_iconst (pc := 43) (v := 4) C dX8_lift_43 (by decide) ?_
    refine g_callV (pc := 44) C dX8_lift_44 lmX8_219 kcX8_its (by decide) (by first | rfl | assumption) (c_X8_its (p := 4) hat ha hb (by decide)) rfl rfl (Nat.le_of_ble_eq_true rfl) ?_
    intro r9 sh9 I9 J9 hD9; obtain ⟨rfl, rfl, rfl, rfl⟩ := pm_Dq hD9; clear hD9
    try simp only [Option.toList_some, Option.toList_none, List.cons_append, List.nil_append]
    refine g_istore (pc := 47) (L2 := [(0, _), (1, _), (2, _), (3, _), (4, _)]) C dX8_lift_47 (by decide) rfl ?_
    refine g_iload (pc := 49) (j := 4) C dX8_lift_49 rfl ?_
    refine g_iload (pc := 51) (j := 4) C dX8_lift_51 rfl ?_
    refine g_iload_n (pc := 53) (i := 3) (j := 3) C dX8_lift_53 rfl rfl ?_
    refine g_if_eq (pc := 54) (tgt := 63) C dX8_lift_54 (by decide) (fun h54 => ?_) (fun h54 => ?_)
    · refine g_iload_n (pc := 63) (i := 2) (j := 2) C dX8_lift_63 rfl rfl ?_
      refine g_imul (pc := 64) C dX8_lift_64 ?_
      refine g_bipush (pc := 65) (v := 100) C dX8_lift_65 (by decide) ?_
      refine g_idiv (pc := 67) C dX8_lift_67 (by first | decide | assumption) ?_
      refine g_iadd (pc := 68) C dX8_lift_68 ?_
      refine g_aload_n (pc := 69) (i := 0) (j := 0) C dX8_lift_69 rfl rfl ?_
      refine g_getR (pc := 70) C dX8_lift_70 lfX8_17 (by first | rfl | assumption) rfl ?_
      refine g_iload_n (pc := 73) (i := 1) (j := 1) C dX8_lift_73 rfl rfl ?_
      refine g_iald (pc := 74) C dX8_lift_74 (by first | rfl | assumption) (by decide) (by first | rfl | assumption) (by first | assumption | decide | omega) ?_
      refine g_iconst (pc := 75) (v := 4) C dX8_lift_75 (by decide) ?_
      refine g_icmp_ne (pc := 76) (tgt := 83) C dX8_lift_76 (by decide) (fun h76 => ?_) (fun h76 => ?_)
      · refine g_iconst (pc := 83) (v := 0) C dX8_lift_83 (by decide) ?_
        refine g_iadd (pc := 84) C dX8_lift_84 ?_
        refine g_iret (pc := 85) C C2 dX8_lift_85 rfl (Nat.le_refl _) (Nat.le_refl _) ?_
        clear C C2
        have e9 : ∀ (g t : Int32), g * (2 * t) = g * 2 * t := fun g t => (Int32.mul_assoc _ _ _).symm
        have e8 : ∀ g : Int32, g + 0 = g := Int32.add_zero
        refine ⟨?_, rfl, rfl, rfl⟩
        unfold bl_lift
        rw [md_0, md_5]
        try simp only [e9, e8]
        grind
      · refine g_iconst (pc := 79) (v := 5) C dX8_lift_79 (by decide) ?_
        refine g_goto (pc := 80) (tgt := 84) C dX8_lift_80 (by decide) ?_
        refine g_iadd (pc := 84) C dX8_lift_84 ?_
        refine g_iret (pc := 85) C C2 dX8_lift_85 rfl (Nat.le_refl _) (Nat.le_refl _) ?_
        clear C C2
        have e9 : ∀ (g t : Int32), g * (2 * t) = g * 2 * t := fun g t => (Int32.mul_assoc _ _ _).symm
        have e8 : ∀ g : Int32, g + 0 = g := Int32.add_zero
        refine ⟨?_, rfl, rfl, rfl⟩
        unfold bl_lift
        rw [md_0, md_5]
        try simp only [e9, e8]
        grind
    · refine g_iconst (pc := 57) (v := 2) C dX8_lift_57 (by decide) ?_
      refine g_iload_n (pc := 58) (i := 2) (j := 2) C dX8_lift_58 rfl rfl ?_
      refine g_imul (pc := 59) C dX8_lift_59 ?_
      refine g_goto (pc := 60) (tgt := 64) C dX8_lift_60 (by decide) ?_
      refine g_imul (pc := 64) C dX8_lift_64 ?_
      refine g_bipush (pc := 65) (v := 100) C dX8_lift_65 (by decide) ?_
      refine g_idiv (pc := 67) C dX8_lift_67 (by first | decide | assumption) ?_
      refine g_iadd (pc := 68) C dX8_lift_68 ?_
      refine g_aload_n (pc := 69) (i := 0) (j := 0) C dX8_lift_69 rfl rfl ?_
      refine g_getR (pc := 70) C dX8_lift_70 lfX8_17 (by first | rfl | assumption) rfl ?_
      refine g_iload_n (pc := 73) (i := 1) (j := 1) C dX8_lift_73 rfl rfl ?_
      refine g_iald (pc := 74) C dX8_lift_74 (by first | rfl | assumption) (by decide) (by first | rfl | assumption) (by first | assumption | decide | omega) ?_
      refine g_iconst (pc := 75) (v := 4) C dX8_lift_75 (by decide) ?_
      refine g_icmp_ne (pc := 76) (tgt := 83) C dX8_lift_76 (by decide) (fun h76 => ?_) (fun h76 => ?_)
      · refine g_iconst (pc := 83) (v := 0) C dX8_lift_83 (by decide) ?_
        refine g_iadd (pc := 84) C dX8_lift_84 ?_
        refine g_iret (pc := 85) C C2 dX8_lift_85 rfl (Nat.le_refl _) (Nat.le_refl _) ?_
        clear C C2
        have e9 : ∀ (g t : Int32), g * (2 * t) = g * 2 * t := fun g t => (Int32.mul_assoc _ _ _).symm
        have e8 : ∀ g : Int32, g + 0 = g := Int32.add_zero
        refine ⟨?_, rfl, rfl, rfl⟩
        unfold bl_lift
        rw [md_0, md_5]
        try simp only [e9, e8]
        grind
      · refine g_iconst (pc := 79) (v := 5) C dX8_lift_79 (by decide) ?_
        refine g_goto (pc := 80) (tgt := 84) C dX8_lift_80 (by decide) ?_
        refine g_iadd (pc := 84) C dX8_lift_84 ?_
        refine g_iret (pc := 85) C C2 dX8_lift_85 rfl (Nat.le_refl _) (Nat.le_refl _) ?_
        clear C C2
        have e9 : ∀ (g t : Int32), g * (2 * t) = g * 2 * t := fun g t => (Int32.mul_assoc _ _ _).symm
        have e8 : ∀ g : Int32, g + 0 = g := Int32.add_zero
        refine ⟨?_, rfl, rfl, rfl⟩
        unfold bl_lift
        rw [md_0, md_5]
        try simp only [e9, e8]
        grind
  · refine g_aload_n (pc := 25) (i := 0) (j := 0) C dX8_lift_25 rfl rfl ?_
    refine g_getR (pc := 26) C dX8_lift_26 lfX8_17 (by first | rfl | assumption) rfl ?_
    refine g_iload_n (pc := 29) (i := 1) (j := 1) C dX8_lift_29 rfl rfl ?_
    refine g_iald (pc := 30) C dX8_lift_30 (by first | rfl | assumption) (by decide) (by first | rfl | assumption) (by first | assumption | decide | omega) ?_
    refine g_iconst (pc := 31) (v := 4) C dX8_lift_31 (by decide) ?_
    refine g_icmp_ne (pc := 32) (tgt := 39) C dX8_lift_32 (by decide) (fun h32 => ?_) (fun h32 => ?_)
    · refine g_iconst (pc := 39) (v := 0) C dX8_lift_39 (by decide) ?_
      refine g_istore_n (pc := 40) (i := 3) (L2 := [(0, _), (1, _), (2, _), (3, _)]) C dX8_lift_40 rfl (by decide) rfl ?_
      refine g_aload_n (pc := 41) (i := 0) (j := 0) C dX8_lift_41 rfl rfl ?_
      refine g_iload_n (pc := 42) (i := 1) (j := 1) C dX8_lift_42 rfl rfl ?_
      refine g_iconst (pc := 43) (v := 4) C dX8_lift_43 (by decide) ?_
      refine g_callV (pc := 44) C dX8_lift_44 lmX8_219 kcX8_its (by decide) (by first | rfl | assumption) (c_X8_its (p := 4) hat ha hb (by decide)) rfl rfl (Nat.le_of_ble_eq_true rfl) ?_
      intro r9 sh9 I9 J9 hD9; obtain ⟨rfl, rfl, rfl, rfl⟩ := pm_Dq hD9; clear hD9
      try simp only [Option.toList_some, Option.toList_none, List.cons_append, List.nil_append]
      refine g_istore (pc := 47) (L2 := [(0, _), (1, _), (2, _), (3, _), (4, _)]) C dX8_lift_47 (by decide) rfl ?_
      refine g_iload (pc := 49) (j := 4) C dX8_lift_49 rfl ?_
      refine g_iload (pc := 51) (j := 4) C dX8_lift_51 rfl ?_
      refine g_iload_n (pc := 53) (i := 3) (j := 3) C dX8_lift_53 rfl rfl ?_
      refine g_if_eq (pc := 54) (tgt := 63) C dX8_lift_54 (by decide) (fun h54 => ?_) (fun h54 => ?_)
      · refine g_iload_n (pc := 63) (i := 2) (j := 2) C dX8_lift_63 rfl rfl ?_
        refine g_imul (pc := 64) C dX8_lift_64 ?_
        refine g_bipush (pc := 65) (v := 100) C dX8_lift_65 (by decide) ?_
        refine g_idiv (pc := 67) C dX8_lift_67 (by first | decide | assumption) ?_
        refine g_iadd (pc := 68) C dX8_lift_68 ?_
        refine g_aload_n (pc := 69) (i := 0) (j := 0) C dX8_lift_69 rfl rfl ?_
        refine g_getR (pc := 70) C dX8_lift_70 lfX8_17 (by first | rfl | assumption) rfl ?_
        refine g_iload_n (pc := 73) (i := 1) (j := 1) C dX8_lift_73 rfl rfl ?_
        refine g_iald (pc := 74) C dX8_lift_74 (by first | rfl | assumption) (by decide) (by first | rfl | assumption) (by first | assumption | decide | omega) ?_
        refine g_iconst (pc := 75) (v := 4) C dX8_lift_75 (by decide) ?_
        refine g_icmp_ne (pc := 76) (tgt := 83) C dX8_lift_76 (by decide) (fun h76 => ?_) (fun h76 => ?_)
        · refine g_iconst (pc := 83) (v := 0) C dX8_lift_83 (by decide) ?_
          refine g_iadd (pc := 84) C dX8_lift_84 ?_
          refine g_iret (pc := 85) C C2 dX8_lift_85 rfl (Nat.le_refl _) (Nat.le_refl _) ?_
          clear C C2
          have e9 : ∀ (g t : Int32), g * (2 * t) = g * 2 * t := fun g t => (Int32.mul_assoc _ _ _).symm
          have e8 : ∀ g : Int32, g + 0 = g := Int32.add_zero
          refine ⟨?_, rfl, rfl, rfl⟩
          unfold bl_lift
          rw [md_0, md_5]
          try simp only [e9, e8]
          grind
        · refine g_iconst (pc := 79) (v := 5) C dX8_lift_79 (by decide) ?_
          refine g_goto (pc := 80) (tgt := 84) C dX8_lift_80 (by decide) ?_
          refine g_iadd (pc := 84) C dX8_lift_84 ?_
          refine g_iret (pc := 85) C C2 dX8_lift_85 rfl (Nat.le_refl _) (Nat.le_refl _) ?_
          clear C C2
          have e9 : ∀ (g t : Int32), g * (2 * t) = g * 2 * t := fun g t => (Int32.mul_assoc _ _ _).symm
          have e8 : ∀ g : Int32, g + 0 = g := Int32.add_zero
          refine ⟨?_, rfl, rfl, rfl⟩
          unfold bl_lift
          rw [md_0, md_5]
          try simp only [e9, e8]
          grind
      · refine g_iconst (pc := 57) (v := 2) C dX8_lift_57 (by decide) ?_
        refine g_iload_n (pc := 58) (i := 2) (j := 2) C dX8_lift_58 rfl rfl ?_
        refine g_imul (pc := 59) C dX8_lift_59 ?_
        refine g_goto (pc := 60) (tgt := 64) C dX8_lift_60 (by decide) ?_
        refine g_imul (pc := 64) C dX8_lift_64 ?_
        refine g_bipush (pc := 65) (v := 100) C dX8_lift_65 (by decide) ?_
        refine g_idiv (pc := 67) C dX8_lift_67 (by first | decide | assumption) ?_
        refine g_iadd (pc := 68) C dX8_lift_68 ?_
        refine g_aload_n (pc := 69) (i := 0) (j := 0) C dX8_lift_69 rfl rfl ?_
        refine g_getR (pc := 70) C dX8_lift_70 lfX8_17 (by first | rfl | assumption) rfl ?_
        refine g_iload_n (pc := 73) (i := 1) (j := 1) C dX8_lift_73 rfl rfl ?_
        refine g_iald (pc := 74) C dX8_lift_74 (by first | rfl | assumption) (by decide) (by first | rfl | assumption) (by first | assumption | decide | omega) ?_
        refine g_iconst (pc := 75) (v := 4) C dX8_lift_75 (by decide) ?_
        refine g_icmp_ne (pc := 76) (tgt := 83) C dX8_lift_76 (by decide) (fun h76 => ?_) (fun h76 => ?_)
        · refine g_iconst (pc := 83) (v := 0) C dX8_lift_83 (by decide) ?_
          refine g_iadd (pc := 84) C dX8_lift_84 ?_
          refine g_iret (pc := 85) C C2 dX8_lift_85 rfl (Nat.le_refl _) (Nat.le_refl _) ?_
          clear C C2
          have e9 : ∀ (g t : Int32), g * (2 * t) = g * 2 * t := fun g t => (Int32.mul_assoc _ _ _).symm
          have e8 : ∀ g : Int32, g + 0 = g := Int32.add_zero
          refine ⟨?_, rfl, rfl, rfl⟩
          unfold bl_lift
          rw [md_0, md_5]
          try simp only [e9, e8]
          grind
        · refine g_iconst (pc := 79) (v := 5) C dX8_lift_79 (by decide) ?_
          refine g_goto (pc := 80) (tgt := 84) C dX8_lift_80 (by decide) ?_
          refine g_iadd (pc := 84) C dX8_lift_84 ?_
          refine g_iret (pc := 85) C C2 dX8_lift_85 rfl (Nat.le_refl _) (Nat.le_refl _) ?_
          clear C C2
          have e9 : ∀ (g t : Int32), g * (2 * t) = g * 2 * t := fun g t => (Int32.mul_assoc _ _ _).symm
          have e8 : ∀ g : Int32, g + 0 = g := Int32.add_zero
          refine ⟨?_, rfl, rfl, rfl⟩
          unfold bl_lift
          rw [md_0, md_5]
          try simp only [e9, e8]
          grind
    · refine g_iconst (pc := 35) (v := 1) C dX8_lift_35 (by decide) ?_
      refine g_goto (pc := 36) (tgt := 40) C dX8_lift_36 (by decide) ?_
      refine g_istore_n (pc := 40) (i := 3) (L2 := [(0, _), (1, _), (2, _), (3, _)]) C dX8_lift_40 rfl (by decide) rfl ?_
      refine g_aload_n (pc := 41) (i := 0) (j := 0) C dX8_lift_41 rfl rfl ?_
      refine g_iload_n (pc := 42) (i := 1) (j := 1) C dX8_lift_42 rfl rfl ?_
      refine g_iconst (pc := 43) (v := 4) C dX8_lift_43 (by decide) ?_
      refine g_callV (pc := 44) C dX8_lift_44 lmX8_219 kcX8_its (by decide) (by first | rfl | assumption) (c_X8_its (p := 4) hat ha hb (by decide)) rfl rfl (Nat.le_of_ble_eq_true rfl) ?_
      intro r9 sh9 I9 J9 hD9; obtain ⟨rfl, rfl, rfl, rfl⟩ := pm_Dq hD9; clear hD9
      try simp only [Option.toList_some, Option.toList_none, List.cons_append, List.nil_append]
      refine g_istore (pc := 47) (L2 := [(0, _), (1, _), (2, _), (3, _), (4, _)]) C dX8_lift_47 (by decide) rfl ?_
      refine g_iload (pc := 49) (j := 4) C dX8_lift_49 rfl ?_
      refine g_iload (pc := 51) (j := 4) C dX8_lift_51 rfl ?_
      refine g_iload_n (pc := 53) (i := 3) (j := 3) C dX8_lift_53 rfl rfl ?_
      refine g_if_eq (pc := 54) (tgt := 63) C dX8_lift_54 (by decide) (fun h54 => ?_) (fun h54 => ?_)
      · refine g_iload_n (pc := 63) (i := 2) (j := 2) C dX8_lift_63 rfl rfl ?_
        refine g_imul (pc := 64) C dX8_lift_64 ?_
        refine g_bipush (pc := 65) (v := 100) C dX8_lift_65 (by decide) ?_
        refine g_idiv (pc := 67) C dX8_lift_67 (by first | decide | assumption) ?_
        refine g_iadd (pc := 68) C dX8_lift_68 ?_
        refine g_aload_n (pc := 69) (i := 0) (j := 0) C dX8_lift_69 rfl rfl ?_
        refine g_getR (pc := 70) C dX8_lift_70 lfX8_17 (by first | rfl | assumption) rfl ?_
        refine g_iload_n (pc := 73) (i := 1) (j := 1) C dX8_lift_73 rfl rfl ?_
        refine g_iald (pc := 74) C dX8_lift_74 (by first | rfl | assumption) (by decide) (by first | rfl | assumption) (by first | assumption | decide | omega) ?_
        refine g_iconst (pc := 75) (v := 4) C dX8_lift_75 (by decide) ?_
        refine g_icmp_ne (pc := 76) (tgt := 83) C dX8_lift_76 (by decide) (fun h76 => ?_) (fun h76 => ?_)
        · refine g_iconst (pc := 83) (v := 0) C dX8_lift_83 (by decide) ?_
          refine g_iadd (pc := 84) C dX8_lift_84 ?_
          refine g_iret (pc := 85) C C2 dX8_lift_85 rfl (Nat.le_refl _) (Nat.le_refl _) ?_
          clear C C2
          have e9 : ∀ (g t : Int32), g * (2 * t) = g * 2 * t := fun g t => (Int32.mul_assoc _ _ _).symm
          have e8 : ∀ g : Int32, g + 0 = g := Int32.add_zero
          refine ⟨?_, rfl, rfl, rfl⟩
          unfold bl_lift
          rw [md_0, md_5]
          try simp only [e9, e8]
          grind
        · refine g_iconst (pc := 79) (v := 5) C dX8_lift_79 (by decide) ?_
          refine g_goto (pc := 80) (tgt := 84) C dX8_lift_80 (by decide) ?_
          refine g_iadd (pc := 84) C dX8_lift_84 ?_
          refine g_iret (pc := 85) C C2 dX8_lift_85 rfl (Nat.le_refl _) (Nat.le_refl _) ?_
          clear C C2
          have e9 : ∀ (g t : Int32), g * (2 * t) = g * 2 * t := fun g t => (Int32.mul_assoc _ _ _).symm
          have e8 : ∀ g : Int32, g + 0 = g := Int32.add_zero
          refine ⟨?_, rfl, rfl, rfl⟩
          unfold bl_lift
          rw [md_0, md_5]
          try simp only [e9, e8]
          grind
      · refine g_iconst (pc := 57) (v := 2) C dX8_lift_57 (by decide) ?_
        refine g_iload_n (pc := 58) (i := 2) (j := 2) C dX8_lift_58 rfl rfl ?_
        refine g_imul (pc := 59) C dX8_lift_59 ?_
        refine g_goto (pc := 60) (tgt := 64) C dX8_lift_60 (by decide) ?_
        refine g_imul (pc := 64) C dX8_lift_64 ?_
        refine g_bipush (pc := 65) (v := 100) C dX8_lift_65 (by decide) ?_
        refine g_idiv (pc := 67) C dX8_lift_67 (by first | decide | assumption) ?_
        refine g_iadd (pc := 68) C dX8_lift_68 ?_
        refine g_aload_n (pc := 69) (i := 0) (j := 0) C dX8_lift_69 rfl rfl ?_
        refine g_getR (pc := 70) C dX8_lift_70 lfX8_17 (by first | rfl | assumption) rfl ?_
        refine g_iload_n (pc := 73) (i := 1) (j := 1) C dX8_lift_73 rfl rfl ?_
        refine g_iald (pc := 74) C dX8_lift_74 (by first | rfl | assumption) (by decide) (by first | rfl | assumption) (by first | assumption | decide | omega) ?_
        refine g_iconst (pc := 75) (v := 4) C dX8_lift_75 (by decide) ?_
        refine g_icmp_ne (pc := 76) (tgt := 83) C dX8_lift_76 (by decide) (fun h76 => ?_) (fun h76 => ?_)
        · refine g_iconst (pc := 83) (v := 0) C dX8_lift_83 (by decide) ?_
          refine g_iadd (pc := 84) C dX8_lift_84 ?_
          refine g_iret (pc := 85) C C2 dX8_lift_85 rfl (Nat.le_refl _) (Nat.le_refl _) ?_
          clear C C2
          have e9 : ∀ (g t : Int32), g * (2 * t) = g * 2 * t := fun g t => (Int32.mul_assoc _ _ _).symm
          have e8 : ∀ g : Int32, g + 0 = g := Int32.add_zero
          refine ⟨?_, rfl, rfl, rfl⟩
          unfold bl_lift
          rw [md_0, md_5]
          try simp only [e9, e8]
          grind
        · refine g_iconst (pc := 79) (v := 5) C dX8_lift_79 (by decide) ?_
          refine g_goto (pc := 80) (tgt := 84) C dX8_lift_80 (by decide) ?_
          refine g_iadd (pc := 84) C dX8_lift_84 ?_
          refine g_iret (pc := 85) C C2 dX8_lift_85 rfl (Nat.le_refl _) (Nat.le_refl _) ?_
          clear C C2
          have e9 : ∀ (g t : Int32), g * (2 * t) = g * 2 * t := fun g t => (Int32.mul_assoc _ _ _).symm
          have e8 : ∀ g : Int32, g + 0 = g := Int32.add_zero
          refine ⟨?_, rfl, rfl, rfl⟩
          unfold bl_lift
          rw [md_0, md_5]
          try simp only [e9, e8]
          grind

set_option maxHeartbeats 4000000 in
set_option maxRecDepth 100000 in
theorem c_X8_target {d : Nat} {I : pm_I} {J : pm_J} {a : Nat} (hat : I 102 6 = nI a) (ha : a ≤ 43) {b : Nat} (hb : b < 6) {t : Nat} (ht : I 106 a = nI t) (ht2 : t < 200)  : pm_M (d + 2) 0 0 yX8_target cX8_target 3 (some .int) [.ref 102, .int (nI b)] SHP I J (pm_D (some (.int (bl_target (md I a b) (I 103 (t % 24) - I 102 7)))) SHP I J) := by
  refine pm_start (own := RX8) (nm := "target") (by decide) rfl rfl (L := [(0, .ref 102), (1, .int (nI b))]) rfl (Nat.le_of_ble_eq_true rfl) (fun Γ C C2 => ?_)
  refine g_aload_n (pc := 0) (i := 0) (j := 0) C dX8_target_0 rfl rfl ?_
  refine g_iload_n (pc := 1) (i := 1) (j := 1) C dX8_target_1 rfl rfl ?_
  refine g_callV (pc := 2) C dX8_target_2 lmX8_228 kcX8_lift (by decide) (by first | rfl | assumption) (c_X8_lift hat ha hb ht ht2) rfl rfl (Nat.le_of_ble_eq_true rfl) ?_
  intro r9 sh9 I9 J9 hD9; obtain ⟨rfl, rfl, rfl, rfl⟩ := pm_Dq hD9; clear hD9
  try simp only [Option.toList_some, Option.toList_none, List.cons_append, List.nil_append]
  refine g_aload_n (pc := 5) (i := 0) (j := 0) C dX8_target_5 rfl rfl ?_
  refine g_iload_n (pc := 6) (i := 1) (j := 1) C dX8_target_6 rfl rfl ?_
  refine g_callV (pc := 7) C dX8_target_7 lmX8_231 kcX8_weight (by decide) (by first | rfl | assumption) (c_X8_weight hat ha hb) rfl rfl (Nat.le_of_ble_eq_true rfl) ?_
  intro r9 sh9 I9 J9 hD9; obtain ⟨rfl, rfl, rfl, rfl⟩ := pm_Dq hD9; clear hD9
  try simp only [Option.toList_some, Option.toList_none, List.cons_append, List.nil_append]
  refine g_isub (pc := 10) C dX8_target_10 ?_
  refine g_istore_n (pc := 11) (i := 2) (L2 := [(0, _), (1, _), (2, _)]) C dX8_target_11 rfl (by decide) rfl ?_
  refine g_aload_n (pc := 12) (i := 0) (j := 0) C dX8_target_12 rfl rfl ?_
  refine g_getR (pc := 13) C dX8_target_13 lfX8_17 (by first | rfl | assumption) rfl ?_
  refine g_iload_n (pc := 16) (i := 1) (j := 1) C dX8_target_16 rfl rfl ?_
  refine g_iald (pc := 17) C dX8_target_17 (by first | rfl | assumption) (by decide) (by first | rfl | assumption) (by first | assumption | decide | omega) ?_
  refine g_iconst (pc := 18) (v := 5) C dX8_target_18 (by decide) ?_
  refine g_icmp_ne (pc := 19) (tgt := 28) C dX8_target_19 (by decide) (fun h19 => ?_) (fun h19 => ?_)
  · refine g_iload_n (pc := 28) (i := 2) (j := 2) C dX8_target_28 rfl rfl ?_
    refine g_istore_n (pc := 29) (i := 2) (L2 := [(0, _), (1, _), (2, _)]) C dX8_target_29 rfl (by decide) rfl ?_
    refine g_iload_n (pc := 30) (i := 2) (j := 2) C dX8_target_30 rfl rfl ?_
    refine g_if_ge (pc := 31) (tgt := 38) C dX8_target_31 (by decide) (fun h31 => ?_) (fun h31 => ?_)
    · refine g_iload_n (pc := 38) (i := 2) (j := 2) C dX8_target_38 rfl rfl ?_
      refine g_aload_n (pc := 39) (i := 0) (j := 0) C dX8_target_39 rfl rfl ?_
      refine g_iload_n (pc := 40) (i := 1) (j := 1) C dX8_target_40 rfl rfl ?_
      refine g_iconst (pc := 41) (v := 3) C dX8_target_41 (by decide) ?_
      refine g_callV (pc := 42) C dX8_target_42 lmX8_219 kcX8_its (by decide) (by first | rfl | assumption) (c_X8_its (p := 3) hat ha hb (by decide)) rfl rfl (Nat.le_of_ble_eq_true rfl) ?_
      intro r9 sh9 I9 J9 hD9; obtain ⟨rfl, rfl, rfl, rfl⟩ := pm_Dq hD9; clear hD9
      try simp only [Option.toList_some, Option.toList_none, List.cons_append, List.nil_append]
      refine g_icmp_le (pc := 45) (tgt := 57) C dX8_target_45 (by decide) (fun h45 => ?_) (fun h45 => ?_)
      · refine g_iload_n (pc := 57) (i := 2) (j := 2) C dX8_target_57 rfl rfl ?_
        refine g_iret (pc := 58) C C2 dX8_target_58 rfl (Nat.le_refl _) (Nat.le_refl _) ?_
        clear C C2
        refine ⟨?_, rfl, rfl, rfl⟩
        unfold bl_target bl_held
        rw [md_0, md_4]
        grind
      · refine g_aload_n (pc := 48) (i := 0) (j := 0) C dX8_target_48 rfl rfl ?_
        refine g_iload_n (pc := 49) (i := 1) (j := 1) C dX8_target_49 rfl rfl ?_
        refine g_iconst (pc := 50) (v := 3) C dX8_target_50 (by decide) ?_
        refine g_callV (pc := 51) C dX8_target_51 lmX8_219 kcX8_its (by decide) (by first | rfl | assumption) (c_X8_its (p := 3) hat ha hb (by decide)) rfl rfl (Nat.le_of_ble_eq_true rfl) ?_
        intro r9 sh9 I9 J9 hD9; obtain ⟨rfl, rfl, rfl, rfl⟩ := pm_Dq hD9; clear hD9
        try simp only [Option.toList_some, Option.toList_none, List.cons_append, List.nil_append]
        refine g_goto (pc := 54) (tgt := 58) C dX8_target_54 (by decide) ?_
        refine g_iret (pc := 58) C C2 dX8_target_58 rfl (Nat.le_refl _) (Nat.le_refl _) ?_
        clear C C2
        refine ⟨?_, rfl, rfl, rfl⟩
        unfold bl_target bl_held
        rw [md_0, md_4]
        grind
    · refine g_iconst (pc := 34) (v := 0) C dX8_target_34 (by decide) ?_
      refine g_goto (pc := 35) (tgt := 58) C dX8_target_35 (by decide) ?_
      refine g_iret (pc := 58) C C2 dX8_target_58 rfl (Nat.le_refl _) (Nat.le_refl _) ?_
      clear C C2
      refine ⟨?_, rfl, rfl, rfl⟩
      unfold bl_target bl_held
      rw [md_0, md_4]
      grind
  · refine g_iload_n (pc := 22) (i := 2) (j := 2) C dX8_target_22 rfl rfl ?_
    refine g_iconst (pc := 23) (v := 2) C dX8_target_23 (by decide) ?_
    refine g_idiv (pc := 24) C dX8_target_24 (by first | decide | assumption) ?_
    refine g_goto (pc := 25) (tgt := 29) C dX8_target_25 (by decide) ?_
    refine g_istore_n (pc := 29) (i := 2) (L2 := [(0, _), (1, _), (2, _)]) C dX8_target_29 rfl (by decide) rfl ?_
    refine g_iload_n (pc := 30) (i := 2) (j := 2) C dX8_target_30 rfl rfl ?_
    refine g_if_ge (pc := 31) (tgt := 38) C dX8_target_31 (by decide) (fun h31 => ?_) (fun h31 => ?_)
    · refine g_iload_n (pc := 38) (i := 2) (j := 2) C dX8_target_38 rfl rfl ?_
      refine g_aload_n (pc := 39) (i := 0) (j := 0) C dX8_target_39 rfl rfl ?_
      refine g_iload_n (pc := 40) (i := 1) (j := 1) C dX8_target_40 rfl rfl ?_
      refine g_iconst (pc := 41) (v := 3) C dX8_target_41 (by decide) ?_
      refine g_callV (pc := 42) C dX8_target_42 lmX8_219 kcX8_its (by decide) (by first | rfl | assumption) (c_X8_its (p := 3) hat ha hb (by decide)) rfl rfl (Nat.le_of_ble_eq_true rfl) ?_
      intro r9 sh9 I9 J9 hD9; obtain ⟨rfl, rfl, rfl, rfl⟩ := pm_Dq hD9; clear hD9
      try simp only [Option.toList_some, Option.toList_none, List.cons_append, List.nil_append]
      refine g_icmp_le (pc := 45) (tgt := 57) C dX8_target_45 (by decide) (fun h45 => ?_) (fun h45 => ?_)
      · refine g_iload_n (pc := 57) (i := 2) (j := 2) C dX8_target_57 rfl rfl ?_
        refine g_iret (pc := 58) C C2 dX8_target_58 rfl (Nat.le_refl _) (Nat.le_refl _) ?_
        clear C C2
        refine ⟨?_, rfl, rfl, rfl⟩
        unfold bl_target bl_held
        rw [md_0, md_4]
        grind
      · refine g_aload_n (pc := 48) (i := 0) (j := 0) C dX8_target_48 rfl rfl ?_
        refine g_iload_n (pc := 49) (i := 1) (j := 1) C dX8_target_49 rfl rfl ?_
        refine g_iconst (pc := 50) (v := 3) C dX8_target_50 (by decide) ?_
        refine g_callV (pc := 51) C dX8_target_51 lmX8_219 kcX8_its (by decide) (by first | rfl | assumption) (c_X8_its (p := 3) hat ha hb (by decide)) rfl rfl (Nat.le_of_ble_eq_true rfl) ?_
        intro r9 sh9 I9 J9 hD9; obtain ⟨rfl, rfl, rfl, rfl⟩ := pm_Dq hD9; clear hD9
        try simp only [Option.toList_some, Option.toList_none, List.cons_append, List.nil_append]
        refine g_goto (pc := 54) (tgt := 58) C dX8_target_54 (by decide) ?_
        refine g_iret (pc := 58) C C2 dX8_target_58 rfl (Nat.le_refl _) (Nat.le_refl _) ?_
        clear C C2
        refine ⟨?_, rfl, rfl, rfl⟩
        unfold bl_target bl_held
        rw [md_0, md_4]
        grind
    · refine g_iconst (pc := 34) (v := 0) C dX8_target_34 (by decide) ?_
      refine g_goto (pc := 35) (tgt := 58) C dX8_target_35 (by decide) ?_
      refine g_iret (pc := 58) C C2 dX8_target_58 rfl (Nat.le_refl _) (Nat.le_refl _) ?_
      clear C C2
      refine ⟨?_, rfl, rfl, rfl⟩
      unfold bl_target bl_held
      rw [md_0, md_4]
      grind

set_option maxHeartbeats 4000000 in
set_option maxRecDepth 100000 in
theorem c_X8_leaks {d : Nat} {I : pm_I} {J : pm_J} {a : Nat} (hat : I 102 6 = nI a) (ha : a ≤ 43) {b : Nat} (hb : b < 6) {t : Nat} (ht : I 106 a = nI t) (ht2 : t < 200)  : pm_M (d + 1) 0 0 yX8_leaks cX8_leaks 2 (some .int) [.ref 102, .int (nI b)] SHP I J (pm_D (some (.int (bl_leaks (md I a b) (nI (t % 24))))) SHP I J) := by
  refine pm_start (own := RX8) (nm := "leaks") (by decide) rfl rfl (L := [(0, .ref 102), (1, .int (nI b))]) rfl (Nat.le_of_ble_eq_true rfl) (fun Γ C C2 => ?_)
  refine g_aload_n (pc := 0) (i := 0) (j := 0) C dX8_leaks_0 rfl rfl ?_
  refine g_getR (pc := 1) C dX8_leaks_1 lfX8_17 (by first | rfl | assumption) rfl ?_
  refine g_iload_n (pc := 4) (i := 1) (j := 1) C dX8_leaks_4 rfl rfl ?_
  refine g_iald (pc := 5) C dX8_leaks_5 (by first | rfl | assumption) (by decide) (by first | rfl | assumption) (by first | assumption | decide | omega) ?_
  refine g_iconst (pc := 6) (v := 2) C dX8_leaks_6 (by decide) ?_
  refine g_icmp_ne (pc := 7) (tgt := 14) C dX8_leaks_7 (by decide) (fun h7 => ?_) (fun h7 => ?_)
  · refine g_aload_n (pc := 14) (i := 0) (j := 0) C dX8_leaks_14 rfl rfl ?_
    refine g_getR (pc := 15) C dX8_leaks_15 lfX8_17 (by first | rfl | assumption) rfl ?_
    refine g_iload_n (pc := 18) (i := 1) (j := 1) C dX8_leaks_18 rfl rfl ?_
    refine g_iald (pc := 19) C dX8_leaks_19 (by first | rfl | assumption) (by decide) (by first | rfl | assumption) (by first | assumption | decide | omega) ?_
    refine g_iconst (pc := 20) (v := 3) C dX8_leaks_20 (by decide) ?_
    refine g_icmp_ne (pc := 21) (tgt := 37) C dX8_leaks_21 (by decide) (fun h21 => ?_) (fun h21 => ?_)
    · refine g_iconst (pc := 37) (v := 0) C dX8_leaks_37 (by decide) ?_
      refine g_iret (pc := 38) C C2 dX8_leaks_38 rfl (Nat.le_refl _) (Nat.le_refl _) ?_
      clear C C2
      refine ⟨?_, rfl, rfl, rfl⟩
      unfold bl_leaks
      rw [md_0]
      grind
    · refine g_aload_n (pc := 24) (i := 0) (j := 0) C dX8_leaks_24 rfl rfl ?_
      refine g_callV (pc := 25) C dX8_leaks_25 lmX8_222 kcX8_hourNow (by decide) (by first | rfl | assumption) (c_X8_hourNow hat ha ht ht2) rfl rfl (Nat.le_of_ble_eq_true rfl) ?_
      intro r9 sh9 I9 J9 hD9; obtain ⟨rfl, rfl, rfl, rfl⟩ := pm_Dq hD9; clear hD9
      try simp only [Option.toList_some, Option.toList_none, List.cons_append, List.nil_append]
      refine g_iconst (pc := 28) (v := 2) C dX8_leaks_28 (by decide) ?_
      refine g_irem (pc := 29) C dX8_leaks_29 (by first | decide | assumption) ?_
      refine g_if_ne (pc := 30) (tgt := 37) C dX8_leaks_30 (by decide) (fun h30 => ?_) (fun h30 => ?_)
      · refine g_iconst (pc := 37) (v := 0) C dX8_leaks_37 (by decide) ?_
        refine g_iret (pc := 38) C C2 dX8_leaks_38 rfl (Nat.le_refl _) (Nat.le_refl _) ?_
        clear C C2
        refine ⟨?_, rfl, rfl, rfl⟩
        unfold bl_leaks
        rw [md_0]
        grind
      · refine g_iconst (pc := 33) (v := 1) C dX8_leaks_33 (by decide) ?_
        refine g_goto (pc := 34) (tgt := 38) C dX8_leaks_34 (by decide) ?_
        refine g_iret (pc := 38) C C2 dX8_leaks_38 rfl (Nat.le_refl _) (Nat.le_refl _) ?_
        clear C C2
        refine ⟨?_, rfl, rfl, rfl⟩
        unfold bl_leaks
        rw [md_0]
        grind
  · refine g_iconst (pc := 10) (v := 2) C dX8_leaks_10 (by decide) ?_
    refine g_goto (pc := 11) (tgt := 38) C dX8_leaks_11 (by decide) ?_
    refine g_iret (pc := 38) C C2 dX8_leaks_38 rfl (Nat.le_refl _) (Nat.le_refl _) ?_
    clear C C2
    refine ⟨?_, rfl, rfl, rfl⟩
    unfold bl_leaks
    rw [md_0]
    grind

set_option maxHeartbeats 4000000 in
set_option maxRecDepth 100000 in
theorem c_X8_isOver {d : Nat} {I : pm_I} {J : pm_J} {a : Nat} (hat : I 102 6 = nI a) (ha : a ≤ 43) {i j : Nat} (hi : i < 6) (hj : j < 6)  : pm_M (d + 1) 0 0 yX8_isOver cX8_isOver 5 (some .boolean) [.ref 102, .int (nI i), .int (nI j)] SHP I J (pm_D (some (.int (pm_b (bl_over (md I a) i j)))) SHP I J) := by
  refine pm_start (own := RX8) (nm := "isOver") (by decide) rfl rfl (L := [(0, .ref 102), (1, .int (nI i)), (2, .int (nI j))]) rfl (Nat.le_of_ble_eq_true rfl) (fun Γ C C2 => ?_)
  refine g_aload_n (pc := 0) (i := 0) (j := 0) C dX8_isOver_0 rfl rfl ?_
  refine g_iload_n (pc := 1) (i := 1) (j := 1) C dX8_isOver_1 rfl rfl ?_
  refine g_iconst (pc := 2) (v := 2) C dX8_isOver_2 (by decide) ?_
  refine g_callV (pc := 3) C dX8_isOver_3 lmX8_219 kcX8_its (by decide) (by first | rfl | assumption) (c_X8_its (p := 2) hat ha hi (by decide)) rfl rfl (Nat.le_of_ble_eq_true rfl) ?_
  intro r9 sh9 I9 J9 hD9; obtain ⟨rfl, rfl, rfl, rfl⟩ := pm_Dq hD9; clear hD9
  try simp only [Option.toList_some, Option.toList_none, List.cons_append, List.nil_append]
  refine g_istore_n (pc := 6) (i := 3) (L2 := [(0, _), (1, _), (2, _), (3, _)]) C dX8_isOver_6 rfl (by decide) rfl ?_
  refine g_aload_n (pc := 7) (i := 0) (j := 0) C dX8_isOver_7 rfl rfl ?_
  refine g_iload_n (pc := 8) (i := 2) (j := 2) C dX8_isOver_8 rfl rfl ?_
  refine g_iconst (pc := 9) (v := 2) C dX8_isOver_9 (by decide) ?_
  refine g_callV (pc := 10) C dX8_isOver_10 lmX8_219 kcX8_its (by decide) (by first | rfl | assumption) (c_X8_its (p := 2) hat ha hj (by decide)) rfl rfl (Nat.le_of_ble_eq_true rfl) ?_
  intro r9 sh9 I9 J9 hD9; obtain ⟨rfl, rfl, rfl, rfl⟩ := pm_Dq hD9; clear hD9
  try simp only [Option.toList_some, Option.toList_none, List.cons_append, List.nil_append]
  refine g_istore (pc := 13) (L2 := [(0, _), (1, _), (2, _), (3, _), (4, _)]) C dX8_isOver_13 (by decide) rfl ?_
  refine g_iload_n (pc := 15) (i := 3) (j := 3) C dX8_isOver_15 rfl rfl ?_
  refine g_iload (pc := 16) (j := 4) C dX8_isOver_16 rfl ?_
  refine g_icmp_gt (pc := 18) (tgt := 32) C dX8_isOver_18 (by decide) (fun h18 => ?_) (fun h18 => ?_)
  · refine g_iconst (pc := 32) (v := 1) C dX8_isOver_32 (by decide) ?_
    refine g_goto (pc := 33) (tgt := 37) C dX8_isOver_33 (by decide) ?_
    refine g_iret (pc := 37) C C2 dX8_isOver_37 (by first | rfl | exact pm_nz) (Nat.le_refl _) (Nat.le_refl _) ?_
    clear C C2
    have e0 := nI_leI (a := i) (b := j) (by omega) (by omega)
    refine ⟨?_, rfl, rfl, rfl⟩
    unfold bl_over
    rw [md_3, md_3]
    grind [pm_b]
  · refine g_iload_n (pc := 21) (i := 3) (j := 3) C dX8_isOver_21 rfl rfl ?_
    refine g_iload (pc := 22) (j := 4) C dX8_isOver_22 rfl ?_
    refine g_icmp_ne (pc := 24) (tgt := 36) C dX8_isOver_24 (by decide) (fun h24 => ?_) (fun h24 => ?_)
    · refine g_iconst (pc := 36) (v := 0) C dX8_isOver_36 (by decide) ?_
      refine g_iret (pc := 37) C C2 dX8_isOver_37 (by first | rfl | exact pm_nz) (Nat.le_refl _) (Nat.le_refl _) ?_
      clear C C2
      have e0 := nI_leI (a := i) (b := j) (by omega) (by omega)
      refine ⟨?_, rfl, rfl, rfl⟩
      unfold bl_over
      rw [md_3, md_3]
      grind [pm_b]
    · refine g_iload_n (pc := 27) (i := 1) (j := 1) C dX8_isOver_27 rfl rfl ?_
      refine g_iload_n (pc := 28) (i := 2) (j := 2) C dX8_isOver_28 rfl rfl ?_
      refine g_icmp_le (pc := 29) (tgt := 36) C dX8_isOver_29 (by decide) (fun h29 => ?_) (fun h29 => ?_)
      · refine g_iconst (pc := 36) (v := 0) C dX8_isOver_36 (by decide) ?_
        refine g_iret (pc := 37) C C2 dX8_isOver_37 (by first | rfl | exact pm_nz) (Nat.le_refl _) (Nat.le_refl _) ?_
        clear C C2
        have e0 := nI_leI (a := i) (b := j) (by omega) (by omega)
        refine ⟨?_, rfl, rfl, rfl⟩
        unfold bl_over
        rw [md_3, md_3]
        grind [pm_b]
      · refine g_iconst (pc := 32) (v := 1) C dX8_isOver_32 (by decide) ?_
        refine g_goto (pc := 33) (tgt := 37) C dX8_isOver_33 (by decide) ?_
        refine g_iret (pc := 37) C C2 dX8_isOver_37 (by first | rfl | exact pm_nz) (Nat.le_refl _) (Nat.le_refl _) ?_
        clear C C2
        have e0 := nI_leI (a := i) (b := j) (by omega) (by omega)
        refine ⟨?_, rfl, rfl, rfl⟩
        unfold bl_over
        rw [md_3, md_3]
        grind [pm_b]

set_option maxHeartbeats 4000000 in
set_option maxRecDepth 100000 in
theorem c_X8_apart {d : Nat} {I : pm_I} {J : pm_J} {a : Nat} (hat : I 102 6 = nI a) (ha : a ≤ 43) {i j : Nat} (hi : i < 6) (hj : j < 6)  : pm_M (d + 1) 0 0 yX8_apart cX8_apart 4 (some .int) [.ref 102, .int (nI i), .int (nI j)] SHP I J (pm_D (some (.int (bl_abs (md I a i 3 - md I a j 3)))) SHP I J) := by
  refine pm_start (own := RX8) (nm := "apart") (by decide) rfl rfl (L := [(0, .ref 102), (1, .int (nI i)), (2, .int (nI j))]) rfl (Nat.le_of_ble_eq_true rfl) (fun Γ C C2 => ?_)
  refine g_aload_n (pc := 0) (i := 0) (j := 0) C dX8_apart_0 rfl rfl ?_
  refine g_iload_n (pc := 1) (i := 1) (j := 1) C dX8_apart_1 rfl rfl ?_
  refine g_iconst (pc := 2) (v := 2) C dX8_apart_2 (by decide) ?_
  refine g_callV (pc := 3) C dX8_apart_3 lmX8_219 kcX8_its (by decide) (by first | rfl | assumption) (c_X8_its (p := 2) hat ha hi (by decide)) rfl rfl (Nat.le_of_ble_eq_true rfl) ?_
  intro r9 sh9 I9 J9 hD9; obtain ⟨rfl, rfl, rfl, rfl⟩ := pm_Dq hD9; clear hD9
  try simp only [Option.toList_some, Option.toList_none, List.cons_append, List.nil_append]
  refine g_aload_n (pc := 6) (i := 0) (j := 0) C dX8_apart_6 rfl rfl ?_
  refine g_iload_n (pc := 7) (i := 2) (j := 2) C dX8_apart_7 rfl rfl ?_
  refine g_iconst (pc := 8) (v := 2) C dX8_apart_8 (by decide) ?_
  refine g_callV (pc := 9) C dX8_apart_9 lmX8_219 kcX8_its (by decide) (by first | rfl | assumption) (c_X8_its (p := 2) hat ha hj (by decide)) rfl rfl (Nat.le_of_ble_eq_true rfl) ?_
  intro r9 sh9 I9 J9 hD9; obtain ⟨rfl, rfl, rfl, rfl⟩ := pm_Dq hD9; clear hD9
  try simp only [Option.toList_some, Option.toList_none, List.cons_append, List.nil_append]
  refine g_isub (pc := 12) C dX8_apart_12 ?_
  refine g_istore_n (pc := 13) (i := 3) (L2 := [(0, _), (1, _), (2, _), (3, _)]) C dX8_apart_13 rfl (by decide) rfl ?_
  refine g_iload_n (pc := 14) (i := 3) (j := 3) C dX8_apart_14 rfl rfl ?_
  refine g_if_ge (pc := 15) (tgt := 24) C dX8_apart_15 (by decide) (fun h15 => ?_) (fun h15 => ?_)
  · refine g_iload_n (pc := 24) (i := 3) (j := 3) C dX8_apart_24 rfl rfl ?_
    refine g_iret (pc := 25) C C2 dX8_apart_25 rfl (Nat.le_refl _) (Nat.le_refl _) ?_
    clear C C2
    refine ⟨?_, rfl, rfl, rfl⟩
    unfold bl_abs
    rw [md_3, md_3]
    grind
  · refine g_iconst (pc := 18) (v := 0) C dX8_apart_18 (by decide) ?_
    refine g_iload_n (pc := 19) (i := 3) (j := 3) C dX8_apart_19 rfl rfl ?_
    refine g_isub (pc := 20) C dX8_apart_20 ?_
    refine g_goto (pc := 21) (tgt := 25) C dX8_apart_21 (by decide) ?_
    refine g_iret (pc := 25) C C2 dX8_apart_25 rfl (Nat.le_refl _) (Nat.le_refl _) ?_
    clear C C2
    refine ⟨?_, rfl, rfl, rfl⟩
    unfold bl_abs
    rw [md_3, md_3]
    grind

set_option maxHeartbeats 4000000 in
set_option maxRecDepth 100000 in
theorem c_X8_isTouch {d : Nat} {I : pm_I} {J : pm_J} {a : Nat} (hat : I 102 6 = nI a) (ha : a ≤ 43) {i j : Nat} (hi : i < 6) (hj : j < 6)  : pm_M (d + 2) 0 0 yX8_isTouch cX8_isTouch 3 (some .boolean) [.ref 102, .int (nI i), .int (nI j)] SHP I J (pm_D (some (.int (pm_b (i ≠ j ∧ bl_touch (md I a i) (md I a j) (I 102 1))))) SHP I J) := by
  refine pm_start (own := RX8) (nm := "isTouch") (by decide) rfl rfl (L := [(0, .ref 102), (1, .int (nI i)), (2, .int (nI j))]) rfl (Nat.le_of_ble_eq_true rfl) (fun Γ C C2 => ?_)
  refine g_iload_n (pc := 0) (i := 1) (j := 1) C dX8_isTouch_0 rfl rfl ?_
  refine g_iload_n (pc := 1) (i := 2) (j := 2) C dX8_isTouch_1 rfl rfl ?_
  refine g_icmp_eq (pc := 2) (tgt := 55) C dX8_isTouch_2 (by decide) (fun h2 => ?_) (fun h2 => ?_)
  · refine g_iconst (pc := 55) (v := 0) C dX8_isTouch_55 (by decide) ?_
    refine g_iret (pc := 56) C C2 dX8_isTouch_56 (by first | rfl | exact pm_nz) (Nat.le_refl _) (Nat.le_refl _) ?_
    clear C C2
    have e0 := nI_eq (a := i) (b := j) (by omega) (by omega)
    refine ⟨?_, rfl, rfl, rfl⟩
    unfold bl_touch bl_near
    simp only [md_2, md_3] at *
    grind [pm_b]
  · refine g_aload_n (pc := 5) (i := 0) (j := 0) C dX8_isTouch_5 rfl rfl ?_
    refine g_iload_n (pc := 6) (i := 1) (j := 1) C dX8_isTouch_6 rfl rfl ?_
    refine g_iconst (pc := 7) (v := 1) C dX8_isTouch_7 (by decide) ?_
    refine g_callV (pc := 8) C dX8_isTouch_8 lmX8_219 kcX8_its (by decide) (by first | rfl | assumption) (c_X8_its (p := 1) hat ha hi (by decide)) rfl rfl (Nat.le_of_ble_eq_true rfl) ?_
    intro r9 sh9 I9 J9 hD9; obtain ⟨rfl, rfl, rfl, rfl⟩ := pm_Dq hD9; clear hD9
    try simp only [Option.toList_some, Option.toList_none, List.cons_append, List.nil_append]
    refine g_aload_n (pc := 11) (i := 0) (j := 0) C dX8_isTouch_11 rfl rfl ?_
    refine g_iload_n (pc := 12) (i := 2) (j := 2) C dX8_isTouch_12 rfl rfl ?_
    refine g_iconst (pc := 13) (v := 1) C dX8_isTouch_13 (by decide) ?_
    refine g_callV (pc := 14) C dX8_isTouch_14 lmX8_219 kcX8_its (by decide) (by first | rfl | assumption) (c_X8_its (p := 1) hat ha hj (by decide)) rfl rfl (Nat.le_of_ble_eq_true rfl) ?_
    intro r9 sh9 I9 J9 hD9; obtain ⟨rfl, rfl, rfl, rfl⟩ := pm_Dq hD9; clear hD9
    try simp only [Option.toList_some, Option.toList_none, List.cons_append, List.nil_append]
    refine g_icmp_ne (pc := 17) (tgt := 55) C dX8_isTouch_17 (by decide) (fun h17 => ?_) (fun h17 => ?_)
    · refine g_iconst (pc := 55) (v := 0) C dX8_isTouch_55 (by decide) ?_
      refine g_iret (pc := 56) C C2 dX8_isTouch_56 (by first | rfl | exact pm_nz) (Nat.le_refl _) (Nat.le_refl _) ?_
      clear C C2
      have e0 := nI_eq (a := i) (b := j) (by omega) (by omega)
      refine ⟨?_, rfl, rfl, rfl⟩
      unfold bl_touch bl_near
      simp only [md_2, md_3] at *
      grind [pm_b]
    · refine g_aload_n (pc := 20) (i := 0) (j := 0) C dX8_isTouch_20 rfl rfl ?_
      refine g_iload_n (pc := 21) (i := 1) (j := 1) C dX8_isTouch_21 rfl rfl ?_
      refine g_iconst (pc := 22) (v := 2) C dX8_isTouch_22 (by decide) ?_
      refine g_callV (pc := 23) C dX8_isTouch_23 lmX8_219 kcX8_its (by decide) (by first | rfl | assumption) (c_X8_its (p := 2) hat ha hi (by decide)) rfl rfl (Nat.le_of_ble_eq_true rfl) ?_
      intro r9 sh9 I9 J9 hD9; obtain ⟨rfl, rfl, rfl, rfl⟩ := pm_Dq hD9; clear hD9
      try simp only [Option.toList_some, Option.toList_none, List.cons_append, List.nil_append]
      refine g_if_le (pc := 26) (tgt := 55) C dX8_isTouch_26 (by decide) (fun h26 => ?_) (fun h26 => ?_)
      · refine g_iconst (pc := 55) (v := 0) C dX8_isTouch_55 (by decide) ?_
        refine g_iret (pc := 56) C C2 dX8_isTouch_56 (by first | rfl | exact pm_nz) (Nat.le_refl _) (Nat.le_refl _) ?_
        clear C C2
        have e0 := nI_eq (a := i) (b := j) (by omega) (by omega)
        refine ⟨?_, rfl, rfl, rfl⟩
        unfold bl_touch bl_near
        simp only [md_2, md_3] at *
        grind [pm_b]
      · refine g_aload_n (pc := 29) (i := 0) (j := 0) C dX8_isTouch_29 rfl rfl ?_
        refine g_iload_n (pc := 30) (i := 2) (j := 2) C dX8_isTouch_30 rfl rfl ?_
        refine g_iconst (pc := 31) (v := 2) C dX8_isTouch_31 (by decide) ?_
        refine g_callV (pc := 32) C dX8_isTouch_32 lmX8_219 kcX8_its (by decide) (by first | rfl | assumption) (c_X8_its (p := 2) hat ha hj (by decide)) rfl rfl (Nat.le_of_ble_eq_true rfl) ?_
        intro r9 sh9 I9 J9 hD9; obtain ⟨rfl, rfl, rfl, rfl⟩ := pm_Dq hD9; clear hD9
        try simp only [Option.toList_some, Option.toList_none, List.cons_append, List.nil_append]
        refine g_if_le (pc := 35) (tgt := 55) C dX8_isTouch_35 (by decide) (fun h35 => ?_) (fun h35 => ?_)
        · refine g_iconst (pc := 55) (v := 0) C dX8_isTouch_55 (by decide) ?_
          refine g_iret (pc := 56) C C2 dX8_isTouch_56 (by first | rfl | exact pm_nz) (Nat.le_refl _) (Nat.le_refl _) ?_
          clear C C2
          have e0 := nI_eq (a := i) (b := j) (by omega) (by omega)
          refine ⟨?_, rfl, rfl, rfl⟩
          unfold bl_touch bl_near
          simp only [md_2, md_3] at *
          grind [pm_b]
        · refine g_aload_n (pc := 38) (i := 0) (j := 0) C dX8_isTouch_38 rfl rfl ?_
          refine g_iload_n (pc := 39) (i := 1) (j := 1) C dX8_isTouch_39 rfl rfl ?_
          refine g_iload_n (pc := 40) (i := 2) (j := 2) C dX8_isTouch_40 rfl rfl ?_
          refine g_callV (pc := 41) C dX8_isTouch_41 lmX8_253 kcX8_apart (by decide) (by first | rfl | assumption) (c_X8_apart hat ha hi hj) rfl rfl (Nat.le_of_ble_eq_true rfl) ?_
          intro r9 sh9 I9 J9 hD9; obtain ⟨rfl, rfl, rfl, rfl⟩ := pm_Dq hD9; clear hD9
          try simp only [Option.toList_some, Option.toList_none, List.cons_append, List.nil_append]
          refine g_aload_n (pc := 44) (i := 0) (j := 0) C dX8_isTouch_44 rfl rfl ?_
          refine g_getI (pc := 45) C dX8_isTouch_45 lfX8_13 (by first | rfl | assumption) rfl ?_
          refine g_icmp_ge (pc := 48) (tgt := 55) C dX8_isTouch_48 (by decide) (fun h48 => ?_) (fun h48 => ?_)
          · refine g_iconst (pc := 55) (v := 0) C dX8_isTouch_55 (by decide) ?_
            refine g_iret (pc := 56) C C2 dX8_isTouch_56 (by first | rfl | exact pm_nz) (Nat.le_refl _) (Nat.le_refl _) ?_
            clear C C2
            have e0 := nI_eq (a := i) (b := j) (by omega) (by omega)
            refine ⟨?_, rfl, rfl, rfl⟩
            unfold bl_touch bl_near
            simp only [md_2, md_3] at *
            grind [pm_b]
          · refine g_iconst (pc := 51) (v := 1) C dX8_isTouch_51 (by decide) ?_
            refine g_goto (pc := 52) (tgt := 56) C dX8_isTouch_52 (by decide) ?_
            refine g_iret (pc := 56) C C2 dX8_isTouch_56 (by first | rfl | exact pm_nz) (Nat.le_refl _) (Nat.le_refl _) ?_
            clear C C2
            have e0 := nI_eq (a := i) (b := j) (by omega) (by omega)
            refine ⟨?_, rfl, rfl, rfl⟩
            unfold bl_touch bl_near
            simp only [md_2, md_3] at *
            grind [pm_b]

set_option maxHeartbeats 4000000 in
set_option maxRecDepth 100000 in
theorem c_X8_touchSet {d : Nat} {I : pm_I} {J : pm_J} {a : Nat} (hat : I 102 6 = nI a) (ha : a ≤ 43) {n : Nat} (hn : I 102 2 = nI n) (h6 : n ≤ 6) {i : Nat} (hi : i < 6) : pm_M (d + 3) 0 0 yX8_touchSet cX8_touchSet 4 (some .int) [.ref 102, .int (nI i)] SHP I J (pm_D (some (.int (bl_tset (md I a) (I 102 1) i n))) SHP I J) := by
  refine pm_start (own := RX8) (nm := "touchSet") (by decide) rfl rfl (L := [(0, .ref 102), (1, .int (nI i))]) rfl (Nat.le_of_ble_eq_true rfl) (fun Γ C C2 => ?_)
  have hloop : ∀ j, j ≤ n → pm_G Γ 0 0 4 [(0, .ref 102), (1, .int (nI i)), (2, .int (bl_tset (md I a) (I 102 1) i j)), (3, .int (nI j))] [] SHP I J := by
    refine pm_up (fun j => pm_G Γ 0 0 4 [(0, .ref 102), (1, .int (nI i)), (2, .int (bl_tset (md I a) (I 102 1) i j)), (3, .int (nI j))] [] SHP I J) n (fun j hj ih => ?_)
    refine g_iload_n (pc := 4) (i := 3) (j := 3) C dX8_touchSet_4 rfl rfl ?_
    refine g_aload_n (pc := 5) (i := 0) (j := 0) C dX8_touchSet_5 rfl rfl ?_
    refine g_getI (pc := 6) C dX8_touchSet_6 lfX8_82 (by first | rfl | assumption) rfl ?_
    refine g_icmp_ge (pc := 9) (tgt := 37) C dX8_touchSet_9 (by decide) (fun h9 => ?_) (fun h9 => ?_)
    · have ej : j = n := by (try rw [hn] at h9); have := (nI_leI (a := n) (b := j) (by omega) (by omega)).mp h9; omega
      subst ej
      refine g_iload_n (pc := 37) (i := 2) (j := 2) C dX8_touchSet_37 rfl rfl ?_
      refine g_iret (pc := 38) C C2 dX8_touchSet_38 rfl (Nat.le_refl _) (Nat.le_refl _) ?_
      exact ⟨rfl, rfl, rfl, rfl⟩
    · have hlt : j < n := by (try rw [hn] at h9); exact Nat.lt_of_not_le (fun q => h9 ((nI_leI (a := n) (b := j) (by omega) (by omega)).mpr q))
      have hj6 : j < 6 := by omega
      refine g_iload_n (pc := 12) (i := 2) (j := 2) C dX8_touchSet_12 rfl rfl ?_
      refine g_aload_n (pc := 13) (i := 0) (j := 0) C dX8_touchSet_13 rfl rfl ?_
      refine g_iload_n (pc := 14) (i := 1) (j := 1) C dX8_touchSet_14 rfl rfl ?_
      refine g_iload_n (pc := 15) (i := 3) (j := 3) C dX8_touchSet_15 rfl rfl ?_
      refine g_callV (pc := 16) C dX8_touchSet_16 lmX8_267 kcX8_isTouch (by decide) (by first | rfl | assumption) (c_X8_isTouch hat ha hi hj6) rfl rfl (Nat.le_of_ble_eq_true rfl) ?_
      intro r9 sh9 I9 J9 hD9; obtain ⟨rfl, rfl, rfl, rfl⟩ := pm_Dq hD9; clear hD9
      try simp only [Option.toList_some, Option.toList_none, List.cons_append, List.nil_append]
      refine g_if_eqB (pc := 19) (tgt := 28) C dX8_touchSet_19 (by decide) (fun h19 => ?_) (fun h19 => ?_)
      · refine g_iconst (pc := 28) (v := 0) C dX8_touchSet_28 (by decide) ?_
        refine g_ior (pc := 29) C dX8_touchSet_29 ?_
        refine g_istore_n (pc := 30) (i := 2) (L2 := [(0, _), (1, _), (2, _), (3, _)]) C dX8_touchSet_30 rfl (by decide) rfl ?_
        refine g_iinc (pc := 31) (j := 3) (v := _ + 1) (L2 := [(0, _), (1, _), (2, _), (3, _)]) C dX8_touchSet_31 rfl rfl (by decide) rfl ?_
        refine g_goto (pc := 34) (tgt := 4) C dX8_touchSet_34 (by decide) ?_
        refine pm_Geq (ih hlt) ?_ rfl rfl rfl
        simp only [bl_tset, nI_1]
        first | rw [if_pos h19] | (rw [if_neg h19, Int32.or_zero])
      · refine g_iconst (pc := 22) (v := 1) C dX8_touchSet_22 (by decide) ?_
        refine g_iload_n (pc := 23) (i := 3) (j := 3) C dX8_touchSet_23 rfl rfl ?_
        refine g_ishl (pc := 24) C dX8_touchSet_24 ?_
        refine g_goto (pc := 25) (tgt := 29) C dX8_touchSet_25 (by decide) ?_
        refine g_ior (pc := 29) C dX8_touchSet_29 ?_
        refine g_istore_n (pc := 30) (i := 2) (L2 := [(0, _), (1, _), (2, _), (3, _)]) C dX8_touchSet_30 rfl (by decide) rfl ?_
        refine g_iinc (pc := 31) (j := 3) (v := _ + 1) (L2 := [(0, _), (1, _), (2, _), (3, _)]) C dX8_touchSet_31 rfl rfl (by decide) rfl ?_
        refine g_goto (pc := 34) (tgt := 4) C dX8_touchSet_34 (by decide) ?_
        refine pm_Geq (ih hlt) ?_ rfl rfl rfl
        simp only [bl_tset, nI_1]
        first | rw [if_pos h19] | (rw [if_neg h19, Int32.or_zero])
  refine g_iconst (pc := 0) (v := 0) C dX8_touchSet_0 (by decide) ?_
  refine g_istore_n (pc := 1) (i := 2) (L2 := [(0, _), (1, _), (2, _)]) C dX8_touchSet_1 rfl (by decide) rfl ?_
  refine g_iconst (pc := 2) (v := 0) C dX8_touchSet_2 (by decide) ?_
  refine g_istore_n (pc := 3) (i := 3) (L2 := [(0, _), (1, _), (2, _), (3, _)]) C dX8_touchSet_3 rfl (by decide) rfl ?_
  refine pm_Geq (hloop 0 (Nat.zero_le _)) ?_ rfl ?_ ?_ <;> first | rfl | grind

set_option maxHeartbeats 4000000 in
set_option maxRecDepth 100000 in
theorem c_X8_ones {d : Nat} {s : Nat} (hs : s < 64) {I : pm_I} {J : pm_J} : pm_M (d + 1) 0 0 yX8_ones cX8_ones 3 (some .int) [.int (nI s)] SHP I J (pm_D (some (.int (nI (mo_pop s)))) SHP I J) := by
  refine pm_start (own := RX8) (nm := "ones") (by decide) rfl rfl (L := [(0, .int (nI s))]) rfl (Nat.le_of_ble_eq_true rfl) (fun Γ C C2 => ?_)
  have hloop : ∀ r, ∀ q c, q ≤ r → q < 64 → c + mo_pop q = mo_pop s → pm_G Γ 0 0 4 [(0, .int (nI s)), (1, .int (nI c)), (2, .int (nI q))] [] SHP I J := by
    intro r
    induction r with
    | zero =>
      intro q c hq h64 hc
      refine g_iload_n (pc := 4) (i := 2) (j := 2) C dX8_ones_4 rfl rfl ?_
      refine g_if_eq (pc := 5) (tgt := 20) C dX8_ones_5 (by decide) (fun h5 => ?_) (fun h5 => ?_)
      · refine g_iload_n (pc := 20) (i := 1) (j := 1) C dX8_ones_20 rfl rfl ?_
        refine g_iret (pc := 21) C C2 dX8_ones_21 rfl (Nat.le_refl _) (Nat.le_refl _) ?_
        refine ⟨?_, rfl, rfl, rfl⟩
        have e0 : q = 0 := (nI_eq (b := 0) (by omega) (by decide)).mp h5
        subst e0
        rw [← hc]
        rfl
      · exact absurd (show nI q = 0 by rw [show q = 0 by omega]; rfl) h5
    | succ r ih =>
      intro q c hq h64 hc
      refine g_iload_n (pc := 4) (i := 2) (j := 2) C dX8_ones_4 rfl rfl ?_
      refine g_if_eq (pc := 5) (tgt := 20) C dX8_ones_5 (by decide) (fun h5 => ?_) (fun h5 => ?_)
      · refine g_iload_n (pc := 20) (i := 1) (j := 1) C dX8_ones_20 rfl rfl ?_
        refine g_iret (pc := 21) C C2 dX8_ones_21 rfl (Nat.le_refl _) (Nat.le_refl _) ?_
        refine ⟨?_, rfl, rfl, rfl⟩
        have e0 : q = 0 := (nI_eq (b := 0) (by omega) (by decide)).mp h5
        subst e0
        rw [← hc]
        rfl
      · refine g_iinc (pc := 8) (j := 1) (v := _ + 1) (L2 := [(0, _), (1, _), (2, _)]) C dX8_ones_8 rfl rfl (by decide) rfl ?_
        refine g_iload_n (pc := 11) (i := 2) (j := 2) C dX8_ones_11 rfl rfl ?_
        refine g_iload_n (pc := 12) (i := 2) (j := 2) C dX8_ones_12 rfl rfl ?_
        refine g_iconst (pc := 13) (v := 1) C dX8_ones_13 (by decide) ?_
        refine g_isub (pc := 14) C dX8_ones_14 ?_
        refine g_iand (pc := 15) C dX8_ones_15 ?_
        refine g_istore_n (pc := 16) (i := 2) (L2 := [(0, _), (1, _), (2, _)]) C dX8_ones_16 rfl (by decide) rfl ?_
        refine g_goto (pc := 17) (tgt := 4) C dX8_ones_17 (by decide) ?_
        have hq0 : 0 < q := Nat.pos_of_ne_zero (fun z => h5 (by rw [z]; rfl))
        obtain ⟨m1, m2, m3⟩ := mo_pop_step q h64 hq0
        refine pm_Geq (ih (q &&& (q - 1)) (c + 1) (by omega) (by omega) (by omega)) ?_ rfl rfl rfl
        simp only [nI_1, m3]
  refine g_iconst (pc := 0) (v := 0) C dX8_ones_0 (by decide) ?_
  refine g_istore_n (pc := 1) (i := 1) (L2 := [(0, _), (1, _)]) C dX8_ones_1 rfl (by decide) rfl ?_
  refine g_iload_n (pc := 2) (i := 0) (j := 0) C dX8_ones_2 rfl rfl ?_
  refine g_istore_n (pc := 3) (i := 2) (L2 := [(0, _), (1, _), (2, _)]) C dX8_ones_3 rfl (by decide) rfl ?_
  exact hloop s s 0 (Nat.le_refl _) hs (Nat.zero_add _)

set_option maxHeartbeats 4000000 in
set_option maxRecDepth 100000 in
theorem c_X8_pairs {d : Nat} {I : pm_I} {J : pm_J} {a : Nat} (hat : I 102 6 = nI a) (ha : a ≤ 43) {n : Nat} (hn : I 102 2 = nI n) (h6 : n ≤ 6)  : pm_M (d + 4) 0 0 yX8_pairs cX8_pairs 3 (some .int) [.ref 102] SHP I J (pm_D (some (.int (bl_ends (md I a) (I 102 1) n n / 2))) SHP I J) := by
  refine pm_start (own := RX8) (nm := "pairs") (by decide) rfl rfl (L := [(0, .ref 102)]) rfl (Nat.le_of_ble_eq_true rfl) (fun Γ C C2 => ?_)
  have hloop : ∀ j, j ≤ n → pm_G Γ 0 0 4 [(0, .ref 102), (1, .int (bl_ends (md I a) (I 102 1) n j)), (2, .int (nI j))] [] SHP I J := by
    refine pm_up (fun j => pm_G Γ 0 0 4 [(0, .ref 102), (1, .int (bl_ends (md I a) (I 102 1) n j)), (2, .int (nI j))] [] SHP I J) n (fun j hj ih => ?_)
    refine g_iload_n (pc := 4) (i := 2) (j := 2) C dX8_pairs_4 rfl rfl ?_
    refine g_aload_n (pc := 5) (i := 0) (j := 0) C dX8_pairs_5 rfl rfl ?_
    refine g_getI (pc := 6) C dX8_pairs_6 lfX8_82 (by first | rfl | assumption) rfl ?_
    refine g_icmp_ge (pc := 9) (tgt := 29) C dX8_pairs_9 (by decide) (fun h9 => ?_) (fun h9 => ?_)
    · have ej : j = n := by (try rw [hn] at h9); have := (nI_leI (a := n) (b := j) (by omega) (by omega)).mp h9; omega
      subst ej
      refine g_iload_n (pc := 29) (i := 1) (j := 1) C dX8_pairs_29 rfl rfl ?_
      refine g_iconst (pc := 30) (v := 2) C dX8_pairs_30 (by decide) ?_
      refine g_idiv (pc := 31) C dX8_pairs_31 (by first | decide | assumption) ?_
      refine g_iret (pc := 32) C C2 dX8_pairs_32 rfl (Nat.le_refl _) (Nat.le_refl _) ?_
      exact ⟨rfl, rfl, rfl, rfl⟩
    · have hlt : j < n := by (try rw [hn] at h9); exact Nat.lt_of_not_le (fun q => h9 ((nI_leI (a := n) (b := j) (by omega) (by omega)).mpr q))
      refine g_iload_n (pc := 12) (i := 1) (j := 1) C dX8_pairs_12 rfl rfl ?_
      refine g_aload_n (pc := 13) (i := 0) (j := 0) C dX8_pairs_13 rfl rfl ?_
      refine g_iload_n (pc := 14) (i := 2) (j := 2) C dX8_pairs_14 rfl rfl ?_
      refine g_callV (pc := 15) C dX8_pairs_15 lmX8_270 kcX8_touchSet (by decide) (by first | rfl | assumption) (c_X8_touchSet hat ha hn h6 (i := j) (by omega)) rfl rfl (Nat.le_of_ble_eq_true rfl) ?_
      intro r9 sh9 I9 J9 hD9; obtain ⟨rfl, rfl, rfl, rfl⟩ := pm_Dq hD9; clear hD9
      try simp only [Option.toList_some, Option.toList_none, List.cons_append, List.nil_append]
      obtain ⟨s, hs, es⟩ := bl_tset_64 (B := md I a) (gap := I 102 1) (i := j) h6
      rw [es]
      refine g_callS (pc := 18) C dX8_pairs_18 lmX8_273 kcX8_ones (by decide) (c_X8_ones hs) rfl rfl (Nat.le_of_ble_eq_true rfl) ?_
      intro r9 sh9 I9 J9 hD9; obtain ⟨rfl, rfl, rfl, rfl⟩ := pm_Dq hD9; clear hD9
      try simp only [Option.toList_some, Option.toList_none, List.cons_append, List.nil_append]
      refine g_iadd (pc := 21) C dX8_pairs_21 ?_
      refine g_istore_n (pc := 22) (i := 1) (L2 := [(0, _), (1, _), (2, _)]) C dX8_pairs_22 rfl (by decide) rfl ?_
      refine g_iinc (pc := 23) (j := 2) (v := _ + 1) (L2 := [(0, _), (1, _), (2, _)]) C dX8_pairs_23 rfl rfl (by decide) rfl ?_
      refine g_goto (pc := 26) (tgt := 4) C dX8_pairs_26 (by decide) ?_
      refine pm_Geq (ih hlt) ?_ rfl rfl rfl
      simp only [bl_ends, nI_1, es, bl_bc_pop s hs]
  refine g_iconst (pc := 0) (v := 0) C dX8_pairs_0 (by decide) ?_
  refine g_istore_n (pc := 1) (i := 1) (L2 := [(0, _), (1, _)]) C dX8_pairs_1 rfl (by decide) rfl ?_
  refine g_iconst (pc := 2) (v := 0) C dX8_pairs_2 (by decide) ?_
  refine g_istore_n (pc := 3) (i := 2) (L2 := [(0, _), (1, _), (2, _)]) C dX8_pairs_3 rfl (by decide) rfl ?_
  refine pm_Geq (hloop 0 (Nat.zero_le _)) ?_ rfl ?_ ?_ <;> first | rfl | grind

set_option maxHeartbeats 4000000 in
set_option maxRecDepth 100000 in
theorem c_X8_nearer {d : Nat} {v w : Int32} {sh : List pm_S} {I : pm_I} {J : pm_J} : pm_M d 0 0 yX8_nearer cX8_nearer 2 (some .int) [.int v, .int w] sh I J (pm_D (some (.int (mo_near v w))) sh I J) := by
  refine pm_start (own := RX8) (nm := "nearer") (by decide) rfl rfl (L := [(0, .int v), (1, .int w)]) rfl (Nat.le_of_ble_eq_true rfl) (fun Γ C C2 => ?_)
  refine g_iload_n (pc := 0) (i := 0) (j := 0) C dX8_nearer_0 rfl rfl ?_
  refine g_iload_n (pc := 1) (i := 1) (j := 1) C dX8_nearer_1 rfl rfl ?_
  refine g_icmp_ge (pc := 2) (tgt := 24) C dX8_nearer_2 (by decide) (fun h2 => ?_) (fun h2 => ?_)
  · refine g_iload_n (pc := 24) (i := 0) (j := 0) C dX8_nearer_24 rfl rfl ?_
    refine g_bipush (pc := 25) (v := 10) C dX8_nearer_25 (by decide) ?_
    refine g_isub (pc := 27) C dX8_nearer_27 ?_
    refine g_iload_n (pc := 28) (i := 1) (j := 1) C dX8_nearer_28 rfl rfl ?_
    refine g_icmp_le (pc := 29) (tgt := 39) C dX8_nearer_29 (by decide) (fun h29 => ?_) (fun h29 => ?_)
    · refine g_iload_n (pc := 39) (i := 1) (j := 1) C dX8_nearer_39 rfl rfl ?_
      refine g_iret (pc := 40) C C2 dX8_nearer_40 rfl (Nat.le_refl _) (Nat.le_refl _) ?_
      clear C C2
      exact ⟨by grind [mo_near], rfl, rfl, rfl⟩
    · refine g_iload_n (pc := 32) (i := 0) (j := 0) C dX8_nearer_32 rfl rfl ?_
      refine g_bipush (pc := 33) (v := 10) C dX8_nearer_33 (by decide) ?_
      refine g_isub (pc := 35) C dX8_nearer_35 ?_
      refine g_goto (pc := 36) (tgt := 40) C dX8_nearer_36 (by decide) ?_
      refine g_iret (pc := 40) C C2 dX8_nearer_40 rfl (Nat.le_refl _) (Nat.le_refl _) ?_
      clear C C2
      exact ⟨by grind [mo_near], rfl, rfl, rfl⟩
  · refine g_iload_n (pc := 5) (i := 0) (j := 0) C dX8_nearer_5 rfl rfl ?_
    refine g_bipush (pc := 6) (v := 10) C dX8_nearer_6 (by decide) ?_
    refine g_iadd (pc := 8) C dX8_nearer_8 ?_
    refine g_iload_n (pc := 9) (i := 1) (j := 1) C dX8_nearer_9 rfl rfl ?_
    refine g_icmp_ge (pc := 10) (tgt := 20) C dX8_nearer_10 (by decide) (fun h10 => ?_) (fun h10 => ?_)
    · refine g_iload_n (pc := 20) (i := 1) (j := 1) C dX8_nearer_20 rfl rfl ?_
      refine g_goto (pc := 21) (tgt := 40) C dX8_nearer_21 (by decide) ?_
      refine g_iret (pc := 40) C C2 dX8_nearer_40 rfl (Nat.le_refl _) (Nat.le_refl _) ?_
      clear C C2
      exact ⟨by grind [mo_near], rfl, rfl, rfl⟩
    · refine g_iload_n (pc := 13) (i := 0) (j := 0) C dX8_nearer_13 rfl rfl ?_
      refine g_bipush (pc := 14) (v := 10) C dX8_nearer_14 (by decide) ?_
      refine g_iadd (pc := 16) C dX8_nearer_16 ?_
      refine g_goto (pc := 17) (tgt := 40) C dX8_nearer_17 (by decide) ?_
      refine g_iret (pc := 40) C C2 dX8_nearer_40 rfl (Nat.le_refl _) (Nat.le_refl _) ?_
      clear C C2
      exact ⟨by grind [mo_near], rfl, rfl, rfl⟩

set_option maxHeartbeats 4000000 in
set_option maxRecDepth 100000 in
theorem c_X8_nextA {d : Nat} {I : pm_I} {J : pm_J} {a : Nat} (hat : I 102 6 = nI a) (ha : a ≤ 43) {n : Nat} (hn : I 102 2 = nI n) (h6 : n ≤ 6) {i : Nat} (hi : i < 6) : pm_M (d + 2) 0 0 yX8_nextTo cX8_nextTo 6 (some .int) [.ref 102, .int (nI i), .int 1] SHP I J (pm_D (some (.int (bl_enc (bl_nextA (md I a) i n)))) SHP I J) := by
  refine pm_start (own := RX8) (nm := "nextTo") (by decide) rfl rfl (L := [(0, .ref 102), (1, .int (nI i)), (2, .int 1)]) rfl (Nat.le_of_ble_eq_true rfl) (fun Γ C C2 => ?_)
  have hloop : ∀ j, j ≤ n → pm_G Γ 0 0 6 [(0, .ref 102), (1, .int (nI i)), (2, .int 1), (3, .int (bl_enc (bl_nextA (md I a) i j))), (4, .int (nI j))] [] SHP I J := by
    refine pm_up (fun j => pm_G Γ 0 0 6 [(0, .ref 102), (1, .int (nI i)), (2, .int 1), (3, .int (bl_enc (bl_nextA (md I a) i j))), (4, .int (nI j))] [] SHP I J) n (fun j hj ih => ?_)
    refine g_iload (pc := 6) (j := 4) C dX8_nextTo_6 rfl ?_
    refine g_aload_n (pc := 8) (i := 0) (j := 0) C dX8_nextTo_8 rfl rfl ?_
    refine g_getI (pc := 9) C dX8_nextTo_9 lfX8_82 (by first | rfl | assumption) rfl ?_
    refine g_icmp_ge (pc := 12) (tgt := 88) C dX8_nextTo_12 (by decide) (fun h12 => ?_) (fun h12 => ?_)
    · have ej : j = n := by (try rw [hn] at h12); have := (nI_leI (a := n) (b := j) (by omega) (by omega)).mp h12; omega
      subst ej
      refine g_iload_n (pc := 88) (i := 3) (j := 3) C dX8_nextTo_88 rfl rfl ?_
      refine g_iret (pc := 89) C C2 dX8_nextTo_89 rfl (Nat.le_refl _) (Nat.le_refl _) ?_
      exact ⟨rfl, rfl, rfl, rfl⟩
    · have hlt : j < n := by (try rw [hn] at h12); exact Nat.lt_of_not_le (fun q => h12 ((nI_leI (a := n) (b := j) (by omega) (by omega)).mpr q))
      have hj6 : j < 6 := by omega
      refine g_iload (pc := 15) (j := 4) C dX8_nextTo_15 rfl ?_
      refine g_iload_n (pc := 17) (i := 1) (j := 1) C dX8_nextTo_17 rfl rfl ?_
      refine g_icmp_eq (pc := 18) (tgt := 52) C dX8_nextTo_18 (by decide) (fun h18 => ?_) (fun h18 => ?_)
      · refine g_iconst (pc := 52) (v := 0) C dX8_nextTo_52 (by decide) ?_
        refine g_istore (pc := 53) (L2 := [(0, _), (1, _), (2, _), (3, _), (4, _), (5, _)]) C dX8_nextTo_53 (by decide) rfl ?_
        refine g_iload (pc := 55) (j := 5) C dX8_nextTo_55 rfl ?_
        refine g_if_eq (pc := 57) (tgt := 80) C dX8_nextTo_57 (by decide) (fun h57 => ?_) (fun h57 => ?_)
        · refine g_iload_n (pc := 80) (i := 3) (j := 3) C dX8_nextTo_80 rfl rfl ?_
          refine g_istore_n (pc := 81) (i := 3) (L2 := [(0, _), (1, _), (2, _), (3, _), (4, _), (5, _)]) C dX8_nextTo_81 rfl (by decide) rfl ?_
          refine g_iinc (pc := 82) (j := 4) (v := _ + 1) (L2 := [(0, _), (1, _), (2, _), (3, _), (4, _), (5, _)]) C dX8_nextTo_82 rfl rfl (by decide) rfl ?_
          refine g_goto (pc := 85) (tgt := 6) C dX8_nextTo_85 (by decide) ?_
          refine pm_drop (L := [(0, _), (1, _), (2, _), (3, _), (4, _)]) ?_ [0, 1, 2, 3, 4] rfl
          refine pm_Geq (ih hlt) ?_ rfl rfl rfl
          simp only [nI_1, List.cons.injEq, Prod.mk.injEq, Value.int.injEq, and_true, true_and]
          clear C C2 ih
          have e0 := nI_eq (a := j) (b := i) (by omega) (by omega)
          first | replace h34 : md I a j 2 = md I a i 2 := h34 | replace h34 : ¬ (md I a j 2 = md I a i 2) := h34 | skip
          try rw [pm_b_1] at h45
          try rw [pm_b_1] at h72
          clear h12 hat ha hn
          generalize md I a = B at *
          have e2 : i ≠ j → (¬ bl_over B j i ↔ bl_over B i j) := fun q => bl_over_tot (fun z => q z.symm)
          cases ho : bl_nextA B i j with
          | none =>
            rw [bl_nextA_none ho]
            try rw [ho] at h61
            try rw [ho] at em
            clear hj h6 hi hlt hj6
            split <;> first | rfl | (exfalso; grind [bl_enc]) | grind [bl_enc]
          | some m0 =>
            rw [bl_nextA_some ho]
            have e3 := nI_pos (n := m0) (by have := bl_nextA_lt ho; omega)
            have e5 : m0 ≠ j → (¬ bl_over B m0 j ↔ bl_over B j m0) := fun q => bl_over_tot q
            have e6 : m0 ≠ j := by have := bl_nextA_lt ho; omega
            try rw [ho] at h61
            try rw [ho] at em
            clear hj h6 hi hlt hj6
            split <;> first | rfl | (exfalso; grind [bl_enc]) | grind [bl_enc]
        · refine g_iload_n (pc := 60) (i := 3) (j := 3) C dX8_nextTo_60 rfl rfl ?_
          refine g_if_lt (pc := 61) (tgt := 75) C dX8_nextTo_61 (by decide) (fun h61 => ?_) (fun h61 => ?_)
          · refine g_iload (pc := 75) (j := 4) C dX8_nextTo_75 rfl ?_
            refine g_goto (pc := 77) (tgt := 81) C dX8_nextTo_77 (by decide) ?_
            refine g_istore_n (pc := 81) (i := 3) (L2 := [(0, _), (1, _), (2, _), (3, _), (4, _), (5, _)]) C dX8_nextTo_81 rfl (by decide) rfl ?_
            refine g_iinc (pc := 82) (j := 4) (v := _ + 1) (L2 := [(0, _), (1, _), (2, _), (3, _), (4, _), (5, _)]) C dX8_nextTo_82 rfl rfl (by decide) rfl ?_
            refine g_goto (pc := 85) (tgt := 6) C dX8_nextTo_85 (by decide) ?_
            refine pm_drop (L := [(0, _), (1, _), (2, _), (3, _), (4, _)]) ?_ [0, 1, 2, 3, 4] rfl
            refine pm_Geq (ih hlt) ?_ rfl rfl rfl
            simp only [nI_1, List.cons.injEq, Prod.mk.injEq, Value.int.injEq, and_true, true_and]
            clear C C2 ih
            have e0 := nI_eq (a := j) (b := i) (by omega) (by omega)
            first | replace h34 : md I a j 2 = md I a i 2 := h34 | replace h34 : ¬ (md I a j 2 = md I a i 2) := h34 | skip
            try rw [pm_b_1] at h45
            try rw [pm_b_1] at h72
            clear h12 hat ha hn
            generalize md I a = B at *
            have e2 : i ≠ j → (¬ bl_over B j i ↔ bl_over B i j) := fun q => bl_over_tot (fun z => q z.symm)
            cases ho : bl_nextA B i j with
            | none =>
              rw [bl_nextA_none ho]
              try rw [ho] at h61
              try rw [ho] at em
              clear hj h6 hi hlt hj6
              split <;> first | rfl | (exfalso; grind [bl_enc]) | grind [bl_enc]
            | some m0 =>
              rw [bl_nextA_some ho]
              have e3 := nI_pos (n := m0) (by have := bl_nextA_lt ho; omega)
              have e5 : m0 ≠ j → (¬ bl_over B m0 j ↔ bl_over B j m0) := fun q => bl_over_tot q
              have e6 : m0 ≠ j := by have := bl_nextA_lt ho; omega
              try rw [ho] at h61
              try rw [ho] at em
              clear hj h6 hi hlt hj6
              split <;> first | rfl | (exfalso; grind [bl_enc]) | grind [bl_enc]
          · obtain ⟨m, em⟩ := bl_enc_some (fun q => h61 (by rw [q]; decide))
            have hm6 : m < 6 := by have := bl_nextA_lt em; omega
            simp only [em, bl_enc]
            refine g_aload_n (pc := 64) (i := 0) (j := 0) C dX8_nextTo_64 rfl rfl ?_
            refine g_iload_n (pc := 65) (i := 3) (j := 3) C dX8_nextTo_65 rfl rfl ?_
            refine g_iload (pc := 66) (j := 4) C dX8_nextTo_66 rfl ?_
            refine g_callV (pc := 68) C dX8_nextTo_68 lmX8_246 kcX8_isOver (by decide) (by first | rfl | assumption) (c_X8_isOver hat ha hm6 hj6) rfl rfl (Nat.le_of_ble_eq_true rfl) ?_
            intro r9 sh9 I9 J9 hD9; obtain ⟨rfl, rfl, rfl, rfl⟩ := pm_Dq hD9; clear hD9
            try simp only [Option.toList_some, Option.toList_none, List.cons_append, List.nil_append]
            refine g_iload_n (pc := 71) (i := 2) (j := 2) C dX8_nextTo_71 rfl rfl ?_
            refine g_icmp_ne (pc := 72) (tgt := 80) C dX8_nextTo_72 (by decide) (fun h72 => ?_) (fun h72 => ?_)
            · refine g_iload_n (pc := 80) (i := 3) (j := 3) C dX8_nextTo_80 rfl rfl ?_
              refine g_istore_n (pc := 81) (i := 3) (L2 := [(0, _), (1, _), (2, _), (3, _), (4, _), (5, _)]) C dX8_nextTo_81 rfl (by decide) rfl ?_
              refine g_iinc (pc := 82) (j := 4) (v := _ + 1) (L2 := [(0, _), (1, _), (2, _), (3, _), (4, _), (5, _)]) C dX8_nextTo_82 rfl rfl (by decide) rfl ?_
              refine g_goto (pc := 85) (tgt := 6) C dX8_nextTo_85 (by decide) ?_
              refine pm_drop (L := [(0, _), (1, _), (2, _), (3, _), (4, _)]) ?_ [0, 1, 2, 3, 4] rfl
              refine pm_Geq (ih hlt) ?_ rfl rfl rfl
              simp only [nI_1, List.cons.injEq, Prod.mk.injEq, Value.int.injEq, and_true, true_and]
              clear C C2 ih
              have e0 := nI_eq (a := j) (b := i) (by omega) (by omega)
              first | replace h34 : md I a j 2 = md I a i 2 := h34 | replace h34 : ¬ (md I a j 2 = md I a i 2) := h34 | skip
              try rw [pm_b_1] at h45
              try rw [pm_b_1] at h72
              clear h12 hat ha hn
              generalize md I a = B at *
              have e2 : i ≠ j → (¬ bl_over B j i ↔ bl_over B i j) := fun q => bl_over_tot (fun z => q z.symm)
              cases ho : bl_nextA B i j with
              | none =>
                rw [bl_nextA_none ho]
                try rw [ho] at h61
                try rw [ho] at em
                clear hj h6 hi hlt hj6
                split <;> first | rfl | (exfalso; grind [bl_enc]) | grind [bl_enc]
              | some m0 =>
                rw [bl_nextA_some ho]
                have e3 := nI_pos (n := m0) (by have := bl_nextA_lt ho; omega)
                have e5 : m0 ≠ j → (¬ bl_over B m0 j ↔ bl_over B j m0) := fun q => bl_over_tot q
                have e6 : m0 ≠ j := by have := bl_nextA_lt ho; omega
                try rw [ho] at h61
                try rw [ho] at em
                clear hj h6 hi hlt hj6
                split <;> first | rfl | (exfalso; grind [bl_enc]) | grind [bl_enc]
            · refine g_iload (pc := 75) (j := 4) C dX8_nextTo_75 rfl ?_
              refine g_goto (pc := 77) (tgt := 81) C dX8_nextTo_77 (by decide) ?_
              refine g_istore_n (pc := 81) (i := 3) (L2 := [(0, _), (1, _), (2, _), (3, _), (4, _), (5, _)]) C dX8_nextTo_81 rfl (by decide) rfl ?_
              refine g_iinc (pc := 82) (j := 4) (v := _ + 1) (L2 := [(0, _), (1, _), (2, _), (3, _), (4, _), (5, _)]) C dX8_nextTo_82 rfl rfl (by decide) rfl ?_
              refine g_goto (pc := 85) (tgt := 6) C dX8_nextTo_85 (by decide) ?_
              refine pm_drop (L := [(0, _), (1, _), (2, _), (3, _), (4, _)]) ?_ [0, 1, 2, 3, 4] rfl
              refine pm_Geq (ih hlt) ?_ rfl rfl rfl
              simp only [nI_1, List.cons.injEq, Prod.mk.injEq, Value.int.injEq, and_true, true_and]
              clear C C2 ih
              have e0 := nI_eq (a := j) (b := i) (by omega) (by omega)
              first | replace h34 : md I a j 2 = md I a i 2 := h34 | replace h34 : ¬ (md I a j 2 = md I a i 2) := h34 | skip
              try rw [pm_b_1] at h45
              try rw [pm_b_1] at h72
              clear h12 hat ha hn
              generalize md I a = B at *
              have e2 : i ≠ j → (¬ bl_over B j i ↔ bl_over B i j) := fun q => bl_over_tot (fun z => q z.symm)
              cases ho : bl_nextA B i j with
              | none =>
                rw [bl_nextA_none ho]
                try rw [ho] at h61
                try rw [ho] at em
                clear hj h6 hi hlt hj6
                split <;> first | rfl | (exfalso; grind [bl_enc]) | grind [bl_enc]
              | some m0 =>
                rw [bl_nextA_some ho]
                have e3 := nI_pos (n := m0) (by have := bl_nextA_lt ho; omega)
                have e5 : m0 ≠ j → (¬ bl_over B m0 j ↔ bl_over B j m0) := fun q => bl_over_tot q
                have e6 : m0 ≠ j := by have := bl_nextA_lt ho; omega
                try rw [ho] at h61
                try rw [ho] at em
                clear hj h6 hi hlt hj6
                split <;> first | rfl | (exfalso; grind [bl_enc]) | grind [bl_enc]
      · refine g_aload_n (pc := 21) (i := 0) (j := 0) C dX8_nextTo_21 rfl rfl ?_
        refine g_iload (pc := 22) (j := 4) C dX8_nextTo_22 rfl ?_
        refine g_iconst (pc := 24) (v := 1) C dX8_nextTo_24 (by decide) ?_
        refine g_callV (pc := 25) C dX8_nextTo_25 lmX8_219 kcX8_its (by decide) (by first | rfl | assumption) (c_X8_its (p := 1) hat ha hj6 (by decide)) rfl rfl (Nat.le_of_ble_eq_true rfl) ?_
        intro r9 sh9 I9 J9 hD9; obtain ⟨rfl, rfl, rfl, rfl⟩ := pm_Dq hD9; clear hD9
        try simp only [Option.toList_some, Option.toList_none, List.cons_append, List.nil_append]
        refine g_aload_n (pc := 28) (i := 0) (j := 0) C dX8_nextTo_28 rfl rfl ?_
        refine g_iload_n (pc := 29) (i := 1) (j := 1) C dX8_nextTo_29 rfl rfl ?_
        refine g_iconst (pc := 30) (v := 1) C dX8_nextTo_30 (by decide) ?_
        refine g_callV (pc := 31) C dX8_nextTo_31 lmX8_219 kcX8_its (by decide) (by first | rfl | assumption) (c_X8_its (p := 1) hat ha hi (by decide)) rfl rfl (Nat.le_of_ble_eq_true rfl) ?_
        intro r9 sh9 I9 J9 hD9; obtain ⟨rfl, rfl, rfl, rfl⟩ := pm_Dq hD9; clear hD9
        try simp only [Option.toList_some, Option.toList_none, List.cons_append, List.nil_append]
        refine g_icmp_ne (pc := 34) (tgt := 52) C dX8_nextTo_34 (by decide) (fun h34 => ?_) (fun h34 => ?_)
        · refine g_iconst (pc := 52) (v := 0) C dX8_nextTo_52 (by decide) ?_
          refine g_istore (pc := 53) (L2 := [(0, _), (1, _), (2, _), (3, _), (4, _), (5, _)]) C dX8_nextTo_53 (by decide) rfl ?_
          refine g_iload (pc := 55) (j := 5) C dX8_nextTo_55 rfl ?_
          refine g_if_eq (pc := 57) (tgt := 80) C dX8_nextTo_57 (by decide) (fun h57 => ?_) (fun h57 => ?_)
          · refine g_iload_n (pc := 80) (i := 3) (j := 3) C dX8_nextTo_80 rfl rfl ?_
            refine g_istore_n (pc := 81) (i := 3) (L2 := [(0, _), (1, _), (2, _), (3, _), (4, _), (5, _)]) C dX8_nextTo_81 rfl (by decide) rfl ?_
            refine g_iinc (pc := 82) (j := 4) (v := _ + 1) (L2 := [(0, _), (1, _), (2, _), (3, _), (4, _), (5, _)]) C dX8_nextTo_82 rfl rfl (by decide) rfl ?_
            refine g_goto (pc := 85) (tgt := 6) C dX8_nextTo_85 (by decide) ?_
            refine pm_drop (L := [(0, _), (1, _), (2, _), (3, _), (4, _)]) ?_ [0, 1, 2, 3, 4] rfl
            refine pm_Geq (ih hlt) ?_ rfl rfl rfl
            simp only [nI_1, List.cons.injEq, Prod.mk.injEq, Value.int.injEq, and_true, true_and]
            clear C C2 ih
            have e0 := nI_eq (a := j) (b := i) (by omega) (by omega)
            first | replace h34 : md I a j 2 = md I a i 2 := h34 | replace h34 : ¬ (md I a j 2 = md I a i 2) := h34 | skip
            try rw [pm_b_1] at h45
            try rw [pm_b_1] at h72
            clear h12 hat ha hn
            generalize md I a = B at *
            have e2 : i ≠ j → (¬ bl_over B j i ↔ bl_over B i j) := fun q => bl_over_tot (fun z => q z.symm)
            cases ho : bl_nextA B i j with
            | none =>
              rw [bl_nextA_none ho]
              try rw [ho] at h61
              try rw [ho] at em
              clear hj h6 hi hlt hj6
              split <;> first | rfl | (exfalso; grind [bl_enc]) | grind [bl_enc]
            | some m0 =>
              rw [bl_nextA_some ho]
              have e3 := nI_pos (n := m0) (by have := bl_nextA_lt ho; omega)
              have e5 : m0 ≠ j → (¬ bl_over B m0 j ↔ bl_over B j m0) := fun q => bl_over_tot q
              have e6 : m0 ≠ j := by have := bl_nextA_lt ho; omega
              try rw [ho] at h61
              try rw [ho] at em
              clear hj h6 hi hlt hj6
              split <;> first | rfl | (exfalso; grind [bl_enc]) | grind [bl_enc]
          · refine g_iload_n (pc := 60) (i := 3) (j := 3) C dX8_nextTo_60 rfl rfl ?_
            refine g_if_lt (pc := 61) (tgt := 75) C dX8_nextTo_61 (by decide) (fun h61 => ?_) (fun h61 => ?_)
            · refine g_iload (pc := 75) (j := 4) C dX8_nextTo_75 rfl ?_
              refine g_goto (pc := 77) (tgt := 81) C dX8_nextTo_77 (by decide) ?_
              refine g_istore_n (pc := 81) (i := 3) (L2 := [(0, _), (1, _), (2, _), (3, _), (4, _), (5, _)]) C dX8_nextTo_81 rfl (by decide) rfl ?_
              refine g_iinc (pc := 82) (j := 4) (v := _ + 1) (L2 := [(0, _), (1, _), (2, _), (3, _), (4, _), (5, _)]) C dX8_nextTo_82 rfl rfl (by decide) rfl ?_
              refine g_goto (pc := 85) (tgt := 6) C dX8_nextTo_85 (by decide) ?_
              refine pm_drop (L := [(0, _), (1, _), (2, _), (3, _), (4, _)]) ?_ [0, 1, 2, 3, 4] rfl
              refine pm_Geq (ih hlt) ?_ rfl rfl rfl
              simp only [nI_1, List.cons.injEq, Prod.mk.injEq, Value.int.injEq, and_true, true_and]
              clear C C2 ih
              have e0 := nI_eq (a := j) (b := i) (by omega) (by omega)
              first | replace h34 : md I a j 2 = md I a i 2 := h34 | replace h34 : ¬ (md I a j 2 = md I a i 2) := h34 | skip
              try rw [pm_b_1] at h45
              try rw [pm_b_1] at h72
              clear h12 hat ha hn
              generalize md I a = B at *
              have e2 : i ≠ j → (¬ bl_over B j i ↔ bl_over B i j) := fun q => bl_over_tot (fun z => q z.symm)
              cases ho : bl_nextA B i j with
              | none =>
                rw [bl_nextA_none ho]
                try rw [ho] at h61
                try rw [ho] at em
                clear hj h6 hi hlt hj6
                split <;> first | rfl | (exfalso; grind [bl_enc]) | grind [bl_enc]
              | some m0 =>
                rw [bl_nextA_some ho]
                have e3 := nI_pos (n := m0) (by have := bl_nextA_lt ho; omega)
                have e5 : m0 ≠ j → (¬ bl_over B m0 j ↔ bl_over B j m0) := fun q => bl_over_tot q
                have e6 : m0 ≠ j := by have := bl_nextA_lt ho; omega
                try rw [ho] at h61
                try rw [ho] at em
                clear hj h6 hi hlt hj6
                split <;> first | rfl | (exfalso; grind [bl_enc]) | grind [bl_enc]
            · obtain ⟨m, em⟩ := bl_enc_some (fun q => h61 (by rw [q]; decide))
              have hm6 : m < 6 := by have := bl_nextA_lt em; omega
              simp only [em, bl_enc]
              refine g_aload_n (pc := 64) (i := 0) (j := 0) C dX8_nextTo_64 rfl rfl ?_
              refine g_iload_n (pc := 65) (i := 3) (j := 3) C dX8_nextTo_65 rfl rfl ?_
              refine g_iload (pc := 66) (j := 4) C dX8_nextTo_66 rfl ?_
              refine g_callV (pc := 68) C dX8_nextTo_68 lmX8_246 kcX8_isOver (by decide) (by first | rfl | assumption) (c_X8_isOver hat ha hm6 hj6) rfl rfl (Nat.le_of_ble_eq_true rfl) ?_
              intro r9 sh9 I9 J9 hD9; obtain ⟨rfl, rfl, rfl, rfl⟩ := pm_Dq hD9; clear hD9
              try simp only [Option.toList_some, Option.toList_none, List.cons_append, List.nil_append]
              refine g_iload_n (pc := 71) (i := 2) (j := 2) C dX8_nextTo_71 rfl rfl ?_
              refine g_icmp_ne (pc := 72) (tgt := 80) C dX8_nextTo_72 (by decide) (fun h72 => ?_) (fun h72 => ?_)
              · refine g_iload_n (pc := 80) (i := 3) (j := 3) C dX8_nextTo_80 rfl rfl ?_
                refine g_istore_n (pc := 81) (i := 3) (L2 := [(0, _), (1, _), (2, _), (3, _), (4, _), (5, _)]) C dX8_nextTo_81 rfl (by decide) rfl ?_
                refine g_iinc (pc := 82) (j := 4) (v := _ + 1) (L2 := [(0, _), (1, _), (2, _), (3, _), (4, _), (5, _)]) C dX8_nextTo_82 rfl rfl (by decide) rfl ?_
                refine g_goto (pc := 85) (tgt := 6) C dX8_nextTo_85 (by decide) ?_
                refine pm_drop (L := [(0, _), (1, _), (2, _), (3, _), (4, _)]) ?_ [0, 1, 2, 3, 4] rfl
                refine pm_Geq (ih hlt) ?_ rfl rfl rfl
                simp only [nI_1, List.cons.injEq, Prod.mk.injEq, Value.int.injEq, and_true, true_and]
                clear C C2 ih
                have e0 := nI_eq (a := j) (b := i) (by omega) (by omega)
                first | replace h34 : md I a j 2 = md I a i 2 := h34 | replace h34 : ¬ (md I a j 2 = md I a i 2) := h34 | skip
                try rw [pm_b_1] at h45
                try rw [pm_b_1] at h72
                clear h12 hat ha hn
                generalize md I a = B at *
                have e2 : i ≠ j → (¬ bl_over B j i ↔ bl_over B i j) := fun q => bl_over_tot (fun z => q z.symm)
                cases ho : bl_nextA B i j with
                | none =>
                  rw [bl_nextA_none ho]
                  try rw [ho] at h61
                  try rw [ho] at em
                  clear hj h6 hi hlt hj6
                  split <;> first | rfl | (exfalso; grind [bl_enc]) | grind [bl_enc]
                | some m0 =>
                  rw [bl_nextA_some ho]
                  have e3 := nI_pos (n := m0) (by have := bl_nextA_lt ho; omega)
                  have e5 : m0 ≠ j → (¬ bl_over B m0 j ↔ bl_over B j m0) := fun q => bl_over_tot q
                  have e6 : m0 ≠ j := by have := bl_nextA_lt ho; omega
                  try rw [ho] at h61
                  try rw [ho] at em
                  clear hj h6 hi hlt hj6
                  split <;> first | rfl | (exfalso; grind [bl_enc]) | grind [bl_enc]
              · refine g_iload (pc := 75) (j := 4) C dX8_nextTo_75 rfl ?_
                refine g_goto (pc := 77) (tgt := 81) C dX8_nextTo_77 (by decide) ?_
                refine g_istore_n (pc := 81) (i := 3) (L2 := [(0, _), (1, _), (2, _), (3, _), (4, _), (5, _)]) C dX8_nextTo_81 rfl (by decide) rfl ?_
                refine g_iinc (pc := 82) (j := 4) (v := _ + 1) (L2 := [(0, _), (1, _), (2, _), (3, _), (4, _), (5, _)]) C dX8_nextTo_82 rfl rfl (by decide) rfl ?_
                refine g_goto (pc := 85) (tgt := 6) C dX8_nextTo_85 (by decide) ?_
                refine pm_drop (L := [(0, _), (1, _), (2, _), (3, _), (4, _)]) ?_ [0, 1, 2, 3, 4] rfl
                refine pm_Geq (ih hlt) ?_ rfl rfl rfl
                simp only [nI_1, List.cons.injEq, Prod.mk.injEq, Value.int.injEq, and_true, true_and]
                clear C C2 ih
                have e0 := nI_eq (a := j) (b := i) (by omega) (by omega)
                first | replace h34 : md I a j 2 = md I a i 2 := h34 | replace h34 : ¬ (md I a j 2 = md I a i 2) := h34 | skip
                try rw [pm_b_1] at h45
                try rw [pm_b_1] at h72
                clear h12 hat ha hn
                generalize md I a = B at *
                have e2 : i ≠ j → (¬ bl_over B j i ↔ bl_over B i j) := fun q => bl_over_tot (fun z => q z.symm)
                cases ho : bl_nextA B i j with
                | none =>
                  rw [bl_nextA_none ho]
                  try rw [ho] at h61
                  try rw [ho] at em
                  clear hj h6 hi hlt hj6
                  split <;> first | rfl | (exfalso; grind [bl_enc]) | grind [bl_enc]
                | some m0 =>
                  rw [bl_nextA_some ho]
                  have e3 := nI_pos (n := m0) (by have := bl_nextA_lt ho; omega)
                  have e5 : m0 ≠ j → (¬ bl_over B m0 j ↔ bl_over B j m0) := fun q => bl_over_tot q
                  have e6 : m0 ≠ j := by have := bl_nextA_lt ho; omega
                  try rw [ho] at h61
                  try rw [ho] at em
                  clear hj h6 hi hlt hj6
                  split <;> first | rfl | (exfalso; grind [bl_enc]) | grind [bl_enc]
        · refine g_aload_n (pc := 37) (i := 0) (j := 0) C dX8_nextTo_37 rfl rfl ?_
          refine g_iload (pc := 38) (j := 4) C dX8_nextTo_38 rfl ?_
          refine g_iload_n (pc := 40) (i := 1) (j := 1) C dX8_nextTo_40 rfl rfl ?_
          refine g_callV (pc := 41) C dX8_nextTo_41 lmX8_246 kcX8_isOver (by decide) (by first | rfl | assumption) (c_X8_isOver hat ha hj6 hi) rfl rfl (Nat.le_of_ble_eq_true rfl) ?_
          intro r9 sh9 I9 J9 hD9; obtain ⟨rfl, rfl, rfl, rfl⟩ := pm_Dq hD9; clear hD9
          try simp only [Option.toList_some, Option.toList_none, List.cons_append, List.nil_append]
          refine g_iload_n (pc := 44) (i := 2) (j := 2) C dX8_nextTo_44 rfl rfl ?_
          refine g_icmp_ne (pc := 45) (tgt := 52) C dX8_nextTo_45 (by decide) (fun h45 => ?_) (fun h45 => ?_)
          · refine g_iconst (pc := 52) (v := 0) C dX8_nextTo_52 (by decide) ?_
            refine g_istore (pc := 53) (L2 := [(0, _), (1, _), (2, _), (3, _), (4, _), (5, _)]) C dX8_nextTo_53 (by decide) rfl ?_
            refine g_iload (pc := 55) (j := 5) C dX8_nextTo_55 rfl ?_
            refine g_if_eq (pc := 57) (tgt := 80) C dX8_nextTo_57 (by decide) (fun h57 => ?_) (fun h57 => ?_)
            · refine g_iload_n (pc := 80) (i := 3) (j := 3) C dX8_nextTo_80 rfl rfl ?_
              refine g_istore_n (pc := 81) (i := 3) (L2 := [(0, _), (1, _), (2, _), (3, _), (4, _), (5, _)]) C dX8_nextTo_81 rfl (by decide) rfl ?_
              refine g_iinc (pc := 82) (j := 4) (v := _ + 1) (L2 := [(0, _), (1, _), (2, _), (3, _), (4, _), (5, _)]) C dX8_nextTo_82 rfl rfl (by decide) rfl ?_
              refine g_goto (pc := 85) (tgt := 6) C dX8_nextTo_85 (by decide) ?_
              refine pm_drop (L := [(0, _), (1, _), (2, _), (3, _), (4, _)]) ?_ [0, 1, 2, 3, 4] rfl
              refine pm_Geq (ih hlt) ?_ rfl rfl rfl
              simp only [nI_1, List.cons.injEq, Prod.mk.injEq, Value.int.injEq, and_true, true_and]
              clear C C2 ih
              have e0 := nI_eq (a := j) (b := i) (by omega) (by omega)
              first | replace h34 : md I a j 2 = md I a i 2 := h34 | replace h34 : ¬ (md I a j 2 = md I a i 2) := h34 | skip
              try rw [pm_b_1] at h45
              try rw [pm_b_1] at h72
              clear h12 hat ha hn
              generalize md I a = B at *
              have e2 : i ≠ j → (¬ bl_over B j i ↔ bl_over B i j) := fun q => bl_over_tot (fun z => q z.symm)
              cases ho : bl_nextA B i j with
              | none =>
                rw [bl_nextA_none ho]
                try rw [ho] at h61
                try rw [ho] at em
                clear hj h6 hi hlt hj6
                split <;> first | rfl | (exfalso; grind [bl_enc]) | grind [bl_enc]
              | some m0 =>
                rw [bl_nextA_some ho]
                have e3 := nI_pos (n := m0) (by have := bl_nextA_lt ho; omega)
                have e5 : m0 ≠ j → (¬ bl_over B m0 j ↔ bl_over B j m0) := fun q => bl_over_tot q
                have e6 : m0 ≠ j := by have := bl_nextA_lt ho; omega
                try rw [ho] at h61
                try rw [ho] at em
                clear hj h6 hi hlt hj6
                split <;> first | rfl | (exfalso; grind [bl_enc]) | grind [bl_enc]
            · refine g_iload_n (pc := 60) (i := 3) (j := 3) C dX8_nextTo_60 rfl rfl ?_
              refine g_if_lt (pc := 61) (tgt := 75) C dX8_nextTo_61 (by decide) (fun h61 => ?_) (fun h61 => ?_)
              · refine g_iload (pc := 75) (j := 4) C dX8_nextTo_75 rfl ?_
                refine g_goto (pc := 77) (tgt := 81) C dX8_nextTo_77 (by decide) ?_
                refine g_istore_n (pc := 81) (i := 3) (L2 := [(0, _), (1, _), (2, _), (3, _), (4, _), (5, _)]) C dX8_nextTo_81 rfl (by decide) rfl ?_
                refine g_iinc (pc := 82) (j := 4) (v := _ + 1) (L2 := [(0, _), (1, _), (2, _), (3, _), (4, _), (5, _)]) C dX8_nextTo_82 rfl rfl (by decide) rfl ?_
                refine g_goto (pc := 85) (tgt := 6) C dX8_nextTo_85 (by decide) ?_
                refine pm_drop (L := [(0, _), (1, _), (2, _), (3, _), (4, _)]) ?_ [0, 1, 2, 3, 4] rfl
                refine pm_Geq (ih hlt) ?_ rfl rfl rfl
                simp only [nI_1, List.cons.injEq, Prod.mk.injEq, Value.int.injEq, and_true, true_and]
                clear C C2 ih
                have e0 := nI_eq (a := j) (b := i) (by omega) (by omega)
                first | replace h34 : md I a j 2 = md I a i 2 := h34 | replace h34 : ¬ (md I a j 2 = md I a i 2) := h34 | skip
                try rw [pm_b_1] at h45
                try rw [pm_b_1] at h72
                clear h12 hat ha hn
                generalize md I a = B at *
                have e2 : i ≠ j → (¬ bl_over B j i ↔ bl_over B i j) := fun q => bl_over_tot (fun z => q z.symm)
                cases ho : bl_nextA B i j with
                | none =>
                  rw [bl_nextA_none ho]
                  try rw [ho] at h61
                  try rw [ho] at em
                  clear hj h6 hi hlt hj6
                  split <;> first | rfl | (exfalso; grind [bl_enc]) | grind [bl_enc]
                | some m0 =>
                  rw [bl_nextA_some ho]
                  have e3 := nI_pos (n := m0) (by have := bl_nextA_lt ho; omega)
                  have e5 : m0 ≠ j → (¬ bl_over B m0 j ↔ bl_over B j m0) := fun q => bl_over_tot q
                  have e6 : m0 ≠ j := by have := bl_nextA_lt ho; omega
                  try rw [ho] at h61
                  try rw [ho] at em
                  clear hj h6 hi hlt hj6
                  split <;> first | rfl | (exfalso; grind [bl_enc]) | grind [bl_enc]
              · obtain ⟨m, em⟩ := bl_enc_some (fun q => h61 (by rw [q]; decide))
                have hm6 : m < 6 := by have := bl_nextA_lt em; omega
                simp only [em, bl_enc]
                refine g_aload_n (pc := 64) (i := 0) (j := 0) C dX8_nextTo_64 rfl rfl ?_
                refine g_iload_n (pc := 65) (i := 3) (j := 3) C dX8_nextTo_65 rfl rfl ?_
                refine g_iload (pc := 66) (j := 4) C dX8_nextTo_66 rfl ?_
                refine g_callV (pc := 68) C dX8_nextTo_68 lmX8_246 kcX8_isOver (by decide) (by first | rfl | assumption) (c_X8_isOver hat ha hm6 hj6) rfl rfl (Nat.le_of_ble_eq_true rfl) ?_
                intro r9 sh9 I9 J9 hD9; obtain ⟨rfl, rfl, rfl, rfl⟩ := pm_Dq hD9; clear hD9
                try simp only [Option.toList_some, Option.toList_none, List.cons_append, List.nil_append]
                refine g_iload_n (pc := 71) (i := 2) (j := 2) C dX8_nextTo_71 rfl rfl ?_
                refine g_icmp_ne (pc := 72) (tgt := 80) C dX8_nextTo_72 (by decide) (fun h72 => ?_) (fun h72 => ?_)
                · refine g_iload_n (pc := 80) (i := 3) (j := 3) C dX8_nextTo_80 rfl rfl ?_
                  refine g_istore_n (pc := 81) (i := 3) (L2 := [(0, _), (1, _), (2, _), (3, _), (4, _), (5, _)]) C dX8_nextTo_81 rfl (by decide) rfl ?_
                  refine g_iinc (pc := 82) (j := 4) (v := _ + 1) (L2 := [(0, _), (1, _), (2, _), (3, _), (4, _), (5, _)]) C dX8_nextTo_82 rfl rfl (by decide) rfl ?_
                  refine g_goto (pc := 85) (tgt := 6) C dX8_nextTo_85 (by decide) ?_
                  refine pm_drop (L := [(0, _), (1, _), (2, _), (3, _), (4, _)]) ?_ [0, 1, 2, 3, 4] rfl
                  refine pm_Geq (ih hlt) ?_ rfl rfl rfl
                  simp only [nI_1, List.cons.injEq, Prod.mk.injEq, Value.int.injEq, and_true, true_and]
                  clear C C2 ih
                  have e0 := nI_eq (a := j) (b := i) (by omega) (by omega)
                  first | replace h34 : md I a j 2 = md I a i 2 := h34 | replace h34 : ¬ (md I a j 2 = md I a i 2) := h34 | skip
                  try rw [pm_b_1] at h45
                  try rw [pm_b_1] at h72
                  clear h12 hat ha hn
                  generalize md I a = B at *
                  have e2 : i ≠ j → (¬ bl_over B j i ↔ bl_over B i j) := fun q => bl_over_tot (fun z => q z.symm)
                  cases ho : bl_nextA B i j with
                  | none =>
                    rw [bl_nextA_none ho]
                    try rw [ho] at h61
                    try rw [ho] at em
                    clear hj h6 hi hlt hj6
                    split <;> first | rfl | (exfalso; grind [bl_enc]) | grind [bl_enc]
                  | some m0 =>
                    rw [bl_nextA_some ho]
                    have e3 := nI_pos (n := m0) (by have := bl_nextA_lt ho; omega)
                    have e5 : m0 ≠ j → (¬ bl_over B m0 j ↔ bl_over B j m0) := fun q => bl_over_tot q
                    have e6 : m0 ≠ j := by have := bl_nextA_lt ho; omega
                    try rw [ho] at h61
                    try rw [ho] at em
                    clear hj h6 hi hlt hj6
                    split <;> first | rfl | (exfalso; grind [bl_enc]) | grind [bl_enc]
                · refine g_iload (pc := 75) (j := 4) C dX8_nextTo_75 rfl ?_
                  refine g_goto (pc := 77) (tgt := 81) C dX8_nextTo_77 (by decide) ?_
                  refine g_istore_n (pc := 81) (i := 3) (L2 := [(0, _), (1, _), (2, _), (3, _), (4, _), (5, _)]) C dX8_nextTo_81 rfl (by decide) rfl ?_
                  refine g_iinc (pc := 82) (j := 4) (v := _ + 1) (L2 := [(0, _), (1, _), (2, _), (3, _), (4, _), (5, _)]) C dX8_nextTo_82 rfl rfl (by decide) rfl ?_
                  refine g_goto (pc := 85) (tgt := 6) C dX8_nextTo_85 (by decide) ?_
                  refine pm_drop (L := [(0, _), (1, _), (2, _), (3, _), (4, _)]) ?_ [0, 1, 2, 3, 4] rfl
                  refine pm_Geq (ih hlt) ?_ rfl rfl rfl
                  simp only [nI_1, List.cons.injEq, Prod.mk.injEq, Value.int.injEq, and_true, true_and]
                  clear C C2 ih
                  have e0 := nI_eq (a := j) (b := i) (by omega) (by omega)
                  first | replace h34 : md I a j 2 = md I a i 2 := h34 | replace h34 : ¬ (md I a j 2 = md I a i 2) := h34 | skip
                  try rw [pm_b_1] at h45
                  try rw [pm_b_1] at h72
                  clear h12 hat ha hn
                  generalize md I a = B at *
                  have e2 : i ≠ j → (¬ bl_over B j i ↔ bl_over B i j) := fun q => bl_over_tot (fun z => q z.symm)
                  cases ho : bl_nextA B i j with
                  | none =>
                    rw [bl_nextA_none ho]
                    try rw [ho] at h61
                    try rw [ho] at em
                    clear hj h6 hi hlt hj6
                    split <;> first | rfl | (exfalso; grind [bl_enc]) | grind [bl_enc]
                  | some m0 =>
                    rw [bl_nextA_some ho]
                    have e3 := nI_pos (n := m0) (by have := bl_nextA_lt ho; omega)
                    have e5 : m0 ≠ j → (¬ bl_over B m0 j ↔ bl_over B j m0) := fun q => bl_over_tot q
                    have e6 : m0 ≠ j := by have := bl_nextA_lt ho; omega
                    try rw [ho] at h61
                    try rw [ho] at em
                    clear hj h6 hi hlt hj6
                    split <;> first | rfl | (exfalso; grind [bl_enc]) | grind [bl_enc]
          · refine g_iconst (pc := 48) (v := 1) C dX8_nextTo_48 (by decide) ?_
            refine g_goto (pc := 49) (tgt := 53) C dX8_nextTo_49 (by decide) ?_
            refine g_istore (pc := 53) (L2 := [(0, _), (1, _), (2, _), (3, _), (4, _), (5, _)]) C dX8_nextTo_53 (by decide) rfl ?_
            refine g_iload (pc := 55) (j := 5) C dX8_nextTo_55 rfl ?_
            refine g_if_eq (pc := 57) (tgt := 80) C dX8_nextTo_57 (by decide) (fun h57 => ?_) (fun h57 => ?_)
            · refine g_iload_n (pc := 80) (i := 3) (j := 3) C dX8_nextTo_80 rfl rfl ?_
              refine g_istore_n (pc := 81) (i := 3) (L2 := [(0, _), (1, _), (2, _), (3, _), (4, _), (5, _)]) C dX8_nextTo_81 rfl (by decide) rfl ?_
              refine g_iinc (pc := 82) (j := 4) (v := _ + 1) (L2 := [(0, _), (1, _), (2, _), (3, _), (4, _), (5, _)]) C dX8_nextTo_82 rfl rfl (by decide) rfl ?_
              refine g_goto (pc := 85) (tgt := 6) C dX8_nextTo_85 (by decide) ?_
              refine pm_drop (L := [(0, _), (1, _), (2, _), (3, _), (4, _)]) ?_ [0, 1, 2, 3, 4] rfl
              refine pm_Geq (ih hlt) ?_ rfl rfl rfl
              simp only [nI_1, List.cons.injEq, Prod.mk.injEq, Value.int.injEq, and_true, true_and]
              clear C C2 ih
              have e0 := nI_eq (a := j) (b := i) (by omega) (by omega)
              first | replace h34 : md I a j 2 = md I a i 2 := h34 | replace h34 : ¬ (md I a j 2 = md I a i 2) := h34 | skip
              try rw [pm_b_1] at h45
              try rw [pm_b_1] at h72
              clear h12 hat ha hn
              generalize md I a = B at *
              have e2 : i ≠ j → (¬ bl_over B j i ↔ bl_over B i j) := fun q => bl_over_tot (fun z => q z.symm)
              cases ho : bl_nextA B i j with
              | none =>
                rw [bl_nextA_none ho]
                try rw [ho] at h61
                try rw [ho] at em
                clear hj h6 hi hlt hj6
                split <;> first | rfl | (exfalso; grind [bl_enc]) | grind [bl_enc]
              | some m0 =>
                rw [bl_nextA_some ho]
                have e3 := nI_pos (n := m0) (by have := bl_nextA_lt ho; omega)
                have e5 : m0 ≠ j → (¬ bl_over B m0 j ↔ bl_over B j m0) := fun q => bl_over_tot q
                have e6 : m0 ≠ j := by have := bl_nextA_lt ho; omega
                try rw [ho] at h61
                try rw [ho] at em
                clear hj h6 hi hlt hj6
                split <;> first | rfl | (exfalso; grind [bl_enc]) | grind [bl_enc]
            · refine g_iload_n (pc := 60) (i := 3) (j := 3) C dX8_nextTo_60 rfl rfl ?_
              refine g_if_lt (pc := 61) (tgt := 75) C dX8_nextTo_61 (by decide) (fun h61 => ?_) (fun h61 => ?_)
              · refine g_iload (pc := 75) (j := 4) C dX8_nextTo_75 rfl ?_
                refine g_goto (pc := 77) (tgt := 81) C dX8_nextTo_77 (by decide) ?_
                refine g_istore_n (pc := 81) (i := 3) (L2 := [(0, _), (1, _), (2, _), (3, _), (4, _), (5, _)]) C dX8_nextTo_81 rfl (by decide) rfl ?_
                refine g_iinc (pc := 82) (j := 4) (v := _ + 1) (L2 := [(0, _), (1, _), (2, _), (3, _), (4, _), (5, _)]) C dX8_nextTo_82 rfl rfl (by decide) rfl ?_
                refine g_goto (pc := 85) (tgt := 6) C dX8_nextTo_85 (by decide) ?_
                refine pm_drop (L := [(0, _), (1, _), (2, _), (3, _), (4, _)]) ?_ [0, 1, 2, 3, 4] rfl
                refine pm_Geq (ih hlt) ?_ rfl rfl rfl
                simp only [nI_1, List.cons.injEq, Prod.mk.injEq, Value.int.injEq, and_true, true_and]
                clear C C2 ih
                have e0 := nI_eq (a := j) (b := i) (by omega) (by omega)
                first | replace h34 : md I a j 2 = md I a i 2 := h34 | replace h34 : ¬ (md I a j 2 = md I a i 2) := h34 | skip
                try rw [pm_b_1] at h45
                try rw [pm_b_1] at h72
                clear h12 hat ha hn
                generalize md I a = B at *
                have e2 : i ≠ j → (¬ bl_over B j i ↔ bl_over B i j) := fun q => bl_over_tot (fun z => q z.symm)
                cases ho : bl_nextA B i j with
                | none =>
                  rw [bl_nextA_none ho]
                  try rw [ho] at h61
                  try rw [ho] at em
                  clear hj h6 hi hlt hj6
                  split <;> first | rfl | (exfalso; grind [bl_enc]) | grind [bl_enc]
                | some m0 =>
                  rw [bl_nextA_some ho]
                  have e3 := nI_pos (n := m0) (by have := bl_nextA_lt ho; omega)
                  have e5 : m0 ≠ j → (¬ bl_over B m0 j ↔ bl_over B j m0) := fun q => bl_over_tot q
                  have e6 : m0 ≠ j := by have := bl_nextA_lt ho; omega
                  try rw [ho] at h61
                  try rw [ho] at em
                  clear hj h6 hi hlt hj6
                  split <;> first | rfl | (exfalso; grind [bl_enc]) | grind [bl_enc]
              · obtain ⟨m, em⟩ := bl_enc_some (fun q => h61 (by rw [q]; decide))
                have hm6 : m < 6 := by have := bl_nextA_lt em; omega
                simp only [em, bl_enc]
                refine g_aload_n (pc := 64) (i := 0) (j := 0) C dX8_nextTo_64 rfl rfl ?_
                refine g_iload_n (pc := 65) (i := 3) (j := 3) C dX8_nextTo_65 rfl rfl ?_
                refine g_iload (pc := 66) (j := 4) C dX8_nextTo_66 rfl ?_
                refine g_callV (pc := 68) C dX8_nextTo_68 lmX8_246 kcX8_isOver (by decide) (by first | rfl | assumption) (c_X8_isOver hat ha hm6 hj6) rfl rfl (Nat.le_of_ble_eq_true rfl) ?_
                intro r9 sh9 I9 J9 hD9; obtain ⟨rfl, rfl, rfl, rfl⟩ := pm_Dq hD9; clear hD9
                try simp only [Option.toList_some, Option.toList_none, List.cons_append, List.nil_append]
                refine g_iload_n (pc := 71) (i := 2) (j := 2) C dX8_nextTo_71 rfl rfl ?_
                refine g_icmp_ne (pc := 72) (tgt := 80) C dX8_nextTo_72 (by decide) (fun h72 => ?_) (fun h72 => ?_)
                · refine g_iload_n (pc := 80) (i := 3) (j := 3) C dX8_nextTo_80 rfl rfl ?_
                  refine g_istore_n (pc := 81) (i := 3) (L2 := [(0, _), (1, _), (2, _), (3, _), (4, _), (5, _)]) C dX8_nextTo_81 rfl (by decide) rfl ?_
                  refine g_iinc (pc := 82) (j := 4) (v := _ + 1) (L2 := [(0, _), (1, _), (2, _), (3, _), (4, _), (5, _)]) C dX8_nextTo_82 rfl rfl (by decide) rfl ?_
                  refine g_goto (pc := 85) (tgt := 6) C dX8_nextTo_85 (by decide) ?_
                  refine pm_drop (L := [(0, _), (1, _), (2, _), (3, _), (4, _)]) ?_ [0, 1, 2, 3, 4] rfl
                  refine pm_Geq (ih hlt) ?_ rfl rfl rfl
                  simp only [nI_1, List.cons.injEq, Prod.mk.injEq, Value.int.injEq, and_true, true_and]
                  clear C C2 ih
                  have e0 := nI_eq (a := j) (b := i) (by omega) (by omega)
                  first | replace h34 : md I a j 2 = md I a i 2 := h34 | replace h34 : ¬ (md I a j 2 = md I a i 2) := h34 | skip
                  try rw [pm_b_1] at h45
                  try rw [pm_b_1] at h72
                  clear h12 hat ha hn
                  generalize md I a = B at *
                  have e2 : i ≠ j → (¬ bl_over B j i ↔ bl_over B i j) := fun q => bl_over_tot (fun z => q z.symm)
                  cases ho : bl_nextA B i j with
                  | none =>
                    rw [bl_nextA_none ho]
                    try rw [ho] at h61
                    try rw [ho] at em
                    clear hj h6 hi hlt hj6
                    split <;> first | rfl | (exfalso; grind [bl_enc]) | grind [bl_enc]
                  | some m0 =>
                    rw [bl_nextA_some ho]
                    have e3 := nI_pos (n := m0) (by have := bl_nextA_lt ho; omega)
                    have e5 : m0 ≠ j → (¬ bl_over B m0 j ↔ bl_over B j m0) := fun q => bl_over_tot q
                    have e6 : m0 ≠ j := by have := bl_nextA_lt ho; omega
                    try rw [ho] at h61
                    try rw [ho] at em
                    clear hj h6 hi hlt hj6
                    split <;> first | rfl | (exfalso; grind [bl_enc]) | grind [bl_enc]
                · refine g_iload (pc := 75) (j := 4) C dX8_nextTo_75 rfl ?_
                  refine g_goto (pc := 77) (tgt := 81) C dX8_nextTo_77 (by decide) ?_
                  refine g_istore_n (pc := 81) (i := 3) (L2 := [(0, _), (1, _), (2, _), (3, _), (4, _), (5, _)]) C dX8_nextTo_81 rfl (by decide) rfl ?_
                  refine g_iinc (pc := 82) (j := 4) (v := _ + 1) (L2 := [(0, _), (1, _), (2, _), (3, _), (4, _), (5, _)]) C dX8_nextTo_82 rfl rfl (by decide) rfl ?_
                  refine g_goto (pc := 85) (tgt := 6) C dX8_nextTo_85 (by decide) ?_
                  refine pm_drop (L := [(0, _), (1, _), (2, _), (3, _), (4, _)]) ?_ [0, 1, 2, 3, 4] rfl
                  refine pm_Geq (ih hlt) ?_ rfl rfl rfl
                  simp only [nI_1, List.cons.injEq, Prod.mk.injEq, Value.int.injEq, and_true, true_and]
                  clear C C2 ih
                  have e0 := nI_eq (a := j) (b := i) (by omega) (by omega)
                  first | replace h34 : md I a j 2 = md I a i 2 := h34 | replace h34 : ¬ (md I a j 2 = md I a i 2) := h34 | skip
                  try rw [pm_b_1] at h45
                  try rw [pm_b_1] at h72
                  clear h12 hat ha hn
                  generalize md I a = B at *
                  have e2 : i ≠ j → (¬ bl_over B j i ↔ bl_over B i j) := fun q => bl_over_tot (fun z => q z.symm)
                  cases ho : bl_nextA B i j with
                  | none =>
                    rw [bl_nextA_none ho]
                    try rw [ho] at h61
                    try rw [ho] at em
                    clear hj h6 hi hlt hj6
                    split <;> first | rfl | (exfalso; grind [bl_enc]) | grind [bl_enc]
                  | some m0 =>
                    rw [bl_nextA_some ho]
                    have e3 := nI_pos (n := m0) (by have := bl_nextA_lt ho; omega)
                    have e5 : m0 ≠ j → (¬ bl_over B m0 j ↔ bl_over B j m0) := fun q => bl_over_tot q
                    have e6 : m0 ≠ j := by have := bl_nextA_lt ho; omega
                    try rw [ho] at h61
                    try rw [ho] at em
                    clear hj h6 hi hlt hj6
                    split <;> first | rfl | (exfalso; grind [bl_enc]) | grind [bl_enc]
  refine g_bipush (pc := 0) (v := (-3)) C dX8_nextTo_0 (by decide) ?_
  refine g_istore_n (pc := 2) (i := 3) (L2 := [(0, _), (1, _), (2, _), (3, _)]) C dX8_nextTo_2 rfl (by decide) rfl ?_
  refine g_iconst (pc := 3) (v := 0) C dX8_nextTo_3 (by decide) ?_
  refine g_istore (pc := 4) (L2 := [(0, _), (1, _), (2, _), (3, _), (4, _)]) C dX8_nextTo_4 (by decide) rfl ?_
  refine pm_Geq (hloop 0 (Nat.zero_le _)) ?_ rfl ?_ ?_ <;> first | rfl | grind

set_option maxHeartbeats 4000000 in
set_option maxRecDepth 100000 in
theorem c_X8_nextB {d : Nat} {I : pm_I} {J : pm_J} {a : Nat} (hat : I 102 6 = nI a) (ha : a ≤ 43) {n : Nat} (hn : I 102 2 = nI n) (h6 : n ≤ 6) {i : Nat} (hi : i < 6) : pm_M (d + 2) 0 0 yX8_nextTo cX8_nextTo 6 (some .int) [.ref 102, .int (nI i), .int 0] SHP I J (pm_D (some (.int (bl_enc (bl_nextB (md I a) i n)))) SHP I J) := by
  refine pm_start (own := RX8) (nm := "nextTo") (by decide) rfl rfl (L := [(0, .ref 102), (1, .int (nI i)), (2, .int 0)]) rfl (Nat.le_of_ble_eq_true rfl) (fun Γ C C2 => ?_)
  have hloop : ∀ j, j ≤ n → pm_G Γ 0 0 6 [(0, .ref 102), (1, .int (nI i)), (2, .int 0), (3, .int (bl_enc (bl_nextB (md I a) i j))), (4, .int (nI j))] [] SHP I J := by
    refine pm_up (fun j => pm_G Γ 0 0 6 [(0, .ref 102), (1, .int (nI i)), (2, .int 0), (3, .int (bl_enc (bl_nextB (md I a) i j))), (4, .int (nI j))] [] SHP I J) n (fun j hj ih => ?_)
    refine g_iload (pc := 6) (j := 4) C dX8_nextTo_6 rfl ?_
    refine g_aload_n (pc := 8) (i := 0) (j := 0) C dX8_nextTo_8 rfl rfl ?_
    refine g_getI (pc := 9) C dX8_nextTo_9 lfX8_82 (by first | rfl | assumption) rfl ?_
    refine g_icmp_ge (pc := 12) (tgt := 88) C dX8_nextTo_12 (by decide) (fun h12 => ?_) (fun h12 => ?_)
    · have ej : j = n := by (try rw [hn] at h12); have := (nI_leI (a := n) (b := j) (by omega) (by omega)).mp h12; omega
      subst ej
      refine g_iload_n (pc := 88) (i := 3) (j := 3) C dX8_nextTo_88 rfl rfl ?_
      refine g_iret (pc := 89) C C2 dX8_nextTo_89 rfl (Nat.le_refl _) (Nat.le_refl _) ?_
      exact ⟨rfl, rfl, rfl, rfl⟩
    · have hlt : j < n := by (try rw [hn] at h12); exact Nat.lt_of_not_le (fun q => h12 ((nI_leI (a := n) (b := j) (by omega) (by omega)).mpr q))
      have hj6 : j < 6 := by omega
      refine g_iload (pc := 15) (j := 4) C dX8_nextTo_15 rfl ?_
      refine g_iload_n (pc := 17) (i := 1) (j := 1) C dX8_nextTo_17 rfl rfl ?_
      refine g_icmp_eq (pc := 18) (tgt := 52) C dX8_nextTo_18 (by decide) (fun h18 => ?_) (fun h18 => ?_)
      · refine g_iconst (pc := 52) (v := 0) C dX8_nextTo_52 (by decide) ?_
        refine g_istore (pc := 53) (L2 := [(0, _), (1, _), (2, _), (3, _), (4, _), (5, _)]) C dX8_nextTo_53 (by decide) rfl ?_
        refine g_iload (pc := 55) (j := 5) C dX8_nextTo_55 rfl ?_
        refine g_if_eq (pc := 57) (tgt := 80) C dX8_nextTo_57 (by decide) (fun h57 => ?_) (fun h57 => ?_)
        · refine g_iload_n (pc := 80) (i := 3) (j := 3) C dX8_nextTo_80 rfl rfl ?_
          refine g_istore_n (pc := 81) (i := 3) (L2 := [(0, _), (1, _), (2, _), (3, _), (4, _), (5, _)]) C dX8_nextTo_81 rfl (by decide) rfl ?_
          refine g_iinc (pc := 82) (j := 4) (v := _ + 1) (L2 := [(0, _), (1, _), (2, _), (3, _), (4, _), (5, _)]) C dX8_nextTo_82 rfl rfl (by decide) rfl ?_
          refine g_goto (pc := 85) (tgt := 6) C dX8_nextTo_85 (by decide) ?_
          refine pm_drop (L := [(0, _), (1, _), (2, _), (3, _), (4, _)]) ?_ [0, 1, 2, 3, 4] rfl
          refine pm_Geq (ih hlt) ?_ rfl rfl rfl
          simp only [nI_1, List.cons.injEq, Prod.mk.injEq, Value.int.injEq, and_true, true_and]
          clear C C2 ih
          have e0 := nI_eq (a := j) (b := i) (by omega) (by omega)
          first | replace h34 : md I a j 2 = md I a i 2 := h34 | replace h34 : ¬ (md I a j 2 = md I a i 2) := h34 | skip
          try rw [pm_b_0] at h45
          try rw [pm_b_0] at h72
          clear h12 hat ha hn
          generalize md I a = B at *
          have e2 : i ≠ j → (¬ bl_over B j i ↔ bl_over B i j) := fun q => bl_over_tot (fun z => q z.symm)
          cases ho : bl_nextB B i j with
          | none =>
            rw [bl_nextB_none ho]
            try rw [ho] at h61
            try rw [ho] at em
            clear hj h6 hi hlt hj6
            split <;> first | rfl | (exfalso; grind [bl_enc]) | grind [bl_enc]
          | some m0 =>
            rw [bl_nextB_some ho]
            have e3 := nI_pos (n := m0) (by have := bl_nextB_lt ho; omega)
            have e5 : m0 ≠ j → (¬ bl_over B m0 j ↔ bl_over B j m0) := fun q => bl_over_tot q
            have e6 : m0 ≠ j := by have := bl_nextB_lt ho; omega
            try rw [ho] at h61
            try rw [ho] at em
            clear hj h6 hi hlt hj6
            split <;> first | rfl | (exfalso; grind [bl_enc]) | grind [bl_enc]
        · refine g_iload_n (pc := 60) (i := 3) (j := 3) C dX8_nextTo_60 rfl rfl ?_
          refine g_if_lt (pc := 61) (tgt := 75) C dX8_nextTo_61 (by decide) (fun h61 => ?_) (fun h61 => ?_)
          · refine g_iload (pc := 75) (j := 4) C dX8_nextTo_75 rfl ?_
            refine g_goto (pc := 77) (tgt := 81) C dX8_nextTo_77 (by decide) ?_
            refine g_istore_n (pc := 81) (i := 3) (L2 := [(0, _), (1, _), (2, _), (3, _), (4, _), (5, _)]) C dX8_nextTo_81 rfl (by decide) rfl ?_
            refine g_iinc (pc := 82) (j := 4) (v := _ + 1) (L2 := [(0, _), (1, _), (2, _), (3, _), (4, _), (5, _)]) C dX8_nextTo_82 rfl rfl (by decide) rfl ?_
            refine g_goto (pc := 85) (tgt := 6) C dX8_nextTo_85 (by decide) ?_
            refine pm_drop (L := [(0, _), (1, _), (2, _), (3, _), (4, _)]) ?_ [0, 1, 2, 3, 4] rfl
            refine pm_Geq (ih hlt) ?_ rfl rfl rfl
            simp only [nI_1, List.cons.injEq, Prod.mk.injEq, Value.int.injEq, and_true, true_and]
            clear C C2 ih
            have e0 := nI_eq (a := j) (b := i) (by omega) (by omega)
            first | replace h34 : md I a j 2 = md I a i 2 := h34 | replace h34 : ¬ (md I a j 2 = md I a i 2) := h34 | skip
            try rw [pm_b_0] at h45
            try rw [pm_b_0] at h72
            clear h12 hat ha hn
            generalize md I a = B at *
            have e2 : i ≠ j → (¬ bl_over B j i ↔ bl_over B i j) := fun q => bl_over_tot (fun z => q z.symm)
            cases ho : bl_nextB B i j with
            | none =>
              rw [bl_nextB_none ho]
              try rw [ho] at h61
              try rw [ho] at em
              clear hj h6 hi hlt hj6
              split <;> first | rfl | (exfalso; grind [bl_enc]) | grind [bl_enc]
            | some m0 =>
              rw [bl_nextB_some ho]
              have e3 := nI_pos (n := m0) (by have := bl_nextB_lt ho; omega)
              have e5 : m0 ≠ j → (¬ bl_over B m0 j ↔ bl_over B j m0) := fun q => bl_over_tot q
              have e6 : m0 ≠ j := by have := bl_nextB_lt ho; omega
              try rw [ho] at h61
              try rw [ho] at em
              clear hj h6 hi hlt hj6
              split <;> first | rfl | (exfalso; grind [bl_enc]) | grind [bl_enc]
          · obtain ⟨m, em⟩ := bl_enc_some (fun q => h61 (by rw [q]; decide))
            have hm6 : m < 6 := by have := bl_nextB_lt em; omega
            simp only [em, bl_enc]
            refine g_aload_n (pc := 64) (i := 0) (j := 0) C dX8_nextTo_64 rfl rfl ?_
            refine g_iload_n (pc := 65) (i := 3) (j := 3) C dX8_nextTo_65 rfl rfl ?_
            refine g_iload (pc := 66) (j := 4) C dX8_nextTo_66 rfl ?_
            refine g_callV (pc := 68) C dX8_nextTo_68 lmX8_246 kcX8_isOver (by decide) (by first | rfl | assumption) (c_X8_isOver hat ha hm6 hj6) rfl rfl (Nat.le_of_ble_eq_true rfl) ?_
            intro r9 sh9 I9 J9 hD9; obtain ⟨rfl, rfl, rfl, rfl⟩ := pm_Dq hD9; clear hD9
            try simp only [Option.toList_some, Option.toList_none, List.cons_append, List.nil_append]
            refine g_iload_n (pc := 71) (i := 2) (j := 2) C dX8_nextTo_71 rfl rfl ?_
            refine g_icmp_ne (pc := 72) (tgt := 80) C dX8_nextTo_72 (by decide) (fun h72 => ?_) (fun h72 => ?_)
            · refine g_iload_n (pc := 80) (i := 3) (j := 3) C dX8_nextTo_80 rfl rfl ?_
              refine g_istore_n (pc := 81) (i := 3) (L2 := [(0, _), (1, _), (2, _), (3, _), (4, _), (5, _)]) C dX8_nextTo_81 rfl (by decide) rfl ?_
              refine g_iinc (pc := 82) (j := 4) (v := _ + 1) (L2 := [(0, _), (1, _), (2, _), (3, _), (4, _), (5, _)]) C dX8_nextTo_82 rfl rfl (by decide) rfl ?_
              refine g_goto (pc := 85) (tgt := 6) C dX8_nextTo_85 (by decide) ?_
              refine pm_drop (L := [(0, _), (1, _), (2, _), (3, _), (4, _)]) ?_ [0, 1, 2, 3, 4] rfl
              refine pm_Geq (ih hlt) ?_ rfl rfl rfl
              simp only [nI_1, List.cons.injEq, Prod.mk.injEq, Value.int.injEq, and_true, true_and]
              clear C C2 ih
              have e0 := nI_eq (a := j) (b := i) (by omega) (by omega)
              first | replace h34 : md I a j 2 = md I a i 2 := h34 | replace h34 : ¬ (md I a j 2 = md I a i 2) := h34 | skip
              try rw [pm_b_0] at h45
              try rw [pm_b_0] at h72
              clear h12 hat ha hn
              generalize md I a = B at *
              have e2 : i ≠ j → (¬ bl_over B j i ↔ bl_over B i j) := fun q => bl_over_tot (fun z => q z.symm)
              cases ho : bl_nextB B i j with
              | none =>
                rw [bl_nextB_none ho]
                try rw [ho] at h61
                try rw [ho] at em
                clear hj h6 hi hlt hj6
                split <;> first | rfl | (exfalso; grind [bl_enc]) | grind [bl_enc]
              | some m0 =>
                rw [bl_nextB_some ho]
                have e3 := nI_pos (n := m0) (by have := bl_nextB_lt ho; omega)
                have e5 : m0 ≠ j → (¬ bl_over B m0 j ↔ bl_over B j m0) := fun q => bl_over_tot q
                have e6 : m0 ≠ j := by have := bl_nextB_lt ho; omega
                try rw [ho] at h61
                try rw [ho] at em
                clear hj h6 hi hlt hj6
                split <;> first | rfl | (exfalso; grind [bl_enc]) | grind [bl_enc]
            · refine g_iload (pc := 75) (j := 4) C dX8_nextTo_75 rfl ?_
              refine g_goto (pc := 77) (tgt := 81) C dX8_nextTo_77 (by decide) ?_
              refine g_istore_n (pc := 81) (i := 3) (L2 := [(0, _), (1, _), (2, _), (3, _), (4, _), (5, _)]) C dX8_nextTo_81 rfl (by decide) rfl ?_
              refine g_iinc (pc := 82) (j := 4) (v := _ + 1) (L2 := [(0, _), (1, _), (2, _), (3, _), (4, _), (5, _)]) C dX8_nextTo_82 rfl rfl (by decide) rfl ?_
              refine g_goto (pc := 85) (tgt := 6) C dX8_nextTo_85 (by decide) ?_
              refine pm_drop (L := [(0, _), (1, _), (2, _), (3, _), (4, _)]) ?_ [0, 1, 2, 3, 4] rfl
              refine pm_Geq (ih hlt) ?_ rfl rfl rfl
              simp only [nI_1, List.cons.injEq, Prod.mk.injEq, Value.int.injEq, and_true, true_and]
              clear C C2 ih
              have e0 := nI_eq (a := j) (b := i) (by omega) (by omega)
              first | replace h34 : md I a j 2 = md I a i 2 := h34 | replace h34 : ¬ (md I a j 2 = md I a i 2) := h34 | skip
              try rw [pm_b_0] at h45
              try rw [pm_b_0] at h72
              clear h12 hat ha hn
              generalize md I a = B at *
              have e2 : i ≠ j → (¬ bl_over B j i ↔ bl_over B i j) := fun q => bl_over_tot (fun z => q z.symm)
              cases ho : bl_nextB B i j with
              | none =>
                rw [bl_nextB_none ho]
                try rw [ho] at h61
                try rw [ho] at em
                clear hj h6 hi hlt hj6
                split <;> first | rfl | (exfalso; grind [bl_enc]) | grind [bl_enc]
              | some m0 =>
                rw [bl_nextB_some ho]
                have e3 := nI_pos (n := m0) (by have := bl_nextB_lt ho; omega)
                have e5 : m0 ≠ j → (¬ bl_over B m0 j ↔ bl_over B j m0) := fun q => bl_over_tot q
                have e6 : m0 ≠ j := by have := bl_nextB_lt ho; omega
                try rw [ho] at h61
                try rw [ho] at em
                clear hj h6 hi hlt hj6
                split <;> first | rfl | (exfalso; grind [bl_enc]) | grind [bl_enc]
      · refine g_aload_n (pc := 21) (i := 0) (j := 0) C dX8_nextTo_21 rfl rfl ?_
        refine g_iload (pc := 22) (j := 4) C dX8_nextTo_22 rfl ?_
        refine g_iconst (pc := 24) (v := 1) C dX8_nextTo_24 (by decide) ?_
        refine g_callV (pc := 25) C dX8_nextTo_25 lmX8_219 kcX8_its (by decide) (by first | rfl | assumption) (c_X8_its (p := 1) hat ha hj6 (by decide)) rfl rfl (Nat.le_of_ble_eq_true rfl) ?_
        intro r9 sh9 I9 J9 hD9; obtain ⟨rfl, rfl, rfl, rfl⟩ := pm_Dq hD9; clear hD9
        try simp only [Option.toList_some, Option.toList_none, List.cons_append, List.nil_append]
        refine g_aload_n (pc := 28) (i := 0) (j := 0) C dX8_nextTo_28 rfl rfl ?_
        refine g_iload_n (pc := 29) (i := 1) (j := 1) C dX8_nextTo_29 rfl rfl ?_
        refine g_iconst (pc := 30) (v := 1) C dX8_nextTo_30 (by decide) ?_
        refine g_callV (pc := 31) C dX8_nextTo_31 lmX8_219 kcX8_its (by decide) (by first | rfl | assumption) (c_X8_its (p := 1) hat ha hi (by decide)) rfl rfl (Nat.le_of_ble_eq_true rfl) ?_
        intro r9 sh9 I9 J9 hD9; obtain ⟨rfl, rfl, rfl, rfl⟩ := pm_Dq hD9; clear hD9
        try simp only [Option.toList_some, Option.toList_none, List.cons_append, List.nil_append]
        refine g_icmp_ne (pc := 34) (tgt := 52) C dX8_nextTo_34 (by decide) (fun h34 => ?_) (fun h34 => ?_)
        · refine g_iconst (pc := 52) (v := 0) C dX8_nextTo_52 (by decide) ?_
          refine g_istore (pc := 53) (L2 := [(0, _), (1, _), (2, _), (3, _), (4, _), (5, _)]) C dX8_nextTo_53 (by decide) rfl ?_
          refine g_iload (pc := 55) (j := 5) C dX8_nextTo_55 rfl ?_
          refine g_if_eq (pc := 57) (tgt := 80) C dX8_nextTo_57 (by decide) (fun h57 => ?_) (fun h57 => ?_)
          · refine g_iload_n (pc := 80) (i := 3) (j := 3) C dX8_nextTo_80 rfl rfl ?_
            refine g_istore_n (pc := 81) (i := 3) (L2 := [(0, _), (1, _), (2, _), (3, _), (4, _), (5, _)]) C dX8_nextTo_81 rfl (by decide) rfl ?_
            refine g_iinc (pc := 82) (j := 4) (v := _ + 1) (L2 := [(0, _), (1, _), (2, _), (3, _), (4, _), (5, _)]) C dX8_nextTo_82 rfl rfl (by decide) rfl ?_
            refine g_goto (pc := 85) (tgt := 6) C dX8_nextTo_85 (by decide) ?_
            refine pm_drop (L := [(0, _), (1, _), (2, _), (3, _), (4, _)]) ?_ [0, 1, 2, 3, 4] rfl
            refine pm_Geq (ih hlt) ?_ rfl rfl rfl
            simp only [nI_1, List.cons.injEq, Prod.mk.injEq, Value.int.injEq, and_true, true_and]
            clear C C2 ih
            have e0 := nI_eq (a := j) (b := i) (by omega) (by omega)
            first | replace h34 : md I a j 2 = md I a i 2 := h34 | replace h34 : ¬ (md I a j 2 = md I a i 2) := h34 | skip
            try rw [pm_b_0] at h45
            try rw [pm_b_0] at h72
            clear h12 hat ha hn
            generalize md I a = B at *
            have e2 : i ≠ j → (¬ bl_over B j i ↔ bl_over B i j) := fun q => bl_over_tot (fun z => q z.symm)
            cases ho : bl_nextB B i j with
            | none =>
              rw [bl_nextB_none ho]
              try rw [ho] at h61
              try rw [ho] at em
              clear hj h6 hi hlt hj6
              split <;> first | rfl | (exfalso; grind [bl_enc]) | grind [bl_enc]
            | some m0 =>
              rw [bl_nextB_some ho]
              have e3 := nI_pos (n := m0) (by have := bl_nextB_lt ho; omega)
              have e5 : m0 ≠ j → (¬ bl_over B m0 j ↔ bl_over B j m0) := fun q => bl_over_tot q
              have e6 : m0 ≠ j := by have := bl_nextB_lt ho; omega
              try rw [ho] at h61
              try rw [ho] at em
              clear hj h6 hi hlt hj6
              split <;> first | rfl | (exfalso; grind [bl_enc]) | grind [bl_enc]
          · refine g_iload_n (pc := 60) (i := 3) (j := 3) C dX8_nextTo_60 rfl rfl ?_
            refine g_if_lt (pc := 61) (tgt := 75) C dX8_nextTo_61 (by decide) (fun h61 => ?_) (fun h61 => ?_)
            · refine g_iload (pc := 75) (j := 4) C dX8_nextTo_75 rfl ?_
              refine g_goto (pc := 77) (tgt := 81) C dX8_nextTo_77 (by decide) ?_
              refine g_istore_n (pc := 81) (i := 3) (L2 := [(0, _), (1, _), (2, _), (3, _), (4, _), (5, _)]) C dX8_nextTo_81 rfl (by decide) rfl ?_
              refine g_iinc (pc := 82) (j := 4) (v := _ + 1) (L2 := [(0, _), (1, _), (2, _), (3, _), (4, _), (5, _)]) C dX8_nextTo_82 rfl rfl (by decide) rfl ?_
              refine g_goto (pc := 85) (tgt := 6) C dX8_nextTo_85 (by decide) ?_
              refine pm_drop (L := [(0, _), (1, _), (2, _), (3, _), (4, _)]) ?_ [0, 1, 2, 3, 4] rfl
              refine pm_Geq (ih hlt) ?_ rfl rfl rfl
              simp only [nI_1, List.cons.injEq, Prod.mk.injEq, Value.int.injEq, and_true, true_and]
              clear C C2 ih
              have e0 := nI_eq (a := j) (b := i) (by omega) (by omega)
              first | replace h34 : md I a j 2 = md I a i 2 := h34 | replace h34 : ¬ (md I a j 2 = md I a i 2) := h34 | skip
              try rw [pm_b_0] at h45
              try rw [pm_b_0] at h72
              clear h12 hat ha hn
              generalize md I a = B at *
              have e2 : i ≠ j → (¬ bl_over B j i ↔ bl_over B i j) := fun q => bl_over_tot (fun z => q z.symm)
              cases ho : bl_nextB B i j with
              | none =>
                rw [bl_nextB_none ho]
                try rw [ho] at h61
                try rw [ho] at em
                clear hj h6 hi hlt hj6
                split <;> first | rfl | (exfalso; grind [bl_enc]) | grind [bl_enc]
              | some m0 =>
                rw [bl_nextB_some ho]
                have e3 := nI_pos (n := m0) (by have := bl_nextB_lt ho; omega)
                have e5 : m0 ≠ j → (¬ bl_over B m0 j ↔ bl_over B j m0) := fun q => bl_over_tot q
                have e6 : m0 ≠ j := by have := bl_nextB_lt ho; omega
                try rw [ho] at h61
                try rw [ho] at em
                clear hj h6 hi hlt hj6
                split <;> first | rfl | (exfalso; grind [bl_enc]) | grind [bl_enc]
            · obtain ⟨m, em⟩ := bl_enc_some (fun q => h61 (by rw [q]; decide))
              have hm6 : m < 6 := by have := bl_nextB_lt em; omega
              simp only [em, bl_enc]
              refine g_aload_n (pc := 64) (i := 0) (j := 0) C dX8_nextTo_64 rfl rfl ?_
              refine g_iload_n (pc := 65) (i := 3) (j := 3) C dX8_nextTo_65 rfl rfl ?_
              refine g_iload (pc := 66) (j := 4) C dX8_nextTo_66 rfl ?_
              refine g_callV (pc := 68) C dX8_nextTo_68 lmX8_246 kcX8_isOver (by decide) (by first | rfl | assumption) (c_X8_isOver hat ha hm6 hj6) rfl rfl (Nat.le_of_ble_eq_true rfl) ?_
              intro r9 sh9 I9 J9 hD9; obtain ⟨rfl, rfl, rfl, rfl⟩ := pm_Dq hD9; clear hD9
              try simp only [Option.toList_some, Option.toList_none, List.cons_append, List.nil_append]
              refine g_iload_n (pc := 71) (i := 2) (j := 2) C dX8_nextTo_71 rfl rfl ?_
              refine g_icmp_ne (pc := 72) (tgt := 80) C dX8_nextTo_72 (by decide) (fun h72 => ?_) (fun h72 => ?_)
              · refine g_iload_n (pc := 80) (i := 3) (j := 3) C dX8_nextTo_80 rfl rfl ?_
                refine g_istore_n (pc := 81) (i := 3) (L2 := [(0, _), (1, _), (2, _), (3, _), (4, _), (5, _)]) C dX8_nextTo_81 rfl (by decide) rfl ?_
                refine g_iinc (pc := 82) (j := 4) (v := _ + 1) (L2 := [(0, _), (1, _), (2, _), (3, _), (4, _), (5, _)]) C dX8_nextTo_82 rfl rfl (by decide) rfl ?_
                refine g_goto (pc := 85) (tgt := 6) C dX8_nextTo_85 (by decide) ?_
                refine pm_drop (L := [(0, _), (1, _), (2, _), (3, _), (4, _)]) ?_ [0, 1, 2, 3, 4] rfl
                refine pm_Geq (ih hlt) ?_ rfl rfl rfl
                simp only [nI_1, List.cons.injEq, Prod.mk.injEq, Value.int.injEq, and_true, true_and]
                clear C C2 ih
                have e0 := nI_eq (a := j) (b := i) (by omega) (by omega)
                first | replace h34 : md I a j 2 = md I a i 2 := h34 | replace h34 : ¬ (md I a j 2 = md I a i 2) := h34 | skip
                try rw [pm_b_0] at h45
                try rw [pm_b_0] at h72
                clear h12 hat ha hn
                generalize md I a = B at *
                have e2 : i ≠ j → (¬ bl_over B j i ↔ bl_over B i j) := fun q => bl_over_tot (fun z => q z.symm)
                cases ho : bl_nextB B i j with
                | none =>
                  rw [bl_nextB_none ho]
                  try rw [ho] at h61
                  try rw [ho] at em
                  clear hj h6 hi hlt hj6
                  split <;> first | rfl | (exfalso; grind [bl_enc]) | grind [bl_enc]
                | some m0 =>
                  rw [bl_nextB_some ho]
                  have e3 := nI_pos (n := m0) (by have := bl_nextB_lt ho; omega)
                  have e5 : m0 ≠ j → (¬ bl_over B m0 j ↔ bl_over B j m0) := fun q => bl_over_tot q
                  have e6 : m0 ≠ j := by have := bl_nextB_lt ho; omega
                  try rw [ho] at h61
                  try rw [ho] at em
                  clear hj h6 hi hlt hj6
                  split <;> first | rfl | (exfalso; grind [bl_enc]) | grind [bl_enc]
              · refine g_iload (pc := 75) (j := 4) C dX8_nextTo_75 rfl ?_
                refine g_goto (pc := 77) (tgt := 81) C dX8_nextTo_77 (by decide) ?_
                refine g_istore_n (pc := 81) (i := 3) (L2 := [(0, _), (1, _), (2, _), (3, _), (4, _), (5, _)]) C dX8_nextTo_81 rfl (by decide) rfl ?_
                refine g_iinc (pc := 82) (j := 4) (v := _ + 1) (L2 := [(0, _), (1, _), (2, _), (3, _), (4, _), (5, _)]) C dX8_nextTo_82 rfl rfl (by decide) rfl ?_
                refine g_goto (pc := 85) (tgt := 6) C dX8_nextTo_85 (by decide) ?_
                refine pm_drop (L := [(0, _), (1, _), (2, _), (3, _), (4, _)]) ?_ [0, 1, 2, 3, 4] rfl
                refine pm_Geq (ih hlt) ?_ rfl rfl rfl
                simp only [nI_1, List.cons.injEq, Prod.mk.injEq, Value.int.injEq, and_true, true_and]
                clear C C2 ih
                have e0 := nI_eq (a := j) (b := i) (by omega) (by omega)
                first | replace h34 : md I a j 2 = md I a i 2 := h34 | replace h34 : ¬ (md I a j 2 = md I a i 2) := h34 | skip
                try rw [pm_b_0] at h45
                try rw [pm_b_0] at h72
                clear h12 hat ha hn
                generalize md I a = B at *
                have e2 : i ≠ j → (¬ bl_over B j i ↔ bl_over B i j) := fun q => bl_over_tot (fun z => q z.symm)
                cases ho : bl_nextB B i j with
                | none =>
                  rw [bl_nextB_none ho]
                  try rw [ho] at h61
                  try rw [ho] at em
                  clear hj h6 hi hlt hj6
                  split <;> first | rfl | (exfalso; grind [bl_enc]) | grind [bl_enc]
                | some m0 =>
                  rw [bl_nextB_some ho]
                  have e3 := nI_pos (n := m0) (by have := bl_nextB_lt ho; omega)
                  have e5 : m0 ≠ j → (¬ bl_over B m0 j ↔ bl_over B j m0) := fun q => bl_over_tot q
                  have e6 : m0 ≠ j := by have := bl_nextB_lt ho; omega
                  try rw [ho] at h61
                  try rw [ho] at em
                  clear hj h6 hi hlt hj6
                  split <;> first | rfl | (exfalso; grind [bl_enc]) | grind [bl_enc]
        · refine g_aload_n (pc := 37) (i := 0) (j := 0) C dX8_nextTo_37 rfl rfl ?_
          refine g_iload (pc := 38) (j := 4) C dX8_nextTo_38 rfl ?_
          refine g_iload_n (pc := 40) (i := 1) (j := 1) C dX8_nextTo_40 rfl rfl ?_
          refine g_callV (pc := 41) C dX8_nextTo_41 lmX8_246 kcX8_isOver (by decide) (by first | rfl | assumption) (c_X8_isOver hat ha hj6 hi) rfl rfl (Nat.le_of_ble_eq_true rfl) ?_
          intro r9 sh9 I9 J9 hD9; obtain ⟨rfl, rfl, rfl, rfl⟩ := pm_Dq hD9; clear hD9
          try simp only [Option.toList_some, Option.toList_none, List.cons_append, List.nil_append]
          refine g_iload_n (pc := 44) (i := 2) (j := 2) C dX8_nextTo_44 rfl rfl ?_
          refine g_icmp_ne (pc := 45) (tgt := 52) C dX8_nextTo_45 (by decide) (fun h45 => ?_) (fun h45 => ?_)
          · refine g_iconst (pc := 52) (v := 0) C dX8_nextTo_52 (by decide) ?_
            refine g_istore (pc := 53) (L2 := [(0, _), (1, _), (2, _), (3, _), (4, _), (5, _)]) C dX8_nextTo_53 (by decide) rfl ?_
            refine g_iload (pc := 55) (j := 5) C dX8_nextTo_55 rfl ?_
            refine g_if_eq (pc := 57) (tgt := 80) C dX8_nextTo_57 (by decide) (fun h57 => ?_) (fun h57 => ?_)
            · refine g_iload_n (pc := 80) (i := 3) (j := 3) C dX8_nextTo_80 rfl rfl ?_
              refine g_istore_n (pc := 81) (i := 3) (L2 := [(0, _), (1, _), (2, _), (3, _), (4, _), (5, _)]) C dX8_nextTo_81 rfl (by decide) rfl ?_
              refine g_iinc (pc := 82) (j := 4) (v := _ + 1) (L2 := [(0, _), (1, _), (2, _), (3, _), (4, _), (5, _)]) C dX8_nextTo_82 rfl rfl (by decide) rfl ?_
              refine g_goto (pc := 85) (tgt := 6) C dX8_nextTo_85 (by decide) ?_
              refine pm_drop (L := [(0, _), (1, _), (2, _), (3, _), (4, _)]) ?_ [0, 1, 2, 3, 4] rfl
              refine pm_Geq (ih hlt) ?_ rfl rfl rfl
              simp only [nI_1, List.cons.injEq, Prod.mk.injEq, Value.int.injEq, and_true, true_and]
              clear C C2 ih
              have e0 := nI_eq (a := j) (b := i) (by omega) (by omega)
              first | replace h34 : md I a j 2 = md I a i 2 := h34 | replace h34 : ¬ (md I a j 2 = md I a i 2) := h34 | skip
              try rw [pm_b_0] at h45
              try rw [pm_b_0] at h72
              clear h12 hat ha hn
              generalize md I a = B at *
              have e2 : i ≠ j → (¬ bl_over B j i ↔ bl_over B i j) := fun q => bl_over_tot (fun z => q z.symm)
              cases ho : bl_nextB B i j with
              | none =>
                rw [bl_nextB_none ho]
                try rw [ho] at h61
                try rw [ho] at em
                clear hj h6 hi hlt hj6
                split <;> first | rfl | (exfalso; grind [bl_enc]) | grind [bl_enc]
              | some m0 =>
                rw [bl_nextB_some ho]
                have e3 := nI_pos (n := m0) (by have := bl_nextB_lt ho; omega)
                have e5 : m0 ≠ j → (¬ bl_over B m0 j ↔ bl_over B j m0) := fun q => bl_over_tot q
                have e6 : m0 ≠ j := by have := bl_nextB_lt ho; omega
                try rw [ho] at h61
                try rw [ho] at em
                clear hj h6 hi hlt hj6
                split <;> first | rfl | (exfalso; grind [bl_enc]) | grind [bl_enc]
            · refine g_iload_n (pc := 60) (i := 3) (j := 3) C dX8_nextTo_60 rfl rfl ?_
              refine g_if_lt (pc := 61) (tgt := 75) C dX8_nextTo_61 (by decide) (fun h61 => ?_) (fun h61 => ?_)
              · refine g_iload (pc := 75) (j := 4) C dX8_nextTo_75 rfl ?_
                refine g_goto (pc := 77) (tgt := 81) C dX8_nextTo_77 (by decide) ?_
                refine g_istore_n (pc := 81) (i := 3) (L2 := [(0, _), (1, _), (2, _), (3, _), (4, _), (5, _)]) C dX8_nextTo_81 rfl (by decide) rfl ?_
                refine g_iinc (pc := 82) (j := 4) (v := _ + 1) (L2 := [(0, _), (1, _), (2, _), (3, _), (4, _), (5, _)]) C dX8_nextTo_82 rfl rfl (by decide) rfl ?_
                refine g_goto (pc := 85) (tgt := 6) C dX8_nextTo_85 (by decide) ?_
                refine pm_drop (L := [(0, _), (1, _), (2, _), (3, _), (4, _)]) ?_ [0, 1, 2, 3, 4] rfl
                refine pm_Geq (ih hlt) ?_ rfl rfl rfl
                simp only [nI_1, List.cons.injEq, Prod.mk.injEq, Value.int.injEq, and_true, true_and]
                clear C C2 ih
                have e0 := nI_eq (a := j) (b := i) (by omega) (by omega)
                first | replace h34 : md I a j 2 = md I a i 2 := h34 | replace h34 : ¬ (md I a j 2 = md I a i 2) := h34 | skip
                try rw [pm_b_0] at h45
                try rw [pm_b_0] at h72
                clear h12 hat ha hn
                generalize md I a = B at *
                have e2 : i ≠ j → (¬ bl_over B j i ↔ bl_over B i j) := fun q => bl_over_tot (fun z => q z.symm)
                cases ho : bl_nextB B i j with
                | none =>
                  rw [bl_nextB_none ho]
                  try rw [ho] at h61
                  try rw [ho] at em
                  clear hj h6 hi hlt hj6
                  split <;> first | rfl | (exfalso; grind [bl_enc]) | grind [bl_enc]
                | some m0 =>
                  rw [bl_nextB_some ho]
                  have e3 := nI_pos (n := m0) (by have := bl_nextB_lt ho; omega)
                  have e5 : m0 ≠ j → (¬ bl_over B m0 j ↔ bl_over B j m0) := fun q => bl_over_tot q
                  have e6 : m0 ≠ j := by have := bl_nextB_lt ho; omega
                  try rw [ho] at h61
                  try rw [ho] at em
                  clear hj h6 hi hlt hj6
                  split <;> first | rfl | (exfalso; grind [bl_enc]) | grind [bl_enc]
              · obtain ⟨m, em⟩ := bl_enc_some (fun q => h61 (by rw [q]; decide))
                have hm6 : m < 6 := by have := bl_nextB_lt em; omega
                simp only [em, bl_enc]
                refine g_aload_n (pc := 64) (i := 0) (j := 0) C dX8_nextTo_64 rfl rfl ?_
                refine g_iload_n (pc := 65) (i := 3) (j := 3) C dX8_nextTo_65 rfl rfl ?_
                refine g_iload (pc := 66) (j := 4) C dX8_nextTo_66 rfl ?_
                refine g_callV (pc := 68) C dX8_nextTo_68 lmX8_246 kcX8_isOver (by decide) (by first | rfl | assumption) (c_X8_isOver hat ha hm6 hj6) rfl rfl (Nat.le_of_ble_eq_true rfl) ?_
                intro r9 sh9 I9 J9 hD9; obtain ⟨rfl, rfl, rfl, rfl⟩ := pm_Dq hD9; clear hD9
                try simp only [Option.toList_some, Option.toList_none, List.cons_append, List.nil_append]
                refine g_iload_n (pc := 71) (i := 2) (j := 2) C dX8_nextTo_71 rfl rfl ?_
                refine g_icmp_ne (pc := 72) (tgt := 80) C dX8_nextTo_72 (by decide) (fun h72 => ?_) (fun h72 => ?_)
                · refine g_iload_n (pc := 80) (i := 3) (j := 3) C dX8_nextTo_80 rfl rfl ?_
                  refine g_istore_n (pc := 81) (i := 3) (L2 := [(0, _), (1, _), (2, _), (3, _), (4, _), (5, _)]) C dX8_nextTo_81 rfl (by decide) rfl ?_
                  refine g_iinc (pc := 82) (j := 4) (v := _ + 1) (L2 := [(0, _), (1, _), (2, _), (3, _), (4, _), (5, _)]) C dX8_nextTo_82 rfl rfl (by decide) rfl ?_
                  refine g_goto (pc := 85) (tgt := 6) C dX8_nextTo_85 (by decide) ?_
                  refine pm_drop (L := [(0, _), (1, _), (2, _), (3, _), (4, _)]) ?_ [0, 1, 2, 3, 4] rfl
                  refine pm_Geq (ih hlt) ?_ rfl rfl rfl
                  simp only [nI_1, List.cons.injEq, Prod.mk.injEq, Value.int.injEq, and_true, true_and]
                  clear C C2 ih
                  have e0 := nI_eq (a := j) (b := i) (by omega) (by omega)
                  first | replace h34 : md I a j 2 = md I a i 2 := h34 | replace h34 : ¬ (md I a j 2 = md I a i 2) := h34 | skip
                  try rw [pm_b_0] at h45
                  try rw [pm_b_0] at h72
                  clear h12 hat ha hn
                  generalize md I a = B at *
                  have e2 : i ≠ j → (¬ bl_over B j i ↔ bl_over B i j) := fun q => bl_over_tot (fun z => q z.symm)
                  cases ho : bl_nextB B i j with
                  | none =>
                    rw [bl_nextB_none ho]
                    try rw [ho] at h61
                    try rw [ho] at em
                    clear hj h6 hi hlt hj6
                    split <;> first | rfl | (exfalso; grind [bl_enc]) | grind [bl_enc]
                  | some m0 =>
                    rw [bl_nextB_some ho]
                    have e3 := nI_pos (n := m0) (by have := bl_nextB_lt ho; omega)
                    have e5 : m0 ≠ j → (¬ bl_over B m0 j ↔ bl_over B j m0) := fun q => bl_over_tot q
                    have e6 : m0 ≠ j := by have := bl_nextB_lt ho; omega
                    try rw [ho] at h61
                    try rw [ho] at em
                    clear hj h6 hi hlt hj6
                    split <;> first | rfl | (exfalso; grind [bl_enc]) | grind [bl_enc]
                · refine g_iload (pc := 75) (j := 4) C dX8_nextTo_75 rfl ?_
                  refine g_goto (pc := 77) (tgt := 81) C dX8_nextTo_77 (by decide) ?_
                  refine g_istore_n (pc := 81) (i := 3) (L2 := [(0, _), (1, _), (2, _), (3, _), (4, _), (5, _)]) C dX8_nextTo_81 rfl (by decide) rfl ?_
                  refine g_iinc (pc := 82) (j := 4) (v := _ + 1) (L2 := [(0, _), (1, _), (2, _), (3, _), (4, _), (5, _)]) C dX8_nextTo_82 rfl rfl (by decide) rfl ?_
                  refine g_goto (pc := 85) (tgt := 6) C dX8_nextTo_85 (by decide) ?_
                  refine pm_drop (L := [(0, _), (1, _), (2, _), (3, _), (4, _)]) ?_ [0, 1, 2, 3, 4] rfl
                  refine pm_Geq (ih hlt) ?_ rfl rfl rfl
                  simp only [nI_1, List.cons.injEq, Prod.mk.injEq, Value.int.injEq, and_true, true_and]
                  clear C C2 ih
                  have e0 := nI_eq (a := j) (b := i) (by omega) (by omega)
                  first | replace h34 : md I a j 2 = md I a i 2 := h34 | replace h34 : ¬ (md I a j 2 = md I a i 2) := h34 | skip
                  try rw [pm_b_0] at h45
                  try rw [pm_b_0] at h72
                  clear h12 hat ha hn
                  generalize md I a = B at *
                  have e2 : i ≠ j → (¬ bl_over B j i ↔ bl_over B i j) := fun q => bl_over_tot (fun z => q z.symm)
                  cases ho : bl_nextB B i j with
                  | none =>
                    rw [bl_nextB_none ho]
                    try rw [ho] at h61
                    try rw [ho] at em
                    clear hj h6 hi hlt hj6
                    split <;> first | rfl | (exfalso; grind [bl_enc]) | grind [bl_enc]
                  | some m0 =>
                    rw [bl_nextB_some ho]
                    have e3 := nI_pos (n := m0) (by have := bl_nextB_lt ho; omega)
                    have e5 : m0 ≠ j → (¬ bl_over B m0 j ↔ bl_over B j m0) := fun q => bl_over_tot q
                    have e6 : m0 ≠ j := by have := bl_nextB_lt ho; omega
                    try rw [ho] at h61
                    try rw [ho] at em
                    clear hj h6 hi hlt hj6
                    split <;> first | rfl | (exfalso; grind [bl_enc]) | grind [bl_enc]
          · refine g_iconst (pc := 48) (v := 1) C dX8_nextTo_48 (by decide) ?_
            refine g_goto (pc := 49) (tgt := 53) C dX8_nextTo_49 (by decide) ?_
            refine g_istore (pc := 53) (L2 := [(0, _), (1, _), (2, _), (3, _), (4, _), (5, _)]) C dX8_nextTo_53 (by decide) rfl ?_
            refine g_iload (pc := 55) (j := 5) C dX8_nextTo_55 rfl ?_
            refine g_if_eq (pc := 57) (tgt := 80) C dX8_nextTo_57 (by decide) (fun h57 => ?_) (fun h57 => ?_)
            · refine g_iload_n (pc := 80) (i := 3) (j := 3) C dX8_nextTo_80 rfl rfl ?_
              refine g_istore_n (pc := 81) (i := 3) (L2 := [(0, _), (1, _), (2, _), (3, _), (4, _), (5, _)]) C dX8_nextTo_81 rfl (by decide) rfl ?_
              refine g_iinc (pc := 82) (j := 4) (v := _ + 1) (L2 := [(0, _), (1, _), (2, _), (3, _), (4, _), (5, _)]) C dX8_nextTo_82 rfl rfl (by decide) rfl ?_
              refine g_goto (pc := 85) (tgt := 6) C dX8_nextTo_85 (by decide) ?_
              refine pm_drop (L := [(0, _), (1, _), (2, _), (3, _), (4, _)]) ?_ [0, 1, 2, 3, 4] rfl
              refine pm_Geq (ih hlt) ?_ rfl rfl rfl
              simp only [nI_1, List.cons.injEq, Prod.mk.injEq, Value.int.injEq, and_true, true_and]
              clear C C2 ih
              have e0 := nI_eq (a := j) (b := i) (by omega) (by omega)
              first | replace h34 : md I a j 2 = md I a i 2 := h34 | replace h34 : ¬ (md I a j 2 = md I a i 2) := h34 | skip
              try rw [pm_b_0] at h45
              try rw [pm_b_0] at h72
              clear h12 hat ha hn
              generalize md I a = B at *
              have e2 : i ≠ j → (¬ bl_over B j i ↔ bl_over B i j) := fun q => bl_over_tot (fun z => q z.symm)
              cases ho : bl_nextB B i j with
              | none =>
                rw [bl_nextB_none ho]
                try rw [ho] at h61
                try rw [ho] at em
                clear hj h6 hi hlt hj6
                split <;> first | rfl | (exfalso; grind [bl_enc]) | grind [bl_enc]
              | some m0 =>
                rw [bl_nextB_some ho]
                have e3 := nI_pos (n := m0) (by have := bl_nextB_lt ho; omega)
                have e5 : m0 ≠ j → (¬ bl_over B m0 j ↔ bl_over B j m0) := fun q => bl_over_tot q
                have e6 : m0 ≠ j := by have := bl_nextB_lt ho; omega
                try rw [ho] at h61
                try rw [ho] at em
                clear hj h6 hi hlt hj6
                split <;> first | rfl | (exfalso; grind [bl_enc]) | grind [bl_enc]
            · refine g_iload_n (pc := 60) (i := 3) (j := 3) C dX8_nextTo_60 rfl rfl ?_
              refine g_if_lt (pc := 61) (tgt := 75) C dX8_nextTo_61 (by decide) (fun h61 => ?_) (fun h61 => ?_)
              · refine g_iload (pc := 75) (j := 4) C dX8_nextTo_75 rfl ?_
                refine g_goto (pc := 77) (tgt := 81) C dX8_nextTo_77 (by decide) ?_
                refine g_istore_n (pc := 81) (i := 3) (L2 := [(0, _), (1, _), (2, _), (3, _), (4, _), (5, _)]) C dX8_nextTo_81 rfl (by decide) rfl ?_
                refine g_iinc (pc := 82) (j := 4) (v := _ + 1) (L2 := [(0, _), (1, _), (2, _), (3, _), (4, _), (5, _)]) C dX8_nextTo_82 rfl rfl (by decide) rfl ?_
                refine g_goto (pc := 85) (tgt := 6) C dX8_nextTo_85 (by decide) ?_
                refine pm_drop (L := [(0, _), (1, _), (2, _), (3, _), (4, _)]) ?_ [0, 1, 2, 3, 4] rfl
                refine pm_Geq (ih hlt) ?_ rfl rfl rfl
                simp only [nI_1, List.cons.injEq, Prod.mk.injEq, Value.int.injEq, and_true, true_and]
                clear C C2 ih
                have e0 := nI_eq (a := j) (b := i) (by omega) (by omega)
                first | replace h34 : md I a j 2 = md I a i 2 := h34 | replace h34 : ¬ (md I a j 2 = md I a i 2) := h34 | skip
                try rw [pm_b_0] at h45
                try rw [pm_b_0] at h72
                clear h12 hat ha hn
                generalize md I a = B at *
                have e2 : i ≠ j → (¬ bl_over B j i ↔ bl_over B i j) := fun q => bl_over_tot (fun z => q z.symm)
                cases ho : bl_nextB B i j with
                | none =>
                  rw [bl_nextB_none ho]
                  try rw [ho] at h61
                  try rw [ho] at em
                  clear hj h6 hi hlt hj6
                  split <;> first | rfl | (exfalso; grind [bl_enc]) | grind [bl_enc]
                | some m0 =>
                  rw [bl_nextB_some ho]
                  have e3 := nI_pos (n := m0) (by have := bl_nextB_lt ho; omega)
                  have e5 : m0 ≠ j → (¬ bl_over B m0 j ↔ bl_over B j m0) := fun q => bl_over_tot q
                  have e6 : m0 ≠ j := by have := bl_nextB_lt ho; omega
                  try rw [ho] at h61
                  try rw [ho] at em
                  clear hj h6 hi hlt hj6
                  split <;> first | rfl | (exfalso; grind [bl_enc]) | grind [bl_enc]
              · obtain ⟨m, em⟩ := bl_enc_some (fun q => h61 (by rw [q]; decide))
                have hm6 : m < 6 := by have := bl_nextB_lt em; omega
                simp only [em, bl_enc]
                refine g_aload_n (pc := 64) (i := 0) (j := 0) C dX8_nextTo_64 rfl rfl ?_
                refine g_iload_n (pc := 65) (i := 3) (j := 3) C dX8_nextTo_65 rfl rfl ?_
                refine g_iload (pc := 66) (j := 4) C dX8_nextTo_66 rfl ?_
                refine g_callV (pc := 68) C dX8_nextTo_68 lmX8_246 kcX8_isOver (by decide) (by first | rfl | assumption) (c_X8_isOver hat ha hm6 hj6) rfl rfl (Nat.le_of_ble_eq_true rfl) ?_
                intro r9 sh9 I9 J9 hD9; obtain ⟨rfl, rfl, rfl, rfl⟩ := pm_Dq hD9; clear hD9
                try simp only [Option.toList_some, Option.toList_none, List.cons_append, List.nil_append]
                refine g_iload_n (pc := 71) (i := 2) (j := 2) C dX8_nextTo_71 rfl rfl ?_
                refine g_icmp_ne (pc := 72) (tgt := 80) C dX8_nextTo_72 (by decide) (fun h72 => ?_) (fun h72 => ?_)
                · refine g_iload_n (pc := 80) (i := 3) (j := 3) C dX8_nextTo_80 rfl rfl ?_
                  refine g_istore_n (pc := 81) (i := 3) (L2 := [(0, _), (1, _), (2, _), (3, _), (4, _), (5, _)]) C dX8_nextTo_81 rfl (by decide) rfl ?_
                  refine g_iinc (pc := 82) (j := 4) (v := _ + 1) (L2 := [(0, _), (1, _), (2, _), (3, _), (4, _), (5, _)]) C dX8_nextTo_82 rfl rfl (by decide) rfl ?_
                  refine g_goto (pc := 85) (tgt := 6) C dX8_nextTo_85 (by decide) ?_
                  refine pm_drop (L := [(0, _), (1, _), (2, _), (3, _), (4, _)]) ?_ [0, 1, 2, 3, 4] rfl
                  refine pm_Geq (ih hlt) ?_ rfl rfl rfl
                  simp only [nI_1, List.cons.injEq, Prod.mk.injEq, Value.int.injEq, and_true, true_and]
                  clear C C2 ih
                  have e0 := nI_eq (a := j) (b := i) (by omega) (by omega)
                  first | replace h34 : md I a j 2 = md I a i 2 := h34 | replace h34 : ¬ (md I a j 2 = md I a i 2) := h34 | skip
                  try rw [pm_b_0] at h45
                  try rw [pm_b_0] at h72
                  clear h12 hat ha hn
                  generalize md I a = B at *
                  have e2 : i ≠ j → (¬ bl_over B j i ↔ bl_over B i j) := fun q => bl_over_tot (fun z => q z.symm)
                  cases ho : bl_nextB B i j with
                  | none =>
                    rw [bl_nextB_none ho]
                    try rw [ho] at h61
                    try rw [ho] at em
                    clear hj h6 hi hlt hj6
                    split <;> first | rfl | (exfalso; grind [bl_enc]) | grind [bl_enc]
                  | some m0 =>
                    rw [bl_nextB_some ho]
                    have e3 := nI_pos (n := m0) (by have := bl_nextB_lt ho; omega)
                    have e5 : m0 ≠ j → (¬ bl_over B m0 j ↔ bl_over B j m0) := fun q => bl_over_tot q
                    have e6 : m0 ≠ j := by have := bl_nextB_lt ho; omega
                    try rw [ho] at h61
                    try rw [ho] at em
                    clear hj h6 hi hlt hj6
                    split <;> first | rfl | (exfalso; grind [bl_enc]) | grind [bl_enc]
                · refine g_iload (pc := 75) (j := 4) C dX8_nextTo_75 rfl ?_
                  refine g_goto (pc := 77) (tgt := 81) C dX8_nextTo_77 (by decide) ?_
                  refine g_istore_n (pc := 81) (i := 3) (L2 := [(0, _), (1, _), (2, _), (3, _), (4, _), (5, _)]) C dX8_nextTo_81 rfl (by decide) rfl ?_
                  refine g_iinc (pc := 82) (j := 4) (v := _ + 1) (L2 := [(0, _), (1, _), (2, _), (3, _), (4, _), (5, _)]) C dX8_nextTo_82 rfl rfl (by decide) rfl ?_
                  refine g_goto (pc := 85) (tgt := 6) C dX8_nextTo_85 (by decide) ?_
                  refine pm_drop (L := [(0, _), (1, _), (2, _), (3, _), (4, _)]) ?_ [0, 1, 2, 3, 4] rfl
                  refine pm_Geq (ih hlt) ?_ rfl rfl rfl
                  simp only [nI_1, List.cons.injEq, Prod.mk.injEq, Value.int.injEq, and_true, true_and]
                  clear C C2 ih
                  have e0 := nI_eq (a := j) (b := i) (by omega) (by omega)
                  first | replace h34 : md I a j 2 = md I a i 2 := h34 | replace h34 : ¬ (md I a j 2 = md I a i 2) := h34 | skip
                  try rw [pm_b_0] at h45
                  try rw [pm_b_0] at h72
                  clear h12 hat ha hn
                  generalize md I a = B at *
                  have e2 : i ≠ j → (¬ bl_over B j i ↔ bl_over B i j) := fun q => bl_over_tot (fun z => q z.symm)
                  cases ho : bl_nextB B i j with
                  | none =>
                    rw [bl_nextB_none ho]
                    try rw [ho] at h61
                    try rw [ho] at em
                    clear hj h6 hi hlt hj6
                    split <;> first | rfl | (exfalso; grind [bl_enc]) | grind [bl_enc]
                  | some m0 =>
                    rw [bl_nextB_some ho]
                    have e3 := nI_pos (n := m0) (by have := bl_nextB_lt ho; omega)
                    have e5 : m0 ≠ j → (¬ bl_over B m0 j ↔ bl_over B j m0) := fun q => bl_over_tot q
                    have e6 : m0 ≠ j := by have := bl_nextB_lt ho; omega
                    try rw [ho] at h61
                    try rw [ho] at em
                    clear hj h6 hi hlt hj6
                    split <;> first | rfl | (exfalso; grind [bl_enc]) | grind [bl_enc]
  refine g_bipush (pc := 0) (v := (-3)) C dX8_nextTo_0 (by decide) ?_
  refine g_istore_n (pc := 2) (i := 3) (L2 := [(0, _), (1, _), (2, _), (3, _)]) C dX8_nextTo_2 rfl (by decide) rfl ?_
  refine g_iconst (pc := 3) (v := 0) C dX8_nextTo_3 (by decide) ?_
  refine g_istore (pc := 4) (L2 := [(0, _), (1, _), (2, _), (3, _), (4, _)]) C dX8_nextTo_4 (by decide) rfl ?_
  refine pm_Geq (hloop 0 (Nat.zero_le _)) ?_ rfl ?_ ?_ <;> first | rfl | grind
