/-! What will be: the public methods over the trial -/
theorem tr_sj_congr {B B2 Hf Hf2 : Nat → Nat → Int32} {gap : Int32} {k n i : Nat} (hi : i < n) (hB : ∀ b, b < n → B b 2 = B2 b 2) (hH : ∀ b, b < n → Hf b k = Hf2 b k) : ∀ r, r ≤ n → tr_sj B Hf gap k n i r = tr_sj B2 Hf2 gap k n i r
  | 0, _ => rfl
  | r + 1, hr => by
    unfold tr_sj
    rw [tr_sj_congr hi hB hH r (by omega), hB i hi, hH i hi, hB (n - (r + 1)) (by omega), hH (n - (r + 1)) (by omega)]
theorem tr_si_congr {B B2 Hf Hf2 : Nat → Nat → Int32} {gap : Int32} {k n : Nat} (hB : ∀ b, b < n → B b 2 = B2 b 2) (hH : ∀ b, b < n → Hf b k = Hf2 b k) : ∀ r, r ≤ n → tr_si B Hf gap k n r = tr_si B2 Hf2 gap k n r
  | 0, _ => rfl
  | r + 1, hr => by
    unfold tr_si
    rw [tr_sj_congr (by omega) hB hH r (by omega), tr_si_congr hB hH r (by omega)]
theorem tr_s1_congr {B B2 Hf Hf2 : Nat → Nat → Int32} {gap : Int32} {k n : Nat} (hB : ∀ b, b < n → B b 2 = B2 b 2) (hH : ∀ b, b < n → Hf b k = Hf2 b k) : ∀ r, r ≤ n → tr_s1 B Hf gap n k r = tr_s1 B2 Hf2 gap n k r
  | 0, _ => rfl
  | r + 1, hr => by
    unfold tr_s1
    rw [tr_s1_congr hB hH r (by omega), hB r (by omega), tr_ti_congr (by omega) hB hH n (Nat.le_refl _)]
theorem tr_s2_congr {B B2 Hf Hf2 : Nat → Nat → Int32} {gap : Int32} {n : Nat} (hB : ∀ b, b < n → B b 2 = B2 b 2) : ∀ m, (∀ k, k ≤ m → ∀ b, b < n → Hf b k = Hf2 b k) → tr_s2 B Hf gap n m = tr_s2 B2 Hf2 gap n m
  | 0, _ => rfl
  | m + 1, hH => by
    unfold tr_s2
    rw [tr_s2_congr hB m (fun k hk => hH k (by omega)), tr_s1_congr hB (hH (m + 1) (Nat.le_refl _)) n (Nat.le_refl _)]
/-- the heights to come -/
abbrev tr_H (I : pm_I) (c : Int32) (t b k : Nat) : Int32 := tr_ev (I 2) c t (bl_L I b) k 3
abbrev tr_Ti (I : pm_I) (c : Int32) (t n i : Nat) (col : Int32) (k : Nat) : Nat := tr_ti (bl_L I) (tr_H I c t) (I 1 4) i col k n
abbrev tr_Si (I : pm_I) (c : Int32) (t n k : Nat) : Int32 := tr_si (bl_L I) (tr_H I c t) (I 1 4) k n n
abbrev tr_CI (I : pm_I) (c : Int32) (t m n i : Nat) (col : Int32) : Prop := ∀ k, k < m + 1 → tr_Ti I c t n i col k = 0
abbrev tr_CW (I : pm_I) (t m n i p : Nat) (v : Int32) : Prop := ∀ k, k < m + 1 → tr_ti (bl_L I) (tr_hw (tr_H I 0 t) i (tr_ev (I 2) 0 t (upd (bl_L I i) p v))) (I 1 4) i (bl_L I i 2) k n = 0
/-- the first of N for which P holds, shown by f; d: none; r are left to look at -/
def tr_sr (P : Nat → Prop) [DecidablePred P] (f : Nat → Int32) (d : Int32) (N : Nat) : Nat → Int32
  | 0 => d
  | r + 1 => if P (N - (r + 1)) then f (N - (r + 1)) else tr_sr P f d N r
theorem tr_sr_step {P : Nat → Prop} [DecidablePred P] {f : Nat → Int32} {d : Int32} {N j : Nat} (h : j < N) : tr_sr P f d N (N - j) = if P j then f j else tr_sr P f d N (N - (j + 1)) := by
  have e : N - j = (N - (j + 1)) + 1 := by omega
  rw [e, tr_sr, show N - (N - (j + 1) + 1) = j by omega]
theorem tr_sr_congr {P P2 : Nat → Prop} [DecidablePred P] [DecidablePred P2] {f f2 : Nat → Int32} {d : Int32} {N : Nat} (hP : ∀ j, j < N → (P j ↔ P2 j)) (hf : ∀ j, j < N → P j → f j = f2 j) : ∀ r, r ≤ N → tr_sr P f d N r = tr_sr P2 f2 d N r
  | 0, _ => rfl
  | r + 1, hr => by
    unfold tr_sr
    rw [tr_sr_congr hP hf r (by omega)]
    have h1 := hP (N - (r + 1)) (by omega)
    have h2 := hf (N - (r + 1)) (by omega)
    by_cases q : P (N - (r + 1))
    · rw [if_pos q, if_pos (h1.mp q), h2 q]
    · rw [if_neg q, if_neg (fun z => q (h1.mpr z))]
/-- behind a run: the town's balloons, gap, the heights -/
theorem tr_In_facts {I I2 : pm_I} {t m n : Nat} {c : Int32} (h : tr_In I t m c n I2) (h6 : n ≤ 6) : I2 1 = I 1 ∧ I2 2 = I 2 ∧ (∀ b, b < n → bl_L I2 b = bl_L I b) ∧ (∀ b, b < n → ∀ k, k ≤ m → I2 (52 + b) k = tr_H I c t b k) :=
  ⟨h.1 1 (by decide), h.1 2 (by decide), fun b hb => h.1 (5 + 2 * b) (by omega), fun b hb k hk => (h.2.2.2 b hb k hk).1⟩
theorem tr_In_Ti {I I2 : pm_I} {t m n i k : Nat} {c col : Int32} (h : tr_In I t m c n I2) (h6 : n ≤ 6) (hi : i < n) : tr_ti (bl_L I2) (tr_H I c t) (I2 1 4) i col k n = tr_Ti I c t n i col k := by
  obtain ⟨e1, -, e3, -⟩ := tr_In_facts h h6
  rw [e1]
  exact tr_ti_congr hi (fun b hb => by rw [e3 b hb]) (fun b hb => rfl) n (Nat.le_refl _)
theorem tr_In_Si {I I2 : pm_I} {t m n k : Nat} {c : Int32} (h : tr_In I t m c n I2) (h6 : n ≤ 6) : tr_si (bl_L I2) (tr_H I c t) (I2 1 4) k n n = tr_Si I c t n k := by
  obtain ⟨e1, -, e3, -⟩ := tr_In_facts h h6
  rw [e1]
  exact tr_si_congr (fun b hb => by rw [e3 b hb]) (fun b hb => rfl) n (Nat.le_refl _)
def tr_hi (H : Nat → Int32) : Nat → Option Nat
  | 0 => none
  | k + 1 => match tr_hi H k with
    | none => some k
    | some b => if H b < H k then some k else some b
theorem tr_hi_lt {H : Nat → Int32} {m : Nat} : ∀ {k : Nat}, tr_hi H k = some m → m < k
  | 0, h => by cases h
  | k + 1, h => by
    have ih := fun m' (h' : tr_hi H k = some m') => tr_hi_lt (m := m') h'
    grind [tr_hi]
theorem tr_off_trans {I I2 I3 : pm_I} (h1 : tr_off I I2) (h2 : tr_off I2 I3) : tr_off I I3 := fun a ha => (h2 a ha).trans (h1 a ha)
theorem tr_off_rf (I : pm_I) : tr_off I I := fun _ _ => rfl
theorem pm_leP {b n : Nat} (hb : b < n) (hn : n ≤ 100000) : nI b ≤ nI n - 1 := by
  obtain ⟨k, rfl⟩ : ∃ k, n = k + 1 := ⟨n - 1, by omega⟩
  rw [nI_pred]
  exact nI_le (by omega) (by omega)
set_option maxHeartbeats 4000000 in
set_option maxRecDepth 100000 in
theorem c_X7_height {d : Nat} {I : pm_I} {J : pm_J} {n : Nat} (hn : I 1 2 = nI n) (h6 : n ≤ 6) {t : Nat} (ht : I 1 3 = nI t) (ht96 : t ≤ 96) {b h : Nat} (hb : b < n) (hh : h ≤ 48) : pm_M (d + 6) 0 0 yX7_height cX7_height 3 (some .int) [.ref 0, .int (nI b), .int (nI h)] SHP I J (fun r sh2 I2 J2 => r = some (.int (tr_H I 0 t b (min h (96 - t)))) ∧ sh2 = SHP ∧ J2 = J ∧ tr_off I I2) := by
  refine pm_start (own := RX7) (nm := "height") (by decide) rfl rfl (L := [(0, .ref 0), (1, .int (nI b)), (2, .int (nI h))]) rfl (Nat.le_of_ble_eq_true rfl) (fun Γ C C2 => ?_)
  refine g_aload_n (pc := 0) (i := 0) (j := 0) C dX7_height_0 rfl rfl ?_
  refine g_getR (pc := 1) C dX7_height_1 lfX7_10 (by first | rfl | assumption) rfl ?_
  refine g_iload_n (pc := 4) (i := 1) (j := 1) C dX7_height_4 rfl rfl ?_
  refine g_callV (pc := 5) C dX7_height_5 lmX7_115 kcX5_has (by decide) (by first | rfl | assumption) (c_X5_has) rfl rfl (Nat.le_of_ble_eq_true rfl) ?_
  intro r9 sh9 I9 J9 hD9; obtain ⟨rfl, rfl, rfl, rfl⟩ := pm_Dq hD9
  try simp only [Option.toList_some, Option.toList_none, List.cons_append, List.nil_append]
  refine g_if_eqB (pc := 8) (tgt := 21) C dX7_height_8 (by decide) (fun h8 => absurd ⟨by exact nI_pos' (by omega), by rw [hn]; exact pm_leP hb (by omega)⟩ h8) (fun h8 => ?_)
  refine g_iload_n (pc := 11) (i := 2) (j := 2) C dX7_height_11 rfl rfl ?_
  refine g_iconst (pc := 12) (v := 0) C dX7_height_12 (by decide) ?_
  refine g_bipush (pc := 13) (v := 48) C dX7_height_13 (by decide) ?_
  refine g_callS (pc := 15) C dX7_height_15 lmX7_72 kcX7_within (by decide) (c_X7_within) rfl rfl (Nat.le_of_ble_eq_true rfl) ?_
  intro r9 sh9 I9 J9 hD9; obtain ⟨rfl, rfl, rfl, rfl⟩ := pm_Dq hD9
  try simp only [Option.toList_some, Option.toList_none, List.cons_append, List.nil_append]
  refine g_if_neB (pc := 18) (tgt := 23) C dX7_height_18 (by decide) (fun h18 => ?_) (fun h18 => absurd ⟨by exact nI_le (a := 0) (b := h) (by omega) (by omega), by exact nI_le (a := h) (b := 48) (by omega) (by decide)⟩ h18)
  refine g_aload_n (pc := 23) (i := 0) (j := 0) C dX7_height_23 rfl rfl ?_
  refine g_getR (pc := 24) C dX7_height_24 lfX7_38 (by first | rfl | assumption) rfl ?_
  refine g_iload_n (pc := 27) (i := 2) (j := 2) C dX7_height_27 rfl rfl ?_
  refine g_iconst (pc := 28) (v := 0) C dX7_height_28 (by decide) ?_
  refine g_callV (pc := 29) C dX7_height_29 lmX7_163 kcX6_run (by decide) (by first | rfl | assumption) (c_X6_run (t := t) (h := h) hn h6 ht ht96 hh) rfl rfl (Nat.le_of_ble_eq_true rfl) ?_
  rintro r9 sh9 I9 J9 ⟨e1, e2, e3, hI9⟩
  try simp only [Option.toList_some, Option.toList_none, List.cons_append, List.nil_append]
  subst e1 e2
  obtain rfl := e3.symm
  obtain ⟨f1, f2, f3, f4⟩ := tr_In_facts hI9 h6
  try simp only [Option.toList_none, List.nil_append]
  refine g_aload_n (pc := 32) (i := 0) (j := 0) C dX7_height_32 rfl rfl ?_
  refine g_getR (pc := 33) C dX7_height_33 lfX7_38 (by first | rfl | assumption) rfl ?_
  refine g_getR (pc := 36) C dX7_height_36 lfX7_167 (by first | rfl | assumption) rfl ?_
  refine g_iload_n (pc := 39) (i := 1) (j := 1) C dX7_height_39 rfl rfl ?_
  refine g_aald (pc := 40) C dX7_height_40 (by first | rfl | assumption) (fun _ => rfl) rfl (by decide) (by first | rfl | assumption) (rsH b (by omega)) ?_
  refine g_aload_n (pc := 41) (i := 0) (j := 0) C dX7_height_41 rfl rfl ?_
  refine g_getR (pc := 42) C dX7_height_42 lfX7_38 (by first | rfl | assumption) rfl ?_
  refine g_getI (pc := 45) C dX7_height_45 lfX7_170 (by first | rfl | assumption) rfl ?_
  refine g_iald (pc := 48) (j := min h (96 - t)) C dX7_height_48 (shH b (by omega)) (by decide) hI9.2.2.1 (by omega) ?_
  refine g_iret (pc := 49) C C2 dX7_height_49 rfl (Nat.le_refl _) (Nat.le_refl _) ?_
  exact ⟨by rw [f4 b hb _ (Nat.le_refl _)], rfl, rfl, hI9.1⟩

set_option maxHeartbeats 4000000 in
set_option maxRecDepth 100000 in
theorem c_X7_height0 {d : Nat} {x y : Int32} {I : pm_I} {J : pm_J} (hv : ¬ ((0 ≤ x ∧ x ≤ I 1 2 - 1) ∧ 0 ≤ y ∧ y ≤ 48)) : pm_M (d + 2) 0 0 yX7_height cX7_height 3 (some .int) [.ref 0, .int x, .int y] SHP I J (fun r sh2 I2 J2 => r = some (.int (-1)) ∧ sh2 = SHP ∧ J2 = J ∧ tr_off I I2) := by
  refine pm_start (own := RX7) (nm := "height") (by decide) rfl rfl (L := [(0, .ref 0), (1, .int x), (2, .int y)]) rfl (Nat.le_of_ble_eq_true rfl) (fun Γ C C2 => ?_)
  refine g_aload_n (pc := 0) (i := 0) (j := 0) C dX7_height_0 rfl rfl ?_
  refine g_getR (pc := 1) C dX7_height_1 lfX7_10 (by first | rfl | assumption) rfl ?_
  refine g_iload_n (pc := 4) (i := 1) (j := 1) C dX7_height_4 rfl rfl ?_
  refine g_callV (pc := 5) C dX7_height_5 lmX7_115 kcX5_has (by decide) (by first | rfl | assumption) (c_X5_has) rfl rfl (Nat.le_of_ble_eq_true rfl) ?_
  intro r9 sh9 I9 J9 hD9; obtain ⟨rfl, rfl, rfl, rfl⟩ := pm_Dq hD9
  try simp only [Option.toList_some, Option.toList_none, List.cons_append, List.nil_append]
  refine g_if_eqB (pc := 8) (tgt := 21) C dX7_height_8 (by decide) (fun h8 => ?_) (fun h8 => ?_)
  · refine g_iconst (pc := 21) (v := (-1)) C dX7_height_21 (by decide) ?_
    refine g_iret (pc := 22) C C2 dX7_height_22 rfl (Nat.le_refl _) (Nat.le_refl _) ?_
    exact ⟨rfl, rfl, rfl, tr_off_rf _⟩
  · refine g_iload_n (pc := 11) (i := 2) (j := 2) C dX7_height_11 rfl rfl ?_
    refine g_iconst (pc := 12) (v := 0) C dX7_height_12 (by decide) ?_
    refine g_bipush (pc := 13) (v := 48) C dX7_height_13 (by decide) ?_
    refine g_callS (pc := 15) C dX7_height_15 lmX7_72 kcX7_within (by decide) (c_X7_within) rfl rfl (Nat.le_of_ble_eq_true rfl) ?_
    intro r9 sh9 I9 J9 hD9; obtain ⟨rfl, rfl, rfl, rfl⟩ := pm_Dq hD9
    try simp only [Option.toList_some, Option.toList_none, List.cons_append, List.nil_append]
    refine g_if_neB (pc := 18) (tgt := 23) C dX7_height_18 (by decide) (fun h18 => ?_) (fun h18 => ?_)
    · exact absurd ⟨h8, h18⟩ hv
    · refine g_iconst (pc := 21) (v := (-1)) C dX7_height_21 (by decide) ?_
      refine g_iret (pc := 22) C C2 dX7_height_22 rfl (Nat.le_refl _) (Nat.le_refl _) ?_
      exact ⟨rfl, rfl, rfl, tr_off_rf _⟩

set_option maxHeartbeats 4000000 in
set_option maxRecDepth 100000 in
theorem c_X7_clear {d : Nat} {I : pm_I} {J : pm_J} {n : Nat} (hn : I 1 2 = nI n) (h6 : n ≤ 6) {t : Nat} (ht : I 1 3 = nI t) (ht96 : t ≤ 96) {b h : Nat} (hb : b < n) (hh : h ≤ 48) : pm_M (d + 6) 0 0 yX7_clear cX7_clear 3 (some .int) [.ref 0, .int (nI b), .int (nI h)] SHP I J (fun r sh2 I2 J2 => r = some (.int (pm_b (tr_CI I 0 t (min h (96 - t)) n b (bl_L I b 2)))) ∧ sh2 = SHP ∧ J2 = J ∧ tr_off I I2) := by
  refine pm_start (own := RX7) (nm := "clear") (by decide) rfl rfl (L := [(0, .ref 0), (1, .int (nI b)), (2, .int (nI h))]) rfl (Nat.le_of_ble_eq_true rfl) (fun Γ C C2 => ?_)
  refine g_aload_n (pc := 0) (i := 0) (j := 0) C dX7_clear_0 rfl rfl ?_
  refine g_getR (pc := 1) C dX7_clear_1 lfX7_10 (by first | rfl | assumption) rfl ?_
  refine g_iload_n (pc := 4) (i := 1) (j := 1) C dX7_clear_4 rfl rfl ?_
  refine g_callV (pc := 5) C dX7_clear_5 lmX7_115 kcX5_has (by decide) (by first | rfl | assumption) (c_X5_has) rfl rfl (Nat.le_of_ble_eq_true rfl) ?_
  intro r9 sh9 I9 J9 hD9; obtain ⟨rfl, rfl, rfl, rfl⟩ := pm_Dq hD9
  try simp only [Option.toList_some, Option.toList_none, List.cons_append, List.nil_append]
  refine g_if_eqB (pc := 8) (tgt := 21) C dX7_clear_8 (by decide) (fun h8 => absurd ⟨by exact nI_pos' (by omega), by rw [hn]; exact pm_leP hb (by omega)⟩ h8) (fun h8 => ?_)
  refine g_iload_n (pc := 11) (i := 2) (j := 2) C dX7_clear_11 rfl rfl ?_
  refine g_iconst (pc := 12) (v := 0) C dX7_clear_12 (by decide) ?_
  refine g_bipush (pc := 13) (v := 48) C dX7_clear_13 (by decide) ?_
  refine g_callS (pc := 15) C dX7_clear_15 lmX7_72 kcX7_within (by decide) (c_X7_within) rfl rfl (Nat.le_of_ble_eq_true rfl) ?_
  intro r9 sh9 I9 J9 hD9; obtain ⟨rfl, rfl, rfl, rfl⟩ := pm_Dq hD9
  try simp only [Option.toList_some, Option.toList_none, List.cons_append, List.nil_append]
  refine g_if_neB (pc := 18) (tgt := 23) C dX7_clear_18 (by decide) (fun h18 => ?_) (fun h18 => absurd ⟨by exact nI_le (a := 0) (b := h) (by omega) (by omega), by exact nI_le (a := h) (b := 48) (by omega) (by decide)⟩ h18)
  refine g_aload_n (pc := 23) (i := 0) (j := 0) C dX7_clear_23 rfl rfl ?_
  refine g_getR (pc := 24) C dX7_clear_24 lfX7_38 (by first | rfl | assumption) rfl ?_
  refine g_iload_n (pc := 27) (i := 2) (j := 2) C dX7_clear_27 rfl rfl ?_
  refine g_iconst (pc := 28) (v := 0) C dX7_clear_28 (by decide) ?_
  refine g_callV (pc := 29) C dX7_clear_29 lmX7_163 kcX6_run (by decide) (by first | rfl | assumption) (c_X6_run (t := t) (h := h) hn h6 ht ht96 hh) rfl rfl (Nat.le_of_ble_eq_true rfl) ?_
  rintro r9 sh9 I9 J9 ⟨e1, e2, e3, hI9⟩
  try simp only [Option.toList_some, Option.toList_none, List.cons_append, List.nil_append]
  subst e1 e2
  obtain rfl := e3.symm
  obtain ⟨f1, f2, f3, f4⟩ := tr_In_facts hI9 h6
  try simp only [Option.toList_none, List.nil_append]
  have sB := shB b (by omega)
  have sP := shP b (by omega)
  refine g_aload_n (pc := 32) (i := 0) (j := 0) C dX7_clear_32 rfl rfl ?_
  refine g_getR (pc := 33) C dX7_clear_33 lfX7_38 (by first | rfl | assumption) rfl ?_
  refine g_iload_n (pc := 36) (i := 1) (j := 1) C dX7_clear_36 rfl rfl ?_
  refine g_aload_n (pc := 37) (i := 0) (j := 0) C dX7_clear_37 rfl rfl ?_
  refine g_getR (pc := 38) C dX7_clear_38 lfX7_10 (by first | rfl | assumption) rfl ?_
  refine g_getR (pc := 41) C dX7_clear_41 lfX7_118 (by first | rfl | assumption) rfl ?_
  refine g_iload_n (pc := 44) (i := 1) (j := 1) C dX7_clear_44 rfl rfl ?_
  refine g_aald (pc := 45) C dX7_clear_45 (by first | rfl | assumption) (fun _ => rfl) rfl (by decide) (by first | rfl | assumption) (rsB b (by omega)) ?_
  refine g_getR (pc := 46) C dX7_clear_46 lfX7_138 (by first | rfl | assumption) rfl ?_
  refine g_iconst (pc := 49) (v := 2) C dX7_clear_49 (by decide) ?_
  refine g_iald (pc := 50) C dX7_clear_50 (by first | rfl | assumption) (by decide) (by first | rfl | assumption) (by first | assumption | decide | omega) ?_
  refine g_callV (pc := 51) C dX7_clear_51 lmX7_176 kcX6_isClearIn (by decide) (by first | rfl | assumption) (c_X6_isClearIn (m := min h (96 - t)) (by rw [f1]; exact hn) h6 f4 hI9.2.2.1 hb (by omega)) rfl rfl (Nat.le_of_ble_eq_true rfl) ?_
  intro r9 sh9 I9 J9 hD9; obtain ⟨rfl, rfl, rfl, rfl⟩ := pm_Dq hD9
  try simp only [Option.toList_some, Option.toList_none, List.cons_append, List.nil_append]
  refine g_if_eqB (pc := 54) (tgt := 61) C dX7_clear_54 (by decide) (fun h54 => ?_) (fun h54 => ?_)
  · refine g_iconst (pc := 61) (v := 0) C dX7_clear_61 (by decide) ?_
    refine g_iret (pc := 62) C C2 dX7_clear_62 rfl (Nat.le_refl _) (Nat.le_refl _) ?_
    refine ⟨?_, rfl, rfl, hI9.1⟩
    have e9 : ∀ k, tr_ti (bl_L I9) (tr_H I 0 t) (I9 1 4) b (I9 (5 + 2 * b) 2) k n = tr_Ti I 0 t n b (bl_L I b 2) k := fun k => by rw [tr_In_Ti hI9 h6 hb, show I9 (5 + 2 * b) = bl_L I b from f3 b hb]
    simp only [e9] at h54
    unfold pm_b
    first | rw [if_pos h54] | rw [if_neg h54]
  · refine g_iconst (pc := 57) (v := 1) C dX7_clear_57 (by decide) ?_
    refine g_goto (pc := 58) (tgt := 62) C dX7_clear_58 (by decide) ?_
    refine g_iret (pc := 62) C C2 dX7_clear_62 rfl (Nat.le_refl _) (Nat.le_refl _) ?_
    refine ⟨?_, rfl, rfl, hI9.1⟩
    have e9 : ∀ k, tr_ti (bl_L I9) (tr_H I 0 t) (I9 1 4) b (I9 (5 + 2 * b) 2) k n = tr_Ti I 0 t n b (bl_L I b 2) k := fun k => by rw [tr_In_Ti hI9 h6 hb, show I9 (5 + 2 * b) = bl_L I b from f3 b hb]
    simp only [e9] at h54
    unfold pm_b
    first | rw [if_pos h54] | rw [if_neg h54]

set_option maxHeartbeats 4000000 in
set_option maxRecDepth 100000 in
theorem c_X7_clear0 {d : Nat} {x y : Int32} {I : pm_I} {J : pm_J} (hv : ¬ ((0 ≤ x ∧ x ≤ I 1 2 - 1) ∧ 0 ≤ y ∧ y ≤ 48)) : pm_M (d + 2) 0 0 yX7_clear cX7_clear 3 (some .int) [.ref 0, .int x, .int y] SHP I J (fun r sh2 I2 J2 => r = some (.int (-1)) ∧ sh2 = SHP ∧ J2 = J ∧ tr_off I I2) := by
  refine pm_start (own := RX7) (nm := "clear") (by decide) rfl rfl (L := [(0, .ref 0), (1, .int x), (2, .int y)]) rfl (Nat.le_of_ble_eq_true rfl) (fun Γ C C2 => ?_)
  refine g_aload_n (pc := 0) (i := 0) (j := 0) C dX7_clear_0 rfl rfl ?_
  refine g_getR (pc := 1) C dX7_clear_1 lfX7_10 (by first | rfl | assumption) rfl ?_
  refine g_iload_n (pc := 4) (i := 1) (j := 1) C dX7_clear_4 rfl rfl ?_
  refine g_callV (pc := 5) C dX7_clear_5 lmX7_115 kcX5_has (by decide) (by first | rfl | assumption) (c_X5_has) rfl rfl (Nat.le_of_ble_eq_true rfl) ?_
  intro r9 sh9 I9 J9 hD9; obtain ⟨rfl, rfl, rfl, rfl⟩ := pm_Dq hD9
  try simp only [Option.toList_some, Option.toList_none, List.cons_append, List.nil_append]
  refine g_if_eqB (pc := 8) (tgt := 21) C dX7_clear_8 (by decide) (fun h8 => ?_) (fun h8 => ?_)
  · refine g_iconst (pc := 21) (v := (-1)) C dX7_clear_21 (by decide) ?_
    refine g_iret (pc := 22) C C2 dX7_clear_22 rfl (Nat.le_refl _) (Nat.le_refl _) ?_
    exact ⟨rfl, rfl, rfl, tr_off_rf _⟩
  · refine g_iload_n (pc := 11) (i := 2) (j := 2) C dX7_clear_11 rfl rfl ?_
    refine g_iconst (pc := 12) (v := 0) C dX7_clear_12 (by decide) ?_
    refine g_bipush (pc := 13) (v := 48) C dX7_clear_13 (by decide) ?_
    refine g_callS (pc := 15) C dX7_clear_15 lmX7_72 kcX7_within (by decide) (c_X7_within) rfl rfl (Nat.le_of_ble_eq_true rfl) ?_
    intro r9 sh9 I9 J9 hD9; obtain ⟨rfl, rfl, rfl, rfl⟩ := pm_Dq hD9
    try simp only [Option.toList_some, Option.toList_none, List.cons_append, List.nil_append]
    refine g_if_neB (pc := 18) (tgt := 23) C dX7_clear_18 (by decide) (fun h18 => ?_) (fun h18 => ?_)
    · exact absurd ⟨h8, h18⟩ hv
    · refine g_iconst (pc := 21) (v := (-1)) C dX7_clear_21 (by decide) ?_
      refine g_iret (pc := 22) C C2 dX7_clear_22 rfl (Nat.le_refl _) (Nat.le_refl _) ?_
      exact ⟨rfl, rfl, rfl, tr_off_rf _⟩

set_option maxHeartbeats 4000000 in
set_option maxRecDepth 100000 in
theorem c_X7_first {d : Nat} {I : pm_I} {J : pm_J} {n : Nat} (hn : I 1 2 = nI n) (h6 : n ≤ 6) {t : Nat} (ht : I 1 3 = nI t) (ht96 : t ≤ 96) {w : Int32} (hw : 0 ≤ w ∧ w ≤ 1) : pm_M (d + 6) 0 0 yX7_first cX7_first 4 (some .int) [.ref 0, .int w] SHP I J (fun r sh2 I2 J2 => r = some (.int (tr_sr (fun k => ¬ tr_Si I 0 t n k = -3) (fun k => if w = 0 then nI k else tr_Si I 0 t n k) (-3) (min 48 (96 - t) + 1) (min 48 (96 - t) + 1))) ∧ sh2 = SHP ∧ J2 = J ∧ tr_off I I2) := by
  refine pm_start (own := RX7) (nm := "first") (by decide) rfl rfl (L := [(0, .ref 0), (1, .int w)]) rfl (Nat.le_of_ble_eq_true rfl) (fun Γ C C2 => ?_)
  generalize hm : min 48 (96 - t) = m at C2
  have hm48 : m ≤ 48 := by omega
  have hloop : ∀ j, j ≤ m + 1 → (tr_sr (fun k => ¬ tr_Si I 0 t n k = -3) (fun k => if w = 0 then nI k else tr_Si I 0 t n k) (-3) (m + 1) (m + 1) = tr_sr (fun k => ¬ tr_Si I 0 t n k = -3) (fun k => if w = 0 then nI k else tr_Si I 0 t n k) (-3) (m + 1) (m + 1 - j)) → ∀ I9, tr_In I t m 0 n I9 → pm_G Γ 0 0 23 [(0, .ref 0), (1, .int w), (2, .int (nI j))] [] SHP I9 J := by
    refine pm_up (fun j => (tr_sr (fun k => ¬ tr_Si I 0 t n k = -3) (fun k => if w = 0 then nI k else tr_Si I 0 t n k) (-3) (m + 1) (m + 1) = tr_sr (fun k => ¬ tr_Si I 0 t n k = -3) (fun k => if w = 0 then nI k else tr_Si I 0 t n k) (-3) (m + 1) (m + 1 - j)) → ∀ I9, tr_In I t m 0 n I9 → pm_G Γ 0 0 23 [(0, .ref 0), (1, .int w), (2, .int (nI j))] [] SHP I9 J) (m + 1) (fun j hj ih hR I9 hI9 => ?_)
    obtain ⟨f1, f2, f3, f4⟩ := tr_In_facts hI9 h6
    refine g_iload_n (pc := 23) (i := 2) (j := 2) C dX7_first_23 rfl rfl ?_
    refine g_aload_n (pc := 24) (i := 0) (j := 0) C dX7_first_24 rfl rfl ?_
    refine g_getR (pc := 25) C dX7_first_25 lfX7_38 (by first | rfl | assumption) rfl ?_
    refine g_getI (pc := 28) C dX7_first_28 lfX7_170 (by first | rfl | assumption) rfl ?_
    refine g_icmp_gt (pc := 31) (tgt := 65) C dX7_first_31 (by decide) (fun h31 => ?_) (fun h31 => ?_)
    · have ej : j = m + 1 := by rw [hI9.2.2.1] at h31; have := (nI_ltI (a := m) (b := j) (by omega) (by omega)).mp h31; omega
      subst ej
      refine g_bipush (pc := 65) (v := (-3)) C dX7_first_65 (by decide) ?_
      refine g_iret (pc := 67) C C2 dX7_first_67 rfl (Nat.le_refl _) (Nat.le_refl _) ?_
      refine ⟨?_, rfl, rfl, hI9.1⟩
      rw [hR, Nat.sub_self]
      rfl
    · have hjm : j ≤ m := by rw [hI9.2.2.1] at h31; exact Nat.le_of_not_lt (fun q => h31 ((nI_ltI (a := m) (b := j) (by omega) (by omega)).mpr q))
      refine g_aload_n (pc := 34) (i := 0) (j := 0) C dX7_first_34 rfl rfl ?_
      refine g_getR (pc := 35) C dX7_first_35 lfX7_38 (by first | rfl | assumption) rfl ?_
      refine g_iload_n (pc := 38) (i := 2) (j := 2) C dX7_first_38 rfl rfl ?_
      refine g_callV (pc := 39) C dX7_first_39 lmX7_173 kcX6_leastPair (by decide) (by first | rfl | assumption) (c_X6_leastPair (k := j) (m := m) (by rw [f1]; exact hn) h6 f4 hjm hm48) rfl rfl (Nat.le_of_ble_eq_true rfl) ?_
      intro r9 sh9 I9 J9 hD9; obtain ⟨rfl, rfl, rfl, rfl⟩ := pm_Dq hD9
      try simp only [Option.toList_some, Option.toList_none, List.cons_append, List.nil_append]
      rw [tr_In_Si hI9 h6]
      refine g_istore_n (pc := 42) (i := 3) (L2 := [(0, _), (1, _), (2, _), (3, _)]) C dX7_first_42 rfl (by decide) rfl ?_
      refine g_iload_n (pc := 43) (i := 3) (j := 3) C dX7_first_43 rfl rfl ?_
      refine g_bipush (pc := 44) (v := (-3)) C dX7_first_44 (by decide) ?_
      refine g_icmp_eq (pc := 46) (tgt := 59) C dX7_first_46 (by decide) (fun h46 => ?_) (fun h46 => ?_)
      · refine g_iinc (pc := 59) (j := 2) (v := _ + 1) (L2 := [(0, _), (1, _), (2, _), (3, _)]) C dX7_first_59 rfl rfl (by decide) rfl ?_
        refine g_goto (pc := 62) (tgt := 23) C dX7_first_62 (by decide) ?_
        refine pm_drop (pm_Geq (ih (by omega) ?_ I9 hI9) ?_ rfl rfl rfl) [0, 1, 2] rfl
        · rw [hR, tr_sr_step (by omega), if_neg (fun q => q h46)]
        · simp only [nI_1]; rfl
      · refine g_iload_n (pc := 49) (i := 1) (j := 1) C dX7_first_49 rfl rfl ?_
        refine g_if_ne (pc := 50) (tgt := 57) C dX7_first_50 (by decide) (fun h50 => ?_) (fun h50 => ?_)
        · refine g_iload_n (pc := 57) (i := 3) (j := 3) C dX7_first_57 rfl rfl ?_
          refine g_iret (pc := 58) C C2 dX7_first_58 rfl (Nat.le_refl _) (Nat.le_refl _) ?_
          refine ⟨?_, rfl, rfl, hI9.1⟩
          rw [hR, tr_sr_step (by omega), if_pos h46]
          first | rw [if_pos h50] | rw [if_neg h50]
        · refine g_iload_n (pc := 53) (i := 2) (j := 2) C dX7_first_53 rfl rfl ?_
          refine g_goto (pc := 54) (tgt := 58) C dX7_first_54 (by decide) ?_
          refine g_iret (pc := 58) C C2 dX7_first_58 rfl (Nat.le_refl _) (Nat.le_refl _) ?_
          refine ⟨?_, rfl, rfl, hI9.1⟩
          rw [hR, tr_sr_step (by omega), if_pos h46]
          first | rw [if_pos h50] | rw [if_neg h50]
  refine g_iload_n (pc := 0) (i := 1) (j := 1) C dX7_first_0 rfl rfl ?_
  refine g_iconst (pc := 1) (v := 0) C dX7_first_1 (by decide) ?_
  refine g_iconst (pc := 2) (v := 1) C dX7_first_2 (by decide) ?_
  refine g_callS (pc := 3) C dX7_first_3 lmX7_72 kcX7_within (by decide) (c_X7_within) rfl rfl (Nat.le_of_ble_eq_true rfl) ?_
  intro r9 sh9 I9 J9 hD9; obtain ⟨rfl, rfl, rfl, rfl⟩ := pm_Dq hD9
  try simp only [Option.toList_some, Option.toList_none, List.cons_append, List.nil_append]
  refine g_if_neB (pc := 6) (tgt := 11) C dX7_first_6 (by decide) (fun hh6 => ?_) (fun hh6 => absurd hw hh6)
  refine g_aload_n (pc := 11) (i := 0) (j := 0) C dX7_first_11 rfl rfl ?_
  refine g_getR (pc := 12) C dX7_first_12 lfX7_38 (by first | rfl | assumption) rfl ?_
  refine g_bipush (pc := 15) (v := 48) C dX7_first_15 (by decide) ?_
  refine g_iconst (pc := 17) (v := 0) C dX7_first_17 (by decide) ?_
  refine g_callV (pc := 18) C dX7_first_18 lmX7_163 kcX6_run (by decide) (by first | rfl | assumption) (c_X6_run (t := t) (h := 48) hn h6 ht ht96 (by decide)) rfl rfl (Nat.le_of_ble_eq_true rfl) ?_
  rintro r9 sh9 I9 J9 ⟨e1, e2, e3, hI9⟩
  try simp only [Option.toList_some, Option.toList_none, List.cons_append, List.nil_append]
  subst e1 e2
  obtain rfl := e3.symm
  obtain ⟨f1, f2, f3, f4⟩ := tr_In_facts hI9 h6
  try simp only [Option.toList_none, List.nil_append]
  refine g_iconst (pc := 21) (v := 0) C dX7_first_21 (by decide) ?_
  refine g_istore_n (pc := 22) (i := 2) (L2 := [(0, _), (1, _), (2, _)]) C dX7_first_22 rfl (by decide) rfl ?_
  rw [hm] at hI9
  exact hloop 0 (Nat.zero_le _) rfl I9 hI9

set_option maxHeartbeats 4000000 in
set_option maxRecDepth 100000 in
theorem c_X7_first0 {d : Nat} {x : Int32} {I : pm_I} {J : pm_J} (hv : ¬ (0 ≤ x ∧ x ≤ 1)) : pm_M (d + 1) 0 0 yX7_first cX7_first 4 (some .int) [.ref 0, .int x] SHP I J (fun r sh2 I2 J2 => r = some (.int (-1)) ∧ sh2 = SHP ∧ J2 = J ∧ tr_off I I2) := by
  refine pm_start (own := RX7) (nm := "first") (by decide) rfl rfl (L := [(0, .ref 0), (1, .int x)]) rfl (Nat.le_of_ble_eq_true rfl) (fun Γ C C2 => ?_)
  refine g_iload_n (pc := 0) (i := 1) (j := 1) C dX7_first_0 rfl rfl ?_
  refine g_iconst (pc := 1) (v := 0) C dX7_first_1 (by decide) ?_
  refine g_iconst (pc := 2) (v := 1) C dX7_first_2 (by decide) ?_
  refine g_callS (pc := 3) C dX7_first_3 lmX7_72 kcX7_within (by decide) (c_X7_within) rfl rfl (Nat.le_of_ble_eq_true rfl) ?_
  intro r9 sh9 I9 J9 hD9; obtain ⟨rfl, rfl, rfl, rfl⟩ := pm_Dq hD9
  try simp only [Option.toList_some, Option.toList_none, List.cons_append, List.nil_append]
  refine g_if_neB (pc := 6) (tgt := 11) C dX7_first_6 (by decide) (fun h6 => ?_) (fun h6 => ?_)
  · exact absurd h6 hv
  · refine g_iconst (pc := 9) (v := (-1)) C dX7_first_9 (by decide) ?_
    refine g_iret (pc := 10) C C2 dX7_first_10 rfl (Nat.le_refl _) (Nat.le_refl _) ?_
    exact ⟨rfl, rfl, rfl, tr_off_rf _⟩

set_option maxHeartbeats 4000000 in
set_option maxRecDepth 100000 in
theorem c_X7_columnFor {d : Nat} {I : pm_I} {J : pm_J} {n : Nat} (hn : I 1 2 = nI n) (h6 : n ≤ 6) {t : Nat} (ht : I 1 3 = nI t) (ht96 : t ≤ 96) {b h : Nat} (hb : b < n) (hh : h ≤ 24) : pm_M (d + 6) 0 0 yX7_columnFor cX7_columnFor 4 (some .int) [.ref 0, .int (nI b), .int (nI h)] SHP I J (fun r sh2 I2 J2 => r = some (.int (tr_sr (fun j => tr_CI I 0 t (min h (96 - t)) n b (nI j)) nI (-3) 6 6)) ∧ sh2 = SHP ∧ J2 = J ∧ tr_off I I2) := by
  refine pm_start (own := RX7) (nm := "columnFor") (by decide) rfl rfl (L := [(0, .ref 0), (1, .int (nI b)), (2, .int (nI h))]) rfl (Nat.le_of_ble_eq_true rfl) (fun Γ C C2 => ?_)
  generalize hm : min h (96 - t) = m at C2
  have hm48 : m ≤ 48 := by omega
  have hloop : ∀ j, j ≤ 6 → (tr_sr (fun j => tr_CI I 0 t m n b (nI j)) nI (-3) 6 6 = tr_sr (fun j => tr_CI I 0 t m n b (nI j)) nI (-3) 6 (6 - j)) → ∀ I9, tr_In I t m 0 n I9 → pm_G Γ 0 0 34 [(0, .ref 0), (1, .int (nI b)), (2, .int (nI h)), (3, .int (nI j))] [] SHP I9 J := by
    refine pm_up (fun j => (tr_sr (fun j => tr_CI I 0 t m n b (nI j)) nI (-3) 6 6 = tr_sr (fun j => tr_CI I 0 t m n b (nI j)) nI (-3) 6 (6 - j)) → ∀ I9, tr_In I t m 0 n I9 → pm_G Γ 0 0 34 [(0, .ref 0), (1, .int (nI b)), (2, .int (nI h)), (3, .int (nI j))] [] SHP I9 J) 6 (fun j hj ih hR I9 hI9 => ?_)
    obtain ⟨f1, f2, f3, f4⟩ := tr_In_facts hI9 h6
    have e9 : ∀ k col, tr_ti (bl_L I9) (tr_H I 0 t) (I9 1 4) b col k n = tr_Ti I 0 t n b col k := fun k col => tr_In_Ti hI9 h6 hb
    refine g_iload_n (pc := 34) (i := 3) (j := 3) C dX7_columnFor_34 rfl rfl ?_
    refine g_bipush (pc := 35) (v := 6) C dX7_columnFor_35 (by decide) ?_
    refine g_icmp_ge (pc := 37) (tgt := 60) C dX7_columnFor_37 (by decide) (fun h37 => ?_) (fun h37 => ?_)
    · have ej : j = 6 := by (try rw [hn] at h37); have := (nI_leI (a := 6) (b := j) (by omega) (by omega)).mp h37; omega
      subst ej
      refine g_bipush (pc := 60) (v := (-3)) C dX7_columnFor_60 (by decide) ?_
      refine g_iret (pc := 62) C C2 dX7_columnFor_62 rfl (Nat.le_refl _) (Nat.le_refl _) ?_
      refine ⟨?_, rfl, rfl, hI9.1⟩
      rw [hR, Nat.sub_self]
      rfl
    · have hlt : j < 6 := by (try rw [hn] at h37); exact Nat.lt_of_not_le (fun q => h37 ((nI_leI (a := 6) (b := j) (by omega) (by omega)).mpr q))
      refine g_aload_n (pc := 40) (i := 0) (j := 0) C dX7_columnFor_40 rfl rfl ?_
      refine g_getR (pc := 41) C dX7_columnFor_41 lfX7_38 (by first | rfl | assumption) rfl ?_
      refine g_iload_n (pc := 44) (i := 1) (j := 1) C dX7_columnFor_44 rfl rfl ?_
      refine g_iload_n (pc := 45) (i := 3) (j := 3) C dX7_columnFor_45 rfl rfl ?_
      refine g_callV (pc := 46) C dX7_columnFor_46 lmX7_176 kcX6_isClearIn (by decide) (by first | rfl | assumption) (c_X6_isClearIn (m := m) (by rw [f1]; exact hn) h6 f4 hI9.2.2.1 hb hm48) rfl rfl (Nat.le_of_ble_eq_true rfl) ?_
      intro r9 sh9 I9 J9 hD9; obtain ⟨rfl, rfl, rfl, rfl⟩ := pm_Dq hD9
      try simp only [Option.toList_some, Option.toList_none, List.cons_append, List.nil_append]
      refine g_if_eqB (pc := 49) (tgt := 54) C dX7_columnFor_49 (by decide) (fun h49 => ?_) (fun h49 => ?_)
      · refine g_iinc (pc := 54) (j := 3) (v := _ + 1) (L2 := [(0, _), (1, _), (2, _), (3, _)]) C dX7_columnFor_54 rfl rfl (by decide) rfl ?_
        refine g_goto (pc := 57) (tgt := 34) C dX7_columnFor_57 (by decide) ?_
        simp only [e9] at h49
        refine pm_Geq (ih hlt ?_ I9 hI9) ?_ rfl rfl rfl
        · rw [hR, tr_sr_step hlt, if_neg h49]
        · simp only [nI_1]
      · refine g_iload_n (pc := 52) (i := 3) (j := 3) C dX7_columnFor_52 rfl rfl ?_
        refine g_iret (pc := 53) C C2 dX7_columnFor_53 rfl (Nat.le_refl _) (Nat.le_refl _) ?_
        refine ⟨?_, rfl, rfl, hI9.1⟩
        simp only [e9] at h49
        rw [hR, tr_sr_step hlt, if_pos h49]
  refine g_aload_n (pc := 0) (i := 0) (j := 0) C dX7_columnFor_0 rfl rfl ?_
  refine g_getR (pc := 1) C dX7_columnFor_1 lfX7_10 (by first | rfl | assumption) rfl ?_
  refine g_iload_n (pc := 4) (i := 1) (j := 1) C dX7_columnFor_4 rfl rfl ?_
  refine g_callV (pc := 5) C dX7_columnFor_5 lmX7_115 kcX5_has (by decide) (by first | rfl | assumption) (c_X5_has) rfl rfl (Nat.le_of_ble_eq_true rfl) ?_
  intro r9 sh9 I9 J9 hD9; obtain ⟨rfl, rfl, rfl, rfl⟩ := pm_Dq hD9
  try simp only [Option.toList_some, Option.toList_none, List.cons_append, List.nil_append]
  refine g_if_eqB (pc := 8) (tgt := 21) C dX7_columnFor_8 (by decide) (fun h8 => absurd ⟨by exact nI_pos' (by omega), by rw [hn]; exact pm_leP hb (by omega)⟩ h8) (fun h8 => ?_)
  refine g_iload_n (pc := 11) (i := 2) (j := 2) C dX7_columnFor_11 rfl rfl ?_
  refine g_iconst (pc := 12) (v := 0) C dX7_columnFor_12 (by decide) ?_
  refine g_bipush (pc := 13) (v := 24) C dX7_columnFor_13 (by decide) ?_
  refine g_callS (pc := 15) C dX7_columnFor_15 lmX7_72 kcX7_within (by decide) (c_X7_within) rfl rfl (Nat.le_of_ble_eq_true rfl) ?_
  intro r9 sh9 I9 J9 hD9; obtain ⟨rfl, rfl, rfl, rfl⟩ := pm_Dq hD9
  try simp only [Option.toList_some, Option.toList_none, List.cons_append, List.nil_append]
  refine g_if_neB (pc := 18) (tgt := 23) C dX7_columnFor_18 (by decide) (fun h18 => ?_) (fun h18 => absurd ⟨by exact nI_le (a := 0) (b := h) (by omega) (by omega), by exact nI_le (a := h) (b := 24) (by omega) (by decide)⟩ h18)
  refine g_aload_n (pc := 23) (i := 0) (j := 0) C dX7_columnFor_23 rfl rfl ?_
  refine g_getR (pc := 24) C dX7_columnFor_24 lfX7_38 (by first | rfl | assumption) rfl ?_
  refine g_iload_n (pc := 27) (i := 2) (j := 2) C dX7_columnFor_27 rfl rfl ?_
  refine g_iconst (pc := 28) (v := 0) C dX7_columnFor_28 (by decide) ?_
  refine g_callV (pc := 29) C dX7_columnFor_29 lmX7_163 kcX6_run (by decide) (by first | rfl | assumption) (c_X6_run (t := t) (h := h) hn h6 ht ht96 (by omega)) rfl rfl (Nat.le_of_ble_eq_true rfl) ?_
  rintro r9 sh9 I9 J9 ⟨e1, e2, e3, hI9⟩
  try simp only [Option.toList_some, Option.toList_none, List.cons_append, List.nil_append]
  subst e1 e2
  obtain rfl := e3.symm
  obtain ⟨f1, f2, f3, f4⟩ := tr_In_facts hI9 h6
  try simp only [Option.toList_none, List.nil_append]
  refine g_iconst (pc := 32) (v := 0) C dX7_columnFor_32 (by decide) ?_
  refine g_istore_n (pc := 33) (i := 3) (L2 := [(0, _), (1, _), (2, _), (3, _)]) C dX7_columnFor_33 rfl (by decide) rfl ?_
  rw [hm] at hI9
  exact hloop 0 (Nat.zero_le _) rfl I9 hI9

set_option maxHeartbeats 4000000 in
set_option maxRecDepth 100000 in
theorem c_X7_columnFor0 {d : Nat} {x y : Int32} {I : pm_I} {J : pm_J} (hv : ¬ ((0 ≤ x ∧ x ≤ I 1 2 - 1) ∧ 0 ≤ y ∧ y ≤ 24)) : pm_M (d + 2) 0 0 yX7_columnFor cX7_columnFor 4 (some .int) [.ref 0, .int x, .int y] SHP I J (fun r sh2 I2 J2 => r = some (.int (-1)) ∧ sh2 = SHP ∧ J2 = J ∧ tr_off I I2) := by
  refine pm_start (own := RX7) (nm := "columnFor") (by decide) rfl rfl (L := [(0, .ref 0), (1, .int x), (2, .int y)]) rfl (Nat.le_of_ble_eq_true rfl) (fun Γ C C2 => ?_)
  refine g_aload_n (pc := 0) (i := 0) (j := 0) C dX7_columnFor_0 rfl rfl ?_
  refine g_getR (pc := 1) C dX7_columnFor_1 lfX7_10 (by first | rfl | assumption) rfl ?_
  refine g_iload_n (pc := 4) (i := 1) (j := 1) C dX7_columnFor_4 rfl rfl ?_
  refine g_callV (pc := 5) C dX7_columnFor_5 lmX7_115 kcX5_has (by decide) (by first | rfl | assumption) (c_X5_has) rfl rfl (Nat.le_of_ble_eq_true rfl) ?_
  intro r9 sh9 I9 J9 hD9; obtain ⟨rfl, rfl, rfl, rfl⟩ := pm_Dq hD9
  try simp only [Option.toList_some, Option.toList_none, List.cons_append, List.nil_append]
  refine g_if_eqB (pc := 8) (tgt := 21) C dX7_columnFor_8 (by decide) (fun h8 => ?_) (fun h8 => ?_)
  · refine g_iconst (pc := 21) (v := (-1)) C dX7_columnFor_21 (by decide) ?_
    refine g_iret (pc := 22) C C2 dX7_columnFor_22 rfl (Nat.le_refl _) (Nat.le_refl _) ?_
    exact ⟨rfl, rfl, rfl, tr_off_rf _⟩
  · refine g_iload_n (pc := 11) (i := 2) (j := 2) C dX7_columnFor_11 rfl rfl ?_
    refine g_iconst (pc := 12) (v := 0) C dX7_columnFor_12 (by decide) ?_
    refine g_bipush (pc := 13) (v := 24) C dX7_columnFor_13 (by decide) ?_
    refine g_callS (pc := 15) C dX7_columnFor_15 lmX7_72 kcX7_within (by decide) (c_X7_within) rfl rfl (Nat.le_of_ble_eq_true rfl) ?_
    intro r9 sh9 I9 J9 hD9; obtain ⟨rfl, rfl, rfl, rfl⟩ := pm_Dq hD9
    try simp only [Option.toList_some, Option.toList_none, List.cons_append, List.nil_append]
    refine g_if_neB (pc := 18) (tgt := 23) C dX7_columnFor_18 (by decide) (fun h18 => ?_) (fun h18 => ?_)
    · exact absurd ⟨h8, h18⟩ hv
    · refine g_iconst (pc := 21) (v := (-1)) C dX7_columnFor_21 (by decide) ?_
      refine g_iret (pc := 22) C C2 dX7_columnFor_22 rfl (Nat.le_refl _) (Nat.le_refl _) ?_
      exact ⟨rfl, rfl, rfl, tr_off_rf _⟩

set_option maxHeartbeats 4000000 in
set_option maxRecDepth 100000 in
theorem c_X7_cold {d : Nat} {I : pm_I} {J : pm_J} {n : Nat} (hn : I 1 2 = nI n) (h6 : n ≤ 6) {t : Nat} (ht : I 1 3 = nI t) (ht96 : t ≤ 96)  : pm_M (d + 6) 0 0 yX7_cold cX7_cold 2 (some .int) [.ref 0] SHP I J (fun r sh2 I2 J2 => r = some (.int (tr_sr (fun j => ∀ k, k < min 24 (96 - t) → tr_Si I (nI (40 - j)) t n (k + 1) = -3) (fun j => nI (40 - j)) (-3) 40 40)) ∧ sh2 = SHP ∧ J2 = J ∧ tr_off I I2) := by
  refine pm_start (own := RX7) (nm := "cold") (by decide) rfl rfl (L := [(0, .ref 0)]) rfl (Nat.le_of_ble_eq_true rfl) (fun Γ C C2 => ?_)
  generalize hm : min 24 (96 - t) = m at C2
  have hm48 : m ≤ 48 := by omega
  have hloop : ∀ j, j ≤ 40 → (tr_sr (fun j => ∀ k, k < m → tr_Si I (nI (40 - j)) t n (k + 1) = -3) (fun j => nI (40 - j)) (-3) 40 40 = tr_sr (fun j => ∀ k, k < m → tr_Si I (nI (40 - j)) t n (k + 1) = -3) (fun j => nI (40 - j)) (-3) 40 (40 - j)) → ∀ I9, tr_off I I9 → pm_G Γ 0 0 3 [(0, .ref 0), (1, .int (nI (40 - j)))] [] SHP I9 J := by
    refine pm_up (fun j => (tr_sr (fun j => ∀ k, k < m → tr_Si I (nI (40 - j)) t n (k + 1) = -3) (fun j => nI (40 - j)) (-3) 40 40 = tr_sr (fun j => ∀ k, k < m → tr_Si I (nI (40 - j)) t n (k + 1) = -3) (fun j => nI (40 - j)) (-3) 40 (40 - j)) → ∀ I9, tr_off I I9 → pm_G Γ 0 0 3 [(0, .ref 0), (1, .int (nI (40 - j)))] [] SHP I9 J) 40 (fun j hj ih hR I8 hI8 => ?_)
    have g1 : I8 1 = I 1 := hI8 1 (by decide)
    have g2 : I8 2 = I 2 := hI8 2 (by decide)
    have gL : ∀ b, b < n → bl_L I8 b = bl_L I b := fun b hb => hI8 (5 + 2 * b) (by omega)
    refine g_iload_n (pc := 3) (i := 1) (j := 1) C dX7_cold_3 rfl rfl ?_
    refine g_iconst (pc := 4) (v := 1) C dX7_cold_4 (by decide) ?_
    refine g_icmp_lt (pc := 5) (tgt := 36) C dX7_cold_5 (by decide) (fun h5 => ?_) (fun h5 => ?_)
    · have ej : j = 40 := by have := (nI_ltI (a := 40 - j) (b := 1) (by omega) (by decide)).mp h5; omega
      subst ej
      refine g_bipush (pc := 36) (v := (-3)) C dX7_cold_36 (by decide) ?_
      refine g_iret (pc := 38) C C2 dX7_cold_38 rfl (Nat.le_refl _) (Nat.le_refl _) ?_
      refine ⟨?_, rfl, rfl, hI8⟩
      rw [hR, Nat.sub_self]
      rfl
    · have hlt : j < 40 := by have : ¬ 40 - j < 1 := fun q => h5 ((nI_ltI (a := 40 - j) (b := 1) (by omega) (by decide)).mpr q); omega
      refine g_aload_n (pc := 8) (i := 0) (j := 0) C dX7_cold_8 rfl rfl ?_
      refine g_getR (pc := 9) C dX7_cold_9 lfX7_38 (by first | rfl | assumption) rfl ?_
      refine g_bipush (pc := 12) (v := 24) C dX7_cold_12 (by decide) ?_
      refine g_iload_n (pc := 14) (i := 1) (j := 1) C dX7_cold_14 rfl rfl ?_
      refine g_callV (pc := 15) C dX7_cold_15 lmX7_163 kcX6_run (by decide) (by first | rfl | assumption) (c_X6_run (t := t) (h := 24) (c := nI (40 - j)) (by rw [g1]; exact hn) h6 (by rw [g1]; exact ht) ht96 (by decide)) rfl rfl (Nat.le_of_ble_eq_true rfl) ?_
      rintro r9 sh9 I9 J9 ⟨e1, e2, e3, hI9⟩
      try simp only [Option.toList_some, Option.toList_none, List.cons_append, List.nil_append]
      subst e1 e2
      obtain rfl := e3.symm
      rw [hm] at hI9
      obtain ⟨f1, f2, f3, f4⟩ := tr_In_facts hI9 h6
      try simp only [Option.toList_none, List.nil_append]
      have e9 : ∀ k, tr_si (bl_L I9) (tr_H I8 (nI (40 - j)) t) (I9 1 4) k n n = tr_Si I (nI (40 - j)) t n k := fun k => by rw [tr_In_Si hI9 h6]; show tr_si _ _ (I8 1 4) _ _ _ = tr_si _ _ (I 1 4) _ _ _; rw [g1]; exact tr_si_congr (fun b hb => by rw [gL b hb]) (fun b hb => by show tr_ev _ _ _ _ _ _ = tr_ev _ _ _ _ _ _; rw [g2, gL b hb]) n (Nat.le_refl _)
      refine g_aload_n (pc := 18) (i := 0) (j := 0) C dX7_cold_18 rfl rfl ?_
      refine g_getR (pc := 19) C dX7_cold_19 lfX7_38 (by first | rfl | assumption) rfl ?_
      refine g_callV (pc := 22) C dX7_cold_22 lmX7_192 kcX6_isClearForAll (by decide) (by first | rfl | assumption) (c_X6_isClearForAll (m := m) (by rw [f1, g1]; exact hn) h6 f4 hI9.2.2.1 hm48) rfl rfl (Nat.le_of_ble_eq_true rfl) ?_
      intro r9 sh9 I9 J9 hD9; obtain ⟨rfl, rfl, rfl, rfl⟩ := pm_Dq hD9
      try simp only [Option.toList_some, Option.toList_none, List.cons_append, List.nil_append]
      refine g_if_eqB (pc := 25) (tgt := 30) C dX7_cold_25 (by decide) (fun h25 => ?_) (fun h25 => ?_)
      · refine g_iinc (pc := 30) (j := 1) (v := _ - 1) (L2 := [(0, _), (1, _)]) C dX7_cold_30 rfl (pm_inc _) (by decide) rfl ?_
        refine g_goto (pc := 33) (tgt := 3) C dX7_cold_33 (by decide) ?_
        simp only [e9] at h25
        refine pm_Geq (ih hlt ?_ I9 (tr_off_trans hI8 hI9.1)) ?_ rfl rfl rfl
        · rw [hR, tr_sr_step hlt, if_neg h25]
        · rw [show 40 - j = (40 - (j + 1)) + 1 by omega, nI_pred]
      · refine g_iload_n (pc := 28) (i := 1) (j := 1) C dX7_cold_28 rfl rfl ?_
        refine g_iret (pc := 29) C C2 dX7_cold_29 rfl (Nat.le_refl _) (Nat.le_refl _) ?_
        refine ⟨?_, rfl, rfl, tr_off_trans hI8 hI9.1⟩
        simp only [e9] at h25
        rw [hR, tr_sr_step hlt, if_pos h25]
  refine g_bipush (pc := 0) (v := 40) C dX7_cold_0 (by decide) ?_
  refine g_istore_n (pc := 2) (i := 1) (L2 := [(0, _), (1, _)]) C dX7_cold_2 rfl (by decide) rfl ?_
  exact hloop 0 (Nat.zero_le _) rfl I (tr_off_rf _)
