/-! The model: rows proved and judged, and the plain calls -/
def mo_pv (I : pm_I) (w : Nat → Int32) (g : Int32) (t n : Nat) (B : Nat → Nat → Int32) (b m : Nat) (I2 : pm_I) : Prop := (∀ q, q ≠ 102 → q ≠ 106 → q ≠ 112 → q ≠ 113 → I2 q = I q) ∧ (∀ p, p ≠ 25 → p ≠ 26 → I2 102 p = I 102 p) ∧ (∀ k, k < 43 → I2 106 k = I 106 k) ∧ I2 102 25 = nI m ∧ ∀ i, i < m → ∀ v, v < 3 → I2 112 (3 * i + v) = mo_R w g t n B b i v
theorem mo_pv_of {I I2 : pm_I} {w : Nat → Int32} {g : Int32} {t n b m : Nat} {B : Nat → Nat → Int32} (h : mo_fd I w g t n B b m I2) : mo_pv I w g t n B b m (pm_s (pm_u I2 102 25 (nI m)) 112 (mo_rc (I2 112) (I2 113) (3 * m))) := by
  obtain ⟨a1, a2, a3, a4, a5⟩ := h
  refine ⟨fun q q1 q2 q3 q4 => ?_, fun p p1 p2 => ?_, fun k hk => ?_, ?_, fun i hi v hv => ?_⟩
  · rw [pm_s_off _ _ _ _ q3, pm_u_off q1, a1 q q1 q2 q4]
  · rw [pm_s_off _ _ _ _ (by decide), pm_u_at, pk_un p1, a2 p p2]
  · rw [pm_s_off _ _ _ _ (by decide), pm_u_off (by decide), a3 k hk]
  · rw [pm_s_off _ _ _ _ (by decide), pm_u_at, pk_us]
  · rw [pm_s_at, mo_rc, if_pos (by omega), a5 i hi v hv]
theorem mo_jok_iff {I : pm_I} {R : Nat → Int32} {i : Nat} : mo_jok I R i ↔ ∀ v, v < 3 → I 112 (3 * i + v) = R v := by
  constructor
  · rintro ⟨h0, h1, h2⟩ w hw
    rcases (show w = 0 ∨ w = 1 ∨ w = 2 by omega) with rfl | rfl | rfl
    · exact h0
    · exact h1
    · exact h2
  · exact fun h => ⟨h 0 (by decide), h 1 (by decide), h 2 (by decide)⟩
set_option maxHeartbeats 4000000 in
set_option maxRecDepth 100000 in
theorem c_X8_prove {d : Nat} {I : pm_I} {J : pm_J} {w : Nat → Int32} {g : Int32} {n t : Nat} {B : Nat → Nat → Int32} (hF : mo_F I w g 0 n) (ht : t ≤ 96) (hok : ∀ b, b < n → mo_ok (B b)) (hW : mo_W I 0 t n B I) {b h : Nat} (hb : b < n) (h1 : 1 ≤ h) (hh : h ≤ 20) : pm_M (d + 6) 0 0 yX8_prove cX8_prove 4 (some .int) [.ref 102, .int (nI b), .int (nI h)] SHP I J (fun r sh2 I2 J2 => r = some (.int (nI (min h (96 - t)))) ∧ sh2 = SHP ∧ J2 = J ∧ mo_pv I w g t n B b (min h (96 - t)) I2) := by
  refine pm_start (own := RX8) (nm := "prove") (by decide) rfl rfl (L := [(0, .ref 102), (1, .int (nI b)), (2, .int (nI h))]) rfl (Nat.le_of_ble_eq_true rfl) (fun Γ C C2 => ?_)
  have h6 := hF.2.1
  have hm20 : (min h (96 - t)) ≤ 20 := by omega
  have hloop : ∀ I9, mo_fd I w g t n B b (min h (96 - t)) I9 → ∀ j, j ≤ 3 * (min h (96 - t)) → pm_G Γ 0 0 36 [(0, .ref 102), (1, .int (nI b)), (2, .int (nI h)), (3, .int (nI j))] [] SHP (pm_s (pm_u I9 102 25 (nI (min h (96 - t)))) 112 (mo_rc (I9 112) (I9 113) j)) J := by
    intro I9 hD
    refine pm_up (fun j => pm_G Γ 0 0 36 [(0, .ref 102), (1, .int (nI b)), (2, .int (nI h)), (3, .int (nI j))] [] SHP (pm_s (pm_u I9 102 25 (nI (min h (96 - t)))) 112 (mo_rc (I9 112) (I9 113) j)) J) (3 * (min h (96 - t))) (fun j hj ih => ?_)
    have e25 : (pm_s (pm_u I9 102 25 (nI (min h (96 - t)))) 112 (mo_rc (I9 112) (I9 113) j)) 102 25 = nI (min h (96 - t)) := by rw [pm_s_off _ _ _ _ (by decide), pm_u_at, pk_us]
    refine g_iload_n (pc := 36) (i := 3) (j := 3) C dX8_prove_36 rfl rfl ?_
    refine g_iconst (pc := 37) (v := 3) C dX8_prove_37 (by decide) ?_
    refine g_aload_n (pc := 38) (i := 0) (j := 0) C dX8_prove_38 rfl rfl ?_
    refine g_getI (pc := 39) C dX8_prove_39 lfX8_202 (by first | rfl | assumption) rfl ?_
    rw [e25]
    refine g_imul (pc := 42) C dX8_prove_42 ?_
    rw [show (3 : Int32) * nI (min h (96 - t)) = nI (3 * (min h (96 - t))) by rw [show (3 : Int32) = nI 3 from rfl, pk_mul]]
    refine g_icmp_ge (pc := 43) (tgt := 64) C dX8_prove_43 (by decide) (fun h43 => ?_) (fun h43 => ?_)
    · have ej : j = 3 * (min h (96 - t)) := by have := (nI_leI (a := 3 * (min h (96 - t))) (b := j) (by omega) (by omega)).mp h43; omega
      refine g_aload_n (pc := 64) (i := 0) (j := 0) C dX8_prove_64 rfl rfl ?_
      refine g_getI (pc := 65) C dX8_prove_65 lfX8_202 (by first | rfl | assumption) rfl ?_
      refine g_iret (pc := 68) C C2 dX8_prove_68 rfl (Nat.le_refl _) (Nat.le_refl _) ?_
      refine ⟨by rw [e25], rfl, rfl, ?_⟩
      rw [ej]
      exact mo_pv_of hD
    · have hlt : j < 3 * (min h (96 - t)) := Nat.lt_of_not_le (fun q => h43 ((nI_leI (a := 3 * (min h (96 - t))) (b := j) (by omega) (by omega)).mpr q))
      refine g_aload_n (pc := 46) (i := 0) (j := 0) C dX8_prove_46 rfl rfl ?_
      refine g_getR (pc := 47) C dX8_prove_47 lfX8_44 (by first | rfl | assumption) rfl ?_
      refine g_iload_n (pc := 50) (i := 3) (j := 3) C dX8_prove_50 rfl rfl ?_
      refine g_aload_n (pc := 51) (i := 0) (j := 0) C dX8_prove_51 rfl rfl ?_
      refine g_getR (pc := 52) C dX8_prove_52 lfX8_47 (by first | rfl | assumption) rfl ?_
      refine g_iload_n (pc := 55) (i := 3) (j := 3) C dX8_prove_55 rfl rfl ?_
      refine g_iald (pc := 56) C dX8_prove_56 (by first | rfl | assumption) (by decide) (by first | rfl | assumption) (by first | assumption | decide | omega) ?_
      refine g_iast (pc := 57) C dX8_prove_57 (by first | rfl | assumption) (by decide) (by first | rfl | assumption) (by first | assumption | decide | omega) ?_
      refine g_iinc (pc := 58) (j := 3) (v := _ + 1) (L2 := [(0, _), (1, _), (2, _), (3, _)]) C dX8_prove_58 rfl rfl (by decide) rfl ?_
      refine g_goto (pc := 61) (tgt := 36) C dX8_prove_61 (by decide) ?_
      refine pm_Geq (ih hlt) (by simp only [nI_1]) rfl ?_ rfl
      rw [pm_u_s, pm_s_at, pm_s_s, pm_s_off _ _ _ _ (show (113 : Nat) ≠ 112 by decide), pm_u_off (show (113 : Nat) ≠ 102 by decide), mo_rc_next]
  refine g_aload_n (pc := 0) (i := 0) (j := 0) C dX8_prove_0 rfl rfl ?_
  refine g_iload_n (pc := 1) (i := 1) (j := 1) C dX8_prove_1 rfl rfl ?_
  refine g_callV (pc := 2) C dX8_prove_2 lmX8_234 kcX8_isBalloon (by decide) (by first | rfl | assumption) (c_X8_isBalloon) rfl rfl (Nat.le_of_ble_eq_true rfl) ?_
  intro r9 sh9 I9 J9 hD9; obtain ⟨rfl, rfl, rfl, rfl⟩ := pm_Dq hD9; clear hD9
  try simp only [Option.toList_some, Option.toList_none, List.cons_append, List.nil_append]
  refine g_if_eqB (pc := 5) (tgt := 18) C dX8_prove_5 (by decide) (fun h5 => absurd ⟨by exact nI_pos' (by omega), by rw [hF.1]; exact pm_leP hb (by omega)⟩ h5) (fun h5 => ?_)
  refine g_iload_n (pc := 8) (i := 2) (j := 2) C dX8_prove_8 rfl rfl ?_
  refine g_iconst (pc := 9) (v := 1) C dX8_prove_9 (by decide) ?_
  refine g_bipush (pc := 10) (v := 20) C dX8_prove_10 (by decide) ?_
  refine g_callS (pc := 12) C dX8_prove_12 lmX8_78 kcX8_in (by decide) (c_X8_in) rfl rfl (Nat.le_of_ble_eq_true rfl) ?_
  intro r9 sh9 I9 J9 hD9; obtain ⟨rfl, rfl, rfl, rfl⟩ := pm_Dq hD9; clear hD9
  try simp only [Option.toList_some, Option.toList_none, List.cons_append, List.nil_append]
  refine g_if_neB (pc := 15) (tgt := 20) C dX8_prove_15 (by decide) (fun h15 => ?_) (fun h15 => absurd ⟨by exact nI_le (a := 1) (b := h) (by omega) (by omega), by exact nI_le (a := h) (b := 20) (by omega) (by decide)⟩ h15)
  refine g_aload_n (pc := 20) (i := 0) (j := 0) C dX8_prove_20 rfl rfl ?_
  refine g_iload_n (pc := 21) (i := 1) (j := 1) C dX8_prove_21 rfl rfl ?_
  refine g_iload_n (pc := 22) (i := 2) (j := 2) C dX8_prove_22 rfl rfl ?_
  refine g_callV (pc := 23) C dX8_prove_23 lmX8_317 kcX8_findRows (by decide) (by first | rfl | assumption) (c_X8_findRows hF ht hok hW hh hb) rfl rfl (Nat.le_of_ble_eq_true rfl) ?_
  intro r9 sh9 I9 J9 hD9; obtain ⟨rfl, rfl, rfl, hD⟩ := hD9
  try simp only [Option.toList_some, Option.toList_none, List.cons_append, List.nil_append]
  refine g_aload_n (pc := 26) (i := 0) (j := 0) C dX8_prove_26 rfl rfl ?_
  refine g_aload_n (pc := 27) (i := 0) (j := 0) C dX8_prove_27 rfl rfl ?_
  refine g_getI (pc := 28) C dX8_prove_28 lfX8_314 (by first | rfl | assumption) rfl ?_
  rw [hD.2.2.2.1]
  refine g_putI (pc := 31) C dX8_prove_31 lpX8_202 rfl rfl (by first | rfl | assumption) rfl ?_
  refine g_iconst (pc := 34) (v := 0) C dX8_prove_34 (by decide) ?_
  refine g_istore_n (pc := 35) (i := 3) (L2 := [(0, _), (1, _), (2, _), (3, _)]) C dX8_prove_35 rfl (by decide) rfl ?_
  refine pm_Geq (hloop I9 hD 0 (Nat.zero_le _)) rfl rfl ?_ rfl
  funext q
  by_cases e : q = 112
  · subst e; rw [pm_s_at, pm_u_off (by decide)]; funext k; unfold mo_rc; rw [if_neg (by omega)]
  · rw [pm_s_off _ _ _ _ e]

set_option maxHeartbeats 4000000 in
set_option maxRecDepth 100000 in
theorem c_X8_prove0 {d : Nat} {x y : Int32} {I : pm_I} {J : pm_J} (hv : ¬ ((0 ≤ x ∧ x ≤ I 102 2 - 1) ∧ 1 ≤ y ∧ y ≤ 20)) : pm_M (d + 2) 0 0 yX8_prove cX8_prove 4 (some .int) [.ref 102, .int x, .int y] SHP I J (pm_D (some (.int (-1))) SHP I J) := by
  refine pm_start (own := RX8) (nm := "prove") (by decide) rfl rfl (L := [(0, .ref 102), (1, .int x), (2, .int y)]) rfl (Nat.le_of_ble_eq_true rfl) (fun Γ C C2 => ?_)
  refine g_aload_n (pc := 0) (i := 0) (j := 0) C dX8_prove_0 rfl rfl ?_
  refine g_iload_n (pc := 1) (i := 1) (j := 1) C dX8_prove_1 rfl rfl ?_
  refine g_callV (pc := 2) C dX8_prove_2 lmX8_234 kcX8_isBalloon (by decide) (by first | rfl | assumption) (c_X8_isBalloon) rfl rfl (Nat.le_of_ble_eq_true rfl) ?_
  intro r9 sh9 I9 J9 hD9; obtain ⟨rfl, rfl, rfl, rfl⟩ := pm_Dq hD9; clear hD9
  try simp only [Option.toList_some, Option.toList_none, List.cons_append, List.nil_append]
  refine g_if_eqB (pc := 5) (tgt := 18) C dX8_prove_5 (by decide) (fun h5 => ?_) (fun h5 => ?_)
  · refine g_iconst (pc := 18) (v := (-1)) C dX8_prove_18 (by decide) ?_
    refine g_iret (pc := 19) C C2 dX8_prove_19 rfl (Nat.le_refl _) (Nat.le_refl _) ?_
    exact ⟨rfl, rfl, rfl, rfl⟩
  · refine g_iload_n (pc := 8) (i := 2) (j := 2) C dX8_prove_8 rfl rfl ?_
    refine g_iconst (pc := 9) (v := 1) C dX8_prove_9 (by decide) ?_
    refine g_bipush (pc := 10) (v := 20) C dX8_prove_10 (by decide) ?_
    refine g_callS (pc := 12) C dX8_prove_12 lmX8_78 kcX8_in (by decide) (c_X8_in) rfl rfl (Nat.le_of_ble_eq_true rfl) ?_
    intro r9 sh9 I9 J9 hD9; obtain ⟨rfl, rfl, rfl, rfl⟩ := pm_Dq hD9; clear hD9
    try simp only [Option.toList_some, Option.toList_none, List.cons_append, List.nil_append]
    refine g_if_neB (pc := 15) (tgt := 20) C dX8_prove_15 (by decide) (fun h15 => ?_) (fun h15 => ?_)
    · exact absurd ⟨h5, h15⟩ hv
    · refine g_iconst (pc := 18) (v := (-1)) C dX8_prove_18 (by decide) ?_
      refine g_iret (pc := 19) C C2 dX8_prove_19 rfl (Nat.le_refl _) (Nat.le_refl _) ?_
      exact ⟨rfl, rfl, rfl, rfl⟩

set_option maxHeartbeats 4000000 in
set_option maxRecDepth 100000 in
theorem c_X8_isRow {d : Nat} {i w : Int32} {I : pm_I} {J : pm_J} : pm_M (d + 1) 0 0 yX8_isRow cX8_isRow 3 (some .boolean) [.ref 102, .int i, .int w] SHP I J (pm_D (some (.int (pm_b ((0 ≤ i ∧ i ≤ I 102 25 - 1) ∧ 0 ≤ w ∧ w ≤ 2)))) SHP I J) := by
  refine pm_start (own := RX8) (nm := "isRow") (by decide) rfl rfl (L := [(0, .ref 102), (1, .int i), (2, .int w)]) rfl (Nat.le_of_ble_eq_true rfl) (fun Γ C C2 => ?_)
  refine g_iload_n (pc := 0) (i := 1) (j := 1) C dX8_isRow_0 rfl rfl ?_
  refine g_iconst (pc := 1) (v := 0) C dX8_isRow_1 (by decide) ?_
  refine g_aload_n (pc := 2) (i := 0) (j := 0) C dX8_isRow_2 rfl rfl ?_
  refine g_getI (pc := 3) C dX8_isRow_3 lfX8_202 (by first | rfl | assumption) rfl ?_
  refine g_iconst (pc := 6) (v := 1) C dX8_isRow_6 (by decide) ?_
  refine g_isub (pc := 7) C dX8_isRow_7 ?_
  refine g_callS (pc := 8) C dX8_isRow_8 lmX8_78 kcX8_in (by decide) (c_X8_in) rfl rfl (Nat.le_of_ble_eq_true rfl) ?_
  intro r9 sh9 I9 J9 hD9; obtain ⟨rfl, rfl, rfl, rfl⟩ := pm_Dq hD9; clear hD9
  try simp only [Option.toList_some, Option.toList_none, List.cons_append, List.nil_append]
  refine g_if_eqB (pc := 11) (tgt := 27) C dX8_isRow_11 (by decide) (fun h11 => ?_) (fun h11 => ?_)
  · refine g_iconst (pc := 27) (v := 0) C dX8_isRow_27 (by decide) ?_
    refine g_iret (pc := 28) C C2 dX8_isRow_28 (by first | rfl | exact pm_nz) (Nat.le_refl _) (Nat.le_refl _) ?_
    clear C C2
    exact ⟨by grind [pm_b], rfl, rfl, rfl⟩
  · refine g_iload_n (pc := 14) (i := 2) (j := 2) C dX8_isRow_14 rfl rfl ?_
    refine g_iconst (pc := 15) (v := 0) C dX8_isRow_15 (by decide) ?_
    refine g_iconst (pc := 16) (v := 2) C dX8_isRow_16 (by decide) ?_
    refine g_callS (pc := 17) C dX8_isRow_17 lmX8_78 kcX8_in (by decide) (c_X8_in) rfl rfl (Nat.le_of_ble_eq_true rfl) ?_
    intro r9 sh9 I9 J9 hD9; obtain ⟨rfl, rfl, rfl, rfl⟩ := pm_Dq hD9; clear hD9
    try simp only [Option.toList_some, Option.toList_none, List.cons_append, List.nil_append]
    refine g_if_eqB (pc := 20) (tgt := 27) C dX8_isRow_20 (by decide) (fun h20 => ?_) (fun h20 => ?_)
    · refine g_iconst (pc := 27) (v := 0) C dX8_isRow_27 (by decide) ?_
      refine g_iret (pc := 28) C C2 dX8_isRow_28 (by first | rfl | exact pm_nz) (Nat.le_refl _) (Nat.le_refl _) ?_
      clear C C2
      exact ⟨by grind [pm_b], rfl, rfl, rfl⟩
    · refine g_iconst (pc := 23) (v := 1) C dX8_isRow_23 (by decide) ?_
      refine g_goto (pc := 24) (tgt := 28) C dX8_isRow_24 (by decide) ?_
      refine g_iret (pc := 28) C C2 dX8_isRow_28 (by first | rfl | exact pm_nz) (Nat.le_refl _) (Nat.le_refl _) ?_
      clear C C2
      exact ⟨by grind [pm_b], rfl, rfl, rfl⟩

set_option maxHeartbeats 4000000 in
set_option maxRecDepth 100000 in
theorem c_X8_row {d : Nat} {i w : Int32} {I : pm_I} {J : pm_J} {rc : Nat} (hrc : I 102 25 = nI rc) (hrc20 : rc ≤ 20)  : pm_M (d + 2) 0 0 yX8_row cX8_row 3 (some .int) [.ref 102, .int i, .int w] SHP I J (pm_D (some (.int (if (0 ≤ i ∧ i ≤ I 102 25 - 1) ∧ 0 ≤ w ∧ w ≤ 2 then I 112 (3 * i.toNatClampNeg + w.toNatClampNeg) else -9))) SHP I J) := by
  refine pm_start (own := RX8) (nm := "row") (by decide) rfl rfl (L := [(0, .ref 102), (1, .int i), (2, .int w)]) rfl (Nat.le_of_ble_eq_true rfl) (fun Γ C C2 => ?_)
  refine g_aload_n (pc := 0) (i := 0) (j := 0) C dX8_row_0 rfl rfl ?_
  refine g_iload_n (pc := 1) (i := 1) (j := 1) C dX8_row_1 rfl rfl ?_
  refine g_iload_n (pc := 2) (i := 2) (j := 2) C dX8_row_2 rfl rfl ?_
  refine g_callV (pc := 3) C dX8_row_3 lmX8_321 kcX8_isRow (by decide) (by first | rfl | assumption) (c_X8_isRow) rfl rfl (Nat.le_of_ble_eq_true rfl) ?_
  intro r9 sh9 I9 J9 hD9; obtain ⟨rfl, rfl, rfl, rfl⟩ := pm_Dq hD9; clear hD9
  try simp only [Option.toList_some, Option.toList_none, List.cons_append, List.nil_append]
  refine g_if_eqB (pc := 6) (tgt := 22) C dX8_row_6 (by decide) (fun h6 => ?_) (fun h6 => ?_)
  · refine g_bipush (pc := 22) (v := (-9)) C dX8_row_22 (by decide) ?_
    refine g_iret (pc := 24) C C2 dX8_row_24 rfl (Nat.le_refl _) (Nat.le_refl _) ?_
    first | exact ⟨by rw [if_neg h6], rfl, rfl, rfl⟩ | exact ⟨by rw [if_pos h6b, nI_clamp (by omega), nI_clamp (by omega)], rfl, rfl, rfl⟩
  · have h6b := h6
    obtain ⟨⟨v1, v2⟩, v3, v4⟩ := h6
    obtain ⟨a, ha, rfl⟩ := pm_hasN (x := i) (n := rc) (by omega) (by rw [← hrc]; exact ⟨v1, v2⟩)
    obtain ⟨c, hc, rfl⟩ := pm_ix (N := 3) v3 v4 (by decide)
    refine g_aload_n (pc := 9) (i := 0) (j := 0) C dX8_row_9 rfl rfl ?_
    refine g_getR (pc := 10) C dX8_row_10 lfX8_44 (by first | rfl | assumption) rfl ?_
    refine g_iconst (pc := 13) (v := 3) C dX8_row_13 (by decide) ?_
    refine g_iload_n (pc := 14) (i := 1) (j := 1) C dX8_row_14 rfl rfl ?_
    refine g_imul (pc := 15) C dX8_row_15 ?_
    refine g_iload_n (pc := 16) (i := 2) (j := 2) C dX8_row_16 rfl rfl ?_
    refine g_iadd (pc := 17) C dX8_row_17 ?_
    refine g_iald (pc := 18) (j := 3 * a + c) C dX8_row_18 (by first | rfl | assumption) (by decide) (mo_bit3 a c) (by omega) ?_
    refine g_goto (pc := 19) (tgt := 24) C dX8_row_19 (by decide) ?_
    refine g_iret (pc := 24) C C2 dX8_row_24 rfl (Nat.le_refl _) (Nat.le_refl _) ?_
    first | exact ⟨by rw [if_neg h6], rfl, rfl, rfl⟩ | exact ⟨by rw [if_pos h6b, nI_clamp (by omega), nI_clamp (by omega)], rfl, rfl, rfl⟩

set_option maxHeartbeats 4000000 in
set_option maxRecDepth 100000 in
theorem c_X8_alterRow {d : Nat} {i w v : Int32} {I : pm_I} {J : pm_J} {rc : Nat} (hrc : I 102 25 = nI rc) (hrc20 : rc ≤ 20)  : pm_M (d + 2) 0 0 yX8_alterRow cX8_alterRow 5 (some .int) [.ref 102, .int i, .int w, .int v] SHP I J (pm_D (some (.int (if (0 ≤ i ∧ i ≤ I 102 25 - 1) ∧ 0 ≤ w ∧ w ≤ 2 then I 112 (3 * i.toNatClampNeg + w.toNatClampNeg) else -9))) SHP (if (0 ≤ i ∧ i ≤ I 102 25 - 1) ∧ 0 ≤ w ∧ w ≤ 2 then pm_u I 112 (3 * i.toNatClampNeg + w.toNatClampNeg) v else I) J) := by
  refine pm_start (own := RX8) (nm := "alterRow") (by decide) rfl rfl (L := [(0, .ref 102), (1, .int i), (2, .int w), (3, .int v)]) rfl (Nat.le_of_ble_eq_true rfl) (fun Γ C C2 => ?_)
  refine g_aload_n (pc := 0) (i := 0) (j := 0) C dX8_alterRow_0 rfl rfl ?_
  refine g_iload_n (pc := 1) (i := 1) (j := 1) C dX8_alterRow_1 rfl rfl ?_
  refine g_iload_n (pc := 2) (i := 2) (j := 2) C dX8_alterRow_2 rfl rfl ?_
  refine g_callV (pc := 3) C dX8_alterRow_3 lmX8_321 kcX8_isRow (by decide) (by first | rfl | assumption) (c_X8_isRow) rfl rfl (Nat.le_of_ble_eq_true rfl) ?_
  intro r9 sh9 I9 J9 hD9; obtain ⟨rfl, rfl, rfl, rfl⟩ := pm_Dq hD9; clear hD9
  try simp only [Option.toList_some, Option.toList_none, List.cons_append, List.nil_append]
  refine g_if_neB (pc := 6) (tgt := 12) C dX8_alterRow_6 (by decide) (fun h6 => ?_) (fun h6 => ?_)
  · have h6b := h6
    obtain ⟨⟨v1, v2⟩, v3, v4⟩ := h6
    obtain ⟨a, ha, rfl⟩ := pm_hasN (x := i) (n := rc) (by omega) (by rw [← hrc]; exact ⟨v1, v2⟩)
    obtain ⟨c, hc, rfl⟩ := pm_ix (N := 3) v3 v4 (by decide)
    refine g_aload_n (pc := 12) (i := 0) (j := 0) C dX8_alterRow_12 rfl rfl ?_
    refine g_getR (pc := 13) C dX8_alterRow_13 lfX8_44 (by first | rfl | assumption) rfl ?_
    refine g_iconst (pc := 16) (v := 3) C dX8_alterRow_16 (by decide) ?_
    refine g_iload_n (pc := 17) (i := 1) (j := 1) C dX8_alterRow_17 rfl rfl ?_
    refine g_imul (pc := 18) C dX8_alterRow_18 ?_
    refine g_iload_n (pc := 19) (i := 2) (j := 2) C dX8_alterRow_19 rfl rfl ?_
    refine g_iadd (pc := 20) C dX8_alterRow_20 ?_
    refine g_iald (pc := 21) (j := 3 * a + c) C dX8_alterRow_21 (by first | rfl | assumption) (by decide) (mo_bit3 a c) (by omega) ?_
    refine g_istore (pc := 22) (L2 := [(0, _), (1, _), (2, _), (3, _), (4, _)]) C dX8_alterRow_22 (by decide) rfl ?_
    refine g_aload_n (pc := 24) (i := 0) (j := 0) C dX8_alterRow_24 rfl rfl ?_
    refine g_getR (pc := 25) C dX8_alterRow_25 lfX8_44 (by first | rfl | assumption) rfl ?_
    refine g_iconst (pc := 28) (v := 3) C dX8_alterRow_28 (by decide) ?_
    refine g_iload_n (pc := 29) (i := 1) (j := 1) C dX8_alterRow_29 rfl rfl ?_
    refine g_imul (pc := 30) C dX8_alterRow_30 ?_
    refine g_iload_n (pc := 31) (i := 2) (j := 2) C dX8_alterRow_31 rfl rfl ?_
    refine g_iadd (pc := 32) C dX8_alterRow_32 ?_
    refine g_iload_n (pc := 33) (i := 3) (j := 3) C dX8_alterRow_33 rfl rfl ?_
    refine g_iast (pc := 34) (j := 3 * a + c) C dX8_alterRow_34 (by first | rfl | assumption) (by decide) (mo_bit3 a c) (by omega) ?_
    refine g_iload (pc := 35) (j := 4) C dX8_alterRow_35 rfl ?_
    refine g_iret (pc := 37) C C2 dX8_alterRow_37 rfl (Nat.le_refl _) (Nat.le_refl _) ?_
    first | exact ⟨by rw [if_neg h6], rfl, by rw [if_neg h6], rfl⟩ | exact ⟨by rw [if_pos h6b, nI_clamp (by omega), nI_clamp (by omega)], rfl, by rw [if_pos h6b, nI_clamp (by omega), nI_clamp (by omega)], rfl⟩
  · refine g_bipush (pc := 9) (v := (-9)) C dX8_alterRow_9 (by decide) ?_
    refine g_iret (pc := 11) C C2 dX8_alterRow_11 rfl (Nat.le_refl _) (Nat.le_refl _) ?_
    first | exact ⟨by rw [if_neg h6], rfl, by rw [if_neg h6], rfl⟩ | exact ⟨by rw [if_pos h6b, nI_clamp (by omega), nI_clamp (by omega)], rfl, by rw [if_pos h6b, nI_clamp (by omega), nI_clamp (by omega)], rfl⟩

set_option maxHeartbeats 4000000 in
set_option maxRecDepth 100000 in
theorem c_X8_judge {d : Nat} {I : pm_I} {J : pm_J} {w : Nat → Int32} {g : Int32} {n t : Nat} {B : Nat → Nat → Int32} (hF : mo_F I w g 0 n) (ht : t ≤ 96) (hok : ∀ b, b < n → mo_ok (B b)) (hW : mo_W I 0 t n B I) {b rc : Nat} (hb : b < n) (hrc : I 102 25 = nI rc) (hrc20 : rc ≤ 20) : pm_M (d + 6) 0 0 yX8_judge cX8_judge 5 (some .int) [.ref 102, .int (nI b)] SHP I J (fun r sh2 I2 J2 => r = some (.int (tr_sr (fun i => (min rc (96 - t)) < i + 1 ∨ ¬ mo_jok I (mo_R w g t n B b i) i) (fun i => nI (i + 1)) 0 rc rc)) ∧ sh2 = SHP ∧ J2 = J ∧ mo_fd I w g t n B b (min rc (96 - t)) I2) := by
  refine pm_start (own := RX8) (nm := "judge") (by decide) rfl rfl (L := [(0, .ref 102), (1, .int (nI b))]) rfl (Nat.le_of_ble_eq_true rfl) (fun Γ C C2 => ?_)
  have h6 := hF.2.1
  have hloop : ∀ I9, mo_fd I w g t n B b (min rc (96 - t)) I9 → ∀ j, j ≤ rc → (tr_sr (fun i => (min rc (96 - t)) < i + 1 ∨ ¬ mo_jok I (mo_R w g t n B b i) i) (fun i => nI (i + 1)) 0 rc rc = tr_sr (fun i => (min rc (96 - t)) < i + 1 ∨ ¬ mo_jok I (mo_R w g t n B b i) i) (fun i => nI (i + 1)) 0 rc (rc - j)) → pm_G Γ 0 0 21 [(0, .ref 102), (1, .int (nI b)), (2, .int (nI j))] [] SHP I9 J := by
    intro I9 hD
    have e25 : I9 102 25 = nI rc := (hD.2.1 25 (by decide)).trans hrc
    have e26 := hD.2.2.2.1
    have e112 : I9 112 = I 112 := hD.1 112 (by decide) (by decide) (by decide)
    have h113 := hD.2.2.2.2
    refine pm_up (fun j => (tr_sr (fun i => (min rc (96 - t)) < i + 1 ∨ ¬ mo_jok I (mo_R w g t n B b i) i) (fun i => nI (i + 1)) 0 rc rc = tr_sr (fun i => (min rc (96 - t)) < i + 1 ∨ ¬ mo_jok I (mo_R w g t n B b i) i) (fun i => nI (i + 1)) 0 rc (rc - j)) → pm_G Γ 0 0 21 [(0, .ref 102), (1, .int (nI b)), (2, .int (nI j))] [] SHP I9 J) rc (fun j hj ih hR => ?_)
    have hno : ∀ x, j < rc → ((min rc (96 - t)) < j + 1 ∨ ¬ mo_jok I (mo_R w g t n B b j) j) → pm_G Γ 0 0 46 [(0, .ref 102), (1, .int (nI b)), (2, .int (nI j)), (3, .int 0), (4, .int x)] [] SHP I9 J := by
      intro x hlt hP
      refine g_iload (pc := 46) (j := 4) C dX8_judge_46 rfl ?_
      refine g_iconst (pc := 48) (v := 3) C dX8_judge_48 (by decide) ?_
      refine g_icmp_ge (pc := 49) (tgt := 93) C dX8_judge_49 (by decide) (fun h49 => ?_) (fun h49 => ?_)
      · refine g_iload_n (pc := 93) (i := 3) (j := 3) C dX8_judge_93 rfl rfl ?_
        refine g_if_ne (pc := 94) (tgt := 101) C dX8_judge_94 (by decide) (fun h94 => absurd h94 (by decide)) (fun h94 => ?_)
        refine g_iload_n (pc := 97) (i := 2) (j := 2) C dX8_judge_97 rfl rfl ?_
        refine g_iconst (pc := 98) (v := 1) C dX8_judge_98 (by decide) ?_
        refine g_iadd (pc := 99) C dX8_judge_99 ?_
        refine g_iret (pc := 100) C C2 dX8_judge_100 rfl (Nat.le_refl _) (Nat.le_refl _) ?_
        exact ⟨by rw [hR, tr_sr_step hlt, if_pos hP, nI_1], rfl, rfl, hD⟩
      · refine g_iload_n (pc := 52) (i := 3) (j := 3) C dX8_judge_52 rfl rfl ?_
        refine g_if_eq (pc := 53) (tgt := 93) C dX8_judge_53 (by decide) (fun h53 => ?_) (fun h53 => absurd (by decide : (0 : Int32) = 0) h53)
        refine g_iload_n (pc := 93) (i := 3) (j := 3) C dX8_judge_93 rfl rfl ?_
        refine g_if_ne (pc := 94) (tgt := 101) C dX8_judge_94 (by decide) (fun h94 => absurd h94 (by decide)) (fun h94 => ?_)
        refine g_iload_n (pc := 97) (i := 2) (j := 2) C dX8_judge_97 rfl rfl ?_
        refine g_iconst (pc := 98) (v := 1) C dX8_judge_98 (by decide) ?_
        refine g_iadd (pc := 99) C dX8_judge_99 ?_
        refine g_iret (pc := 100) C C2 dX8_judge_100 rfl (Nat.le_refl _) (Nat.le_refl _) ?_
        exact ⟨by rw [hR, tr_sr_step hlt, if_pos hP, nI_1], rfl, rfl, hD⟩
    have hin : j < rc → j < (min rc (96 - t)) → ∀ k, k ≤ 3 → (∀ v, v < k → I 112 (3 * j + v) = mo_R w g t n B b j v) → pm_G Γ 0 0 46 [(0, .ref 102), (1, .int (nI b)), (2, .int (nI j)), (3, .int 1), (4, .int (nI k))] [] SHP I9 J := by
      intro hlt hjm
      refine pm_up (fun k => (∀ v, v < k → I 112 (3 * j + v) = mo_R w g t n B b j v) → pm_G Γ 0 0 46 [(0, .ref 102), (1, .int (nI b)), (2, .int (nI j)), (3, .int 1), (4, .int (nI k))] [] SHP I9 J) 3 (fun k hk ih2 hv => ?_)
      refine g_iload (pc := 46) (j := 4) C dX8_judge_46 rfl ?_
      refine g_iconst (pc := 48) (v := 3) C dX8_judge_48 (by decide) ?_
      refine g_icmp_ge (pc := 49) (tgt := 93) C dX8_judge_49 (by decide) (fun h49 => ?_) (fun h49 => ?_)
      · have ek : k = 3 := by have := (nI_leI (a := 3) (b := k) (by decide) (by omega)).mp h49; omega
        subst ek
        refine g_iload_n (pc := 93) (i := 3) (j := 3) C dX8_judge_93 rfl rfl ?_
        refine g_if_ne (pc := 94) (tgt := 101) C dX8_judge_94 (by decide) (fun h94 => ?_) (fun h94 => absurd h94 (by decide))
        refine g_iinc (pc := 101) (j := 2) (v := _ + 1) (L2 := [(0, _), (1, _), (2, _), (3, _), (4, _)]) C dX8_judge_101 rfl rfl (by decide) rfl ?_
        refine g_goto (pc := 104) (tgt := 21) C dX8_judge_104 (by decide) ?_
        refine pm_drop (L := [(0, _), (1, _), (2, _)]) ?_ [0, 1, 2] rfl
        refine pm_Geq (ih hlt ?_) (by simp only [nI_1]) rfl rfl rfl
        rw [hR, tr_sr_step hlt, if_neg (fun q => q.elim (fun z => by omega) (fun z => z (mo_jok_iff.mpr hv)))]
      · refine g_iload_n (pc := 52) (i := 3) (j := 3) C dX8_judge_52 rfl rfl ?_
        refine g_if_eq (pc := 53) (tgt := 93) C dX8_judge_53 (by decide) (fun h53 => absurd h53 (by decide)) (fun h53 => ?_)
        have hk3 : k < 3 := Nat.lt_of_not_le (fun q => h49 ((nI_leI (a := 3) (b := k) (by decide) (by omega)).mpr q))
        refine g_aload_n (pc := 56) (i := 0) (j := 0) C dX8_judge_56 rfl rfl ?_
        refine g_getR (pc := 57) C dX8_judge_57 lfX8_44 (by first | rfl | assumption) rfl ?_
        refine g_iconst (pc := 60) (v := 3) C dX8_judge_60 (by decide) ?_
        refine g_iload_n (pc := 61) (i := 2) (j := 2) C dX8_judge_61 rfl rfl ?_
        refine g_imul (pc := 62) C dX8_judge_62 ?_
        refine g_iload (pc := 63) (j := 4) C dX8_judge_63 rfl ?_
        refine g_iadd (pc := 65) C dX8_judge_65 ?_
        refine g_iald (pc := 66) (j := 3 * j + k) C dX8_judge_66 (by first | rfl | assumption) (by decide) (mo_bit3 j k) (by omega) ?_
        refine g_aload_n (pc := 67) (i := 0) (j := 0) C dX8_judge_67 rfl rfl ?_
        refine g_getR (pc := 68) C dX8_judge_68 lfX8_47 (by first | rfl | assumption) rfl ?_
        refine g_iconst (pc := 71) (v := 3) C dX8_judge_71 (by decide) ?_
        refine g_iload_n (pc := 72) (i := 2) (j := 2) C dX8_judge_72 rfl rfl ?_
        refine g_imul (pc := 73) C dX8_judge_73 ?_
        refine g_iload (pc := 74) (j := 4) C dX8_judge_74 rfl ?_
        refine g_iadd (pc := 76) C dX8_judge_76 ?_
        refine g_iald (pc := 77) (j := 3 * j + k) C dX8_judge_77 (by first | rfl | assumption) (by decide) (mo_bit3 j k) (by omega) ?_
        rw [e112, h113 j hjm k hk3]
        refine g_icmp_ne (pc := 78) (tgt := 85) C dX8_judge_78 (by decide) (fun h78 => ?_) (fun h78 => ?_)
        · refine g_iconst (pc := 85) (v := 0) C dX8_judge_85 (by decide) ?_
          refine g_istore_n (pc := 86) (i := 3) (L2 := [(0, _), (1, _), (2, _), (3, _), (4, _)]) C dX8_judge_86 rfl (by decide) rfl ?_
          refine g_iinc (pc := 87) (j := 4) (v := _ + 1) (L2 := [(0, _), (1, _), (2, _), (3, _), (4, _)]) C dX8_judge_87 rfl rfl (by decide) rfl ?_
          refine g_goto (pc := 90) (tgt := 46) C dX8_judge_90 (by decide) ?_
          first | (refine pm_Geq (hno _ hlt (Or.inr (fun q => h78 (mo_jok_iff.mp q k hk3)))) rfl rfl rfl rfl) | (refine pm_Geq (ih2 hk3 (fun v hv2 => ?_)) (by simp only [nI_1]) rfl rfl rfl; by_cases e : v = k; (subst e; exact h78); exact hv v (by omega))
        · refine g_iconst (pc := 81) (v := 1) C dX8_judge_81 (by decide) ?_
          refine g_goto (pc := 82) (tgt := 86) C dX8_judge_82 (by decide) ?_
          refine g_istore_n (pc := 86) (i := 3) (L2 := [(0, _), (1, _), (2, _), (3, _), (4, _)]) C dX8_judge_86 rfl (by decide) rfl ?_
          refine g_iinc (pc := 87) (j := 4) (v := _ + 1) (L2 := [(0, _), (1, _), (2, _), (3, _), (4, _)]) C dX8_judge_87 rfl rfl (by decide) rfl ?_
          refine g_goto (pc := 90) (tgt := 46) C dX8_judge_90 (by decide) ?_
          first | (refine pm_Geq (hno _ hlt (Or.inr (fun q => h78 (mo_jok_iff.mp q k hk3)))) rfl rfl rfl rfl) | (refine pm_Geq (ih2 hk3 (fun v hv2 => ?_)) (by simp only [nI_1]) rfl rfl rfl; by_cases e : v = k; (subst e; exact h78); exact hv v (by omega))
    refine g_iload_n (pc := 21) (i := 2) (j := 2) C dX8_judge_21 rfl rfl ?_
    refine g_aload_n (pc := 22) (i := 0) (j := 0) C dX8_judge_22 rfl rfl ?_
    refine g_getI (pc := 23) C dX8_judge_23 lfX8_202 (by first | rfl | assumption) rfl ?_
    rw [e25]
    refine g_icmp_ge (pc := 26) (tgt := 107) C dX8_judge_26 (by decide) (fun h26 => ?_) (fun h26 => ?_)
    · have ej : j = rc := by have := (nI_leI (a := rc) (b := j) (by omega) (by omega)).mp h26; omega
      refine g_iconst (pc := 107) (v := 0) C dX8_judge_107 (by decide) ?_
      refine g_iret (pc := 108) C C2 dX8_judge_108 rfl (Nat.le_refl _) (Nat.le_refl _) ?_
      exact ⟨by rw [hR, ej, Nat.sub_self]; rfl, rfl, rfl, hD⟩
    · have hlt : j < rc := Nat.lt_of_not_le (fun q => h26 ((nI_leI (a := rc) (b := j) (by omega) (by omega)).mpr q))
      refine g_iload_n (pc := 29) (i := 2) (j := 2) C dX8_judge_29 rfl rfl ?_
      refine g_aload_n (pc := 30) (i := 0) (j := 0) C dX8_judge_30 rfl rfl ?_
      refine g_getI (pc := 31) C dX8_judge_31 lfX8_314 (by first | rfl | assumption) rfl ?_
      rw [e26]
      refine g_icmp_ge (pc := 34) (tgt := 41) C dX8_judge_34 (by decide) (fun h34 => ?_) (fun h34 => ?_)
      · refine g_iconst (pc := 41) (v := 0) C dX8_judge_41 (by decide) ?_
        refine g_istore_n (pc := 42) (i := 3) (L2 := [(0, _), (1, _), (2, _), (3, _)]) C dX8_judge_42 rfl (by decide) rfl ?_
        refine g_iconst (pc := 43) (v := 0) C dX8_judge_43 (by decide) ?_
        refine g_istore (pc := 44) (L2 := [(0, _), (1, _), (2, _), (3, _), (4, _)]) C dX8_judge_44 (by decide) rfl ?_
        have e34 := nI_leI (a := (min rc (96 - t))) (b := j) (by omega) (by omega)
        first | exact pm_Geq (hno 0 hlt (Or.inl (by have := e34.mp h34; omega))) rfl rfl rfl rfl | exact pm_Geq (hin hlt (Nat.lt_of_not_le (fun q => h34 (e34.mpr q))) 0 (by decide) (fun v hv => by omega)) rfl rfl rfl rfl
      · refine g_iconst (pc := 37) (v := 1) C dX8_judge_37 (by decide) ?_
        refine g_goto (pc := 38) (tgt := 42) C dX8_judge_38 (by decide) ?_
        refine g_istore_n (pc := 42) (i := 3) (L2 := [(0, _), (1, _), (2, _), (3, _)]) C dX8_judge_42 rfl (by decide) rfl ?_
        refine g_iconst (pc := 43) (v := 0) C dX8_judge_43 (by decide) ?_
        refine g_istore (pc := 44) (L2 := [(0, _), (1, _), (2, _), (3, _), (4, _)]) C dX8_judge_44 (by decide) rfl ?_
        have e34 := nI_leI (a := (min rc (96 - t))) (b := j) (by omega) (by omega)
        first | exact pm_Geq (hno 0 hlt (Or.inl (by have := e34.mp h34; omega))) rfl rfl rfl rfl | exact pm_Geq (hin hlt (Nat.lt_of_not_le (fun q => h34 (e34.mpr q))) 0 (by decide) (fun v hv => by omega)) rfl rfl rfl rfl
  refine g_aload_n (pc := 0) (i := 0) (j := 0) C dX8_judge_0 rfl rfl ?_
  refine g_iload_n (pc := 1) (i := 1) (j := 1) C dX8_judge_1 rfl rfl ?_
  refine g_callV (pc := 2) C dX8_judge_2 lmX8_234 kcX8_isBalloon (by decide) (by first | rfl | assumption) (c_X8_isBalloon) rfl rfl (Nat.le_of_ble_eq_true rfl) ?_
  intro r9 sh9 I9 J9 hD9; obtain ⟨rfl, rfl, rfl, rfl⟩ := pm_Dq hD9; clear hD9
  try simp only [Option.toList_some, Option.toList_none, List.cons_append, List.nil_append]
  refine g_if_neB (pc := 5) (tgt := 10) C dX8_judge_5 (by decide) (fun h5 => ?_) (fun h5 => absurd ⟨by exact nI_pos' (by omega), by rw [hF.1]; exact pm_leP hb (by omega)⟩ h5)
  refine g_aload_n (pc := 10) (i := 0) (j := 0) C dX8_judge_10 rfl rfl ?_
  refine g_iload_n (pc := 11) (i := 1) (j := 1) C dX8_judge_11 rfl rfl ?_
  refine g_aload_n (pc := 12) (i := 0) (j := 0) C dX8_judge_12 rfl rfl ?_
  refine g_getI (pc := 13) C dX8_judge_13 lfX8_202 (by first | rfl | assumption) rfl ?_
  rw [hrc]
  refine g_callV (pc := 16) C dX8_judge_16 lmX8_317 kcX8_findRows (by decide) (by first | rfl | assumption) (c_X8_findRows hF ht hok hW hrc20 hb) rfl rfl (Nat.le_of_ble_eq_true rfl) ?_
  intro r9 sh9 I9 J9 hD9; obtain ⟨rfl, rfl, rfl, hD⟩ := hD9
  try simp only [Option.toList_some, Option.toList_none, List.cons_append, List.nil_append]
  refine g_iconst (pc := 19) (v := 0) C dX8_judge_19 (by decide) ?_
  refine g_istore_n (pc := 20) (i := 2) (L2 := [(0, _), (1, _), (2, _)]) C dX8_judge_20 rfl (by decide) rfl ?_
  exact hloop I9 hD 0 (Nat.zero_le _) rfl

set_option maxHeartbeats 4000000 in
set_option maxRecDepth 100000 in
theorem c_X8_judge0 {d : Nat} {x : Int32} {I : pm_I} {J : pm_J} (hv : ¬ (0 ≤ x ∧ x ≤ I 102 2 - 1)) : pm_M (d + 2) 0 0 yX8_judge cX8_judge 5 (some .int) [.ref 102, .int x] SHP I J (pm_D (some (.int (-1))) SHP I J) := by
  refine pm_start (own := RX8) (nm := "judge") (by decide) rfl rfl (L := [(0, .ref 102), (1, .int x)]) rfl (Nat.le_of_ble_eq_true rfl) (fun Γ C C2 => ?_)
  refine g_aload_n (pc := 0) (i := 0) (j := 0) C dX8_judge_0 rfl rfl ?_
  refine g_iload_n (pc := 1) (i := 1) (j := 1) C dX8_judge_1 rfl rfl ?_
  refine g_callV (pc := 2) C dX8_judge_2 lmX8_234 kcX8_isBalloon (by decide) (by first | rfl | assumption) (c_X8_isBalloon) rfl rfl (Nat.le_of_ble_eq_true rfl) ?_
  intro r9 sh9 I9 J9 hD9; obtain ⟨rfl, rfl, rfl, rfl⟩ := pm_Dq hD9; clear hD9
  try simp only [Option.toList_some, Option.toList_none, List.cons_append, List.nil_append]
  refine g_if_neB (pc := 5) (tgt := 10) C dX8_judge_5 (by decide) (fun h5 => ?_) (fun h5 => ?_)
  · exact absurd h5 hv
  · refine g_iconst (pc := 8) (v := (-1)) C dX8_judge_8 (by decide) ?_
    refine g_iret (pc := 9) C C2 dX8_judge_9 rfl (Nat.le_refl _) (Nat.le_refl _) ?_
    exact ⟨rfl, rfl, rfl, rfl⟩
