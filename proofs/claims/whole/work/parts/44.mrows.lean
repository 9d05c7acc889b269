/-! The model: the highest, help, rows proved and judged -/
/-- a row behind i + 1 hours -/
def mo_R (w : Nat → Int32) (g : Int32) (t n : Nat) (B : Nat → Nat → Int32) (b i v : Nat) : Int32 := if v = 0 then tr_ev w 0 t (B b) (i + 1) 3 else if v = 1 then tr_ev w 0 t (B b) (i + 1) 5 else nI (tr_ti B (fun b k => tr_ev w 0 t (B b) k 3) g b (B b 2) (i + 1) n)
/-- j rows found: all but them, their number and the second row is as in I -/
def mo_fr (I : pm_I) (w : Nat → Int32) (g : Int32) (t n : Nat) (B : Nat → Nat → Int32) (b j : Nat) (Ib : pm_I) : Prop := (∀ q, q ≠ 102 → q ≠ 113 → Ib q = I q) ∧ (∀ p, p ≠ 26 → Ib 102 p = I 102 p) ∧ Ib 102 26 = nI j ∧ ∀ i, i < j → ∀ v, v < 3 → Ib 113 (3 * i + v) = mo_R w g t n B b i v
theorem mo_fr_0 {I : pm_I} {w : Nat → Int32} {g : Int32} {t n b : Nat} {B : Nat → Nat → Int32} : mo_fr I w g t n B b 0 (pm_u I 102 26 0) := by
  refine ⟨fun q h1 h2 => by rw [pm_u_off h1], fun p hp => by rw [pm_u_at, pk_un hp], ?_, fun i hi => by omega⟩
  rw [pm_u_at, pk_us]
  rfl
theorem mo_fr_next {I Ib : pm_I} {w : Nat → Int32} {g : Int32} {t n b j : Nat} {B : Nat → Nat → Int32} {x0 x1 x2 : Int32} (h : mo_fr I w g t n B b j Ib) (h0 : x0 = mo_R w g t n B b j 0) (h1 : x1 = mo_R w g t n B b j 1) (h2 : x2 = mo_R w g t n B b j 2) : mo_fr I w g t n B b (j + 1) (pm_u (pm_u (pm_u (pm_u Ib 113 (3 * j) x0) 113 (3 * j + 1) x1) 113 (3 * j + 2) x2) 102 26 (nI (j + 1))) := by
  obtain ⟨a1, a2, a3, a4⟩ := h
  refine ⟨fun q q1 q2 => by rw [pm_u_off q1, pm_u_off q2, pm_u_off q2, pm_u_off q2, a1 q q1 q2], fun p hp => by rw [pm_u_at, pk_un hp, pm_u_off (by decide), pm_u_off (by decide), pm_u_off (by decide), a2 p hp], by rw [pm_u_at, pk_us], fun i hi v hv => ?_⟩
  rw [pm_u_off (by decide), pm_u_at, pm_u_at, pm_u_at]
  by_cases e : i = j
  · subst e
    rcases (show v = 0 ∨ v = 1 ∨ v = 2 by omega) with rfl | rfl | rfl
    · rw [pk_un (by omega), pk_un (by omega), Nat.add_zero, pk_us, h0]
    · rw [pk_un (by omega), pk_us, h1]
    · rw [pk_us, h2]
  · rw [pk_un (by omega), pk_un (by omega), pk_un (by omega), a4 i (by omega) v hv]
/-- what finding rows leaves -/
def mo_fd (I : pm_I) (w : Nat → Int32) (g : Int32) (t n : Nat) (B : Nat → Nat → Int32) (b m : Nat) (I2 : pm_I) : Prop := (∀ q, q ≠ 102 → q ≠ 106 → q ≠ 113 → I2 q = I q) ∧ (∀ p, p ≠ 26 → I2 102 p = I 102 p) ∧ (∀ k, k < 43 → I2 106 k = I 106 k) ∧ I2 102 26 = nI m ∧ ∀ i, i < m → ∀ v, v < 3 → I2 113 (3 * i + v) = mo_R w g t n B b i v
theorem mo_fd_of {I Ib I2 : pm_I} {w : Nat → Int32} {g : Int32} {t n b m : Nat} {B : Nat → Nat → Int32} (h : mo_fr I w g t n B b m Ib) (h2 : mo_off Ib I2) : mo_fd I w g t n B b m I2 := by
  obtain ⟨a1, a2, a3, a4⟩ := h
  obtain ⟨b1, b2⟩ := h2
  exact ⟨fun q q1 q2 q3 => by rw [b1 q q2, a1 q q1 q3], fun p hp => by rw [b1 102 (by decide), a2 p hp], fun k hk => by rw [b2 k hk, a1 106 (by decide) (by decide)], by rw [b1 102 (by decide), a3], fun i hi v hv => by rw [b1 113 (by decide), a4 i hi v hv]⟩
theorem mo_bit3 (i v : Nat) : nI 3 * nI i + nI v = nI (3 * i + v) := by rw [pk_mul, nI_add]
/-- rows copied -/
def mo_rc (f g : Nat → Int32) (k : Nat) : Nat → Int32 := fun j => if j < k then g j else f j
theorem mo_rc_next (f g : Nat → Int32) (k : Nat) : upd (mo_rc f g k) k (g k) = mo_rc f g (k + 1) := by
  funext j
  unfold upd mo_rc
  grind
abbrev mo_jok (I : pm_I) (R : Nat → Int32) (i : Nat) : Prop := I 112 (3 * i) = R 0 ∧ I 112 (3 * i + 1) = R 1 ∧ I 112 (3 * i + 2) = R 2
theorem tr_hi_none {H : Nat → Int32} {k : Nat} (h : tr_hi H k = none) : tr_hi H (k + 1) = some k := by rw [tr_hi, h]
theorem tr_hi_some {H : Nat → Int32} {k b : Nat} (h : tr_hi H k = some b) : tr_hi H (k + 1) = if H b < H k then some k else some b := by rw [tr_hi, h]
theorem tr_hi_n3 {H : Nat → Int32} {k : Nat} (hk : k ≤ 6) (h : bl_enc (tr_hi H k) = -3) : tr_hi H k = none := by
  cases e : tr_hi H k with
  | none => rfl
  | some q =>
    rw [e] at h
    exact absurd h (nI_ne3 (by have := tr_hi_lt e; omega))
theorem mo_R_0 {w : Nat → Int32} {g : Int32} {t n b i : Nat} {B : Nat → Nat → Int32} : mo_R w g t n B b i 0 = tr_ev w 0 t (B b) (i + 1) 3 := if_pos rfl
theorem mo_R_1 {w : Nat → Int32} {g : Int32} {t n b i : Nat} {B : Nat → Nat → Int32} : mo_R w g t n B b i 1 = tr_ev w 0 t (B b) (i + 1) 5 := by unfold mo_R; rw [if_neg (by decide), if_pos rfl]
theorem mo_R_2 {w : Nat → Int32} {g : Int32} {t n b i : Nat} {B : Nat → Nat → Int32} : mo_R w g t n B b i 2 = nI (tr_ti B (fun b k => tr_ev w 0 t (B b) k 3) g b (B b 2) (i + 1) n) := by unfold mo_R; rw [if_neg (by decide), if_neg (by decide)]
set_option maxHeartbeats 4000000 in
set_option maxRecDepth 100000 in
theorem c_X8_highest {d : Nat} {I : pm_I} {J : pm_J} {w : Nat → Int32} {g : Int32} {n t : Nat} {B : Nat → Nat → Int32} (hF : mo_F I w g 0 n) (ht : t ≤ 96) (hok : ∀ b, b < n → mo_ok (B b)) (hW : mo_W I 0 t n B I) {h : Nat} (hh : h ≤ 48)  : pm_M (d + 6) 0 0 yX8_highest cX8_highest 4 (some .int) [.ref 102, .int (nI h)] SHP I J (fun r sh2 I2 J2 => r = some (.int (bl_enc (tr_hi (fun b => tr_ev w 0 t (B b) (min h (96 - t)) 3) n))) ∧ sh2 = SHP ∧ J2 = J ∧ mo_off I I2) := by
  refine pm_start (own := RX8) (nm := "highest") (by decide) rfl rfl (L := [(0, .ref 102), (1, .int (nI h))]) rfl (Nat.le_of_ble_eq_true rfl) (fun Γ C C2 => ?_)
  have h6 := hF.2.1
  have hloop : ∀ I9, mo_E I w 0 43 t n B (min h (96 - t)) I9 → ∀ j, j ≤ n → pm_G Γ 0 0 23 [(0, .ref 102), (1, .int (nI h)), (2, .int (bl_enc (tr_hi (fun b => tr_ev w 0 t (B b) (min h (96 - t)) 3) j))), (3, .int (nI j))] [] SHP I9 J := by
    intro I9 hV
    have hn9 : I9 102 2 = nI n := (hV.2.1 2 (by decide)).trans hF.1
    refine pm_up (fun j => pm_G Γ 0 0 23 [(0, .ref 102), (1, .int (nI h)), (2, .int (bl_enc (tr_hi (fun b => tr_ev w 0 t (B b) (min h (96 - t)) 3) j))), (3, .int (nI j))] [] SHP I9 J) n (fun j hj ih => ?_)
    refine g_iload_n (pc := 23) (i := 3) (j := 3) C dX8_highest_23 rfl rfl ?_
    refine g_aload_n (pc := 24) (i := 0) (j := 0) C dX8_highest_24 rfl rfl ?_
    refine g_getI (pc := 25) C dX8_highest_25 lfX8_82 (by first | rfl | assumption) rfl ?_
    refine g_icmp_ge (pc := 28) (tgt := 62) C dX8_highest_28 (by decide) (fun h28 => ?_) (fun h28 => ?_)
    · have ej : j = n := by (try rw [hn9] at h28); have := (nI_leI (a := n) (b := j) (by omega) (by omega)).mp h28; omega
      subst ej
      refine g_aload_n (pc := 62) (i := 0) (j := 0) C dX8_highest_62 rfl rfl ?_
      refine g_iconst (pc := 63) (v := 0) C dX8_highest_63 (by decide) ?_
      refine g_putI (pc := 64) C dX8_highest_64 lpX8_85 rfl rfl (by first | rfl | assumption) rfl ?_
      refine g_iload_n (pc := 67) (i := 2) (j := 2) C dX8_highest_67 rfl rfl ?_
      refine g_iret (pc := 68) C C2 dX8_highest_68 rfl (Nat.le_refl _) (Nat.le_refl _) ?_
      exact ⟨rfl, rfl, rfl, mo_W_back hV hW.2.2.1⟩
    · have hlt : j < n := by (try rw [hn9] at h28); exact Nat.lt_of_not_le (fun q => h28 ((nI_leI (a := n) (b := j) (by omega) (by omega)).mpr q))
      have sg := pm_neg3 (x := bl_enc (tr_hi (fun b => tr_ev w 0 t (B b) (min h (96 - t)) 3) j)) (by cases e : tr_hi (fun b => tr_ev w 0 t (B b) (min h (96 - t)) 3) j with | none => exact Or.inl rfl | some q => exact Or.inr (nI_pos' (by have := tr_hi_lt e; omega)))
      refine g_iload_n (pc := 31) (i := 2) (j := 2) C dX8_highest_31 rfl rfl ?_
      refine g_if_lt (pc := 32) (tgt := 50) C dX8_highest_32 (by decide) (fun h32 => ?_) (fun h32 => ?_)
      · refine g_iload_n (pc := 50) (i := 3) (j := 3) C dX8_highest_50 rfl rfl ?_
        refine g_goto (pc := 51) (tgt := 55) C dX8_highest_51 (by decide) ?_
        refine g_istore_n (pc := 55) (i := 2) (L2 := [(0, _), (1, _), (2, _), (3, _)]) C dX8_highest_55 rfl (by decide) rfl ?_
        refine g_iinc (pc := 56) (j := 3) (v := _ + 1) (L2 := [(0, _), (1, _), (2, _), (3, _)]) C dX8_highest_56 rfl rfl (by decide) rfl ?_
        refine g_goto (pc := 59) (tgt := 23) C dX8_highest_59 (by decide) ?_
        refine pm_Geq (ih hlt) ?_ rfl rfl rfl
        first | (rw [tr_hi_none (tr_hi_n3 (by omega) (sg.mp h32))]; simp only [nI_1, bl_enc]) | (rw [tr_hi_some eq]; first | (rw [if_pos (Int32.not_le.mp h47)]; simp only [nI_1, bl_enc]) | (rw [if_neg (Int32.not_lt.mpr h47)]; simp only [nI_1, bl_enc]))
      · obtain ⟨q, eq⟩ := bl_enc_some (fun z => h32 (sg.mpr z))
        have hq := tr_hi_lt eq
        simp only [eq, bl_enc]
        refine g_aload_n (pc := 35) (i := 0) (j := 0) C dX8_highest_35 rfl rfl ?_
        refine g_iload_n (pc := 36) (i := 3) (j := 3) C dX8_highest_36 rfl rfl ?_
        refine g_iconst (pc := 37) (v := 2) C dX8_highest_37 (by decide) ?_
        refine g_callV (pc := 38) C dX8_highest_38 lmX8_219 kcX8_its (by decide) (by first | rfl | assumption) (c_mo_its hF (by decide) (by omega) hV hlt (p := 2) (by decide) (by decide)) rfl rfl (Nat.le_of_ble_eq_true rfl) ?_
        intro r9 sh9 I9 J9 hD9; obtain ⟨rfl, rfl, rfl, rfl⟩ := pm_Dq hD9; clear hD9
        try simp only [Option.toList_some, Option.toList_none, List.cons_append, List.nil_append]
        refine g_aload_n (pc := 41) (i := 0) (j := 0) C dX8_highest_41 rfl rfl ?_
        refine g_iload_n (pc := 42) (i := 2) (j := 2) C dX8_highest_42 rfl rfl ?_
        refine g_iconst (pc := 43) (v := 2) C dX8_highest_43 (by decide) ?_
        refine g_callV (pc := 44) C dX8_highest_44 lmX8_219 kcX8_its (by decide) (by first | rfl | assumption) (c_mo_its hF (by decide) (by omega) hV (show q < n by omega) (p := 2) (by decide) (by decide)) rfl rfl (Nat.le_of_ble_eq_true rfl) ?_
        intro r9 sh9 I9 J9 hD9; obtain ⟨rfl, rfl, rfl, rfl⟩ := pm_Dq hD9; clear hD9
        try simp only [Option.toList_some, Option.toList_none, List.cons_append, List.nil_append]
        refine g_icmp_le (pc := 47) (tgt := 54) C dX8_highest_47 (by decide) (fun h47 => ?_) (fun h47 => ?_)
        · refine g_iload_n (pc := 54) (i := 2) (j := 2) C dX8_highest_54 rfl rfl ?_
          refine g_istore_n (pc := 55) (i := 2) (L2 := [(0, _), (1, _), (2, _), (3, _)]) C dX8_highest_55 rfl (by decide) rfl ?_
          refine g_iinc (pc := 56) (j := 3) (v := _ + 1) (L2 := [(0, _), (1, _), (2, _), (3, _)]) C dX8_highest_56 rfl rfl (by decide) rfl ?_
          refine g_goto (pc := 59) (tgt := 23) C dX8_highest_59 (by decide) ?_
          refine pm_Geq (ih hlt) ?_ rfl rfl rfl
          first | (rw [tr_hi_none (tr_hi_n3 (by omega) (sg.mp h32))]; simp only [nI_1, bl_enc]) | (rw [tr_hi_some eq]; first | (rw [if_pos (Int32.not_le.mp h47)]; simp only [nI_1, bl_enc]) | (rw [if_neg (Int32.not_lt.mpr h47)]; simp only [nI_1, bl_enc]))
        · refine g_iload_n (pc := 50) (i := 3) (j := 3) C dX8_highest_50 rfl rfl ?_
          refine g_goto (pc := 51) (tgt := 55) C dX8_highest_51 (by decide) ?_
          refine g_istore_n (pc := 55) (i := 2) (L2 := [(0, _), (1, _), (2, _), (3, _)]) C dX8_highest_55 rfl (by decide) rfl ?_
          refine g_iinc (pc := 56) (j := 3) (v := _ + 1) (L2 := [(0, _), (1, _), (2, _), (3, _)]) C dX8_highest_56 rfl rfl (by decide) rfl ?_
          refine g_goto (pc := 59) (tgt := 23) C dX8_highest_59 (by decide) ?_
          refine pm_Geq (ih hlt) ?_ rfl rfl rfl
          first | (rw [tr_hi_none (tr_hi_n3 (by omega) (sg.mp h32))]; simp only [nI_1, bl_enc]) | (rw [tr_hi_some eq]; first | (rw [if_pos (Int32.not_le.mp h47)]; simp only [nI_1, bl_enc]) | (rw [if_neg (Int32.not_lt.mpr h47)]; simp only [nI_1, bl_enc]))
  refine g_iload_n (pc := 0) (i := 1) (j := 1) C dX8_highest_0 rfl rfl ?_
  refine g_callS (pc := 1) C dX8_highest_1 lmX8_286 kcX8_isTrial (by decide) (c_X8_isTrial) rfl rfl (Nat.le_of_ble_eq_true rfl) ?_
  intro r9 sh9 I9 J9 hD9; obtain ⟨rfl, rfl, rfl, rfl⟩ := pm_Dq hD9; clear hD9
  try simp only [Option.toList_some, Option.toList_none, List.cons_append, List.nil_append]
  refine g_if_neB (pc := 4) (tgt := 9) C dX8_highest_4 (by decide) (fun h4 => ?_) (fun h4 => absurd ⟨by exact nI_le (a := 0) (b := h) (by omega) (by omega), by exact nI_le (a := h) (b := 48) (by omega) (by decide)⟩ h4)
  refine g_aload_n (pc := 9) (i := 0) (j := 0) C dX8_highest_9 rfl rfl ?_
  refine g_callV (pc := 10) C dX8_highest_10 lmX8_292 kcX8_lends (by decide) (by first | rfl | assumption) (c_X8_lends) rfl rfl (Nat.le_of_ble_eq_true rfl) ?_
  intro r9 sh9 I9 J9 hD9; obtain ⟨rfl, rfl, rfl, rfl⟩ := pm_Dq hD9; clear hD9
  try simp only [Option.toList_some, Option.toList_none, List.cons_append, List.nil_append]
  have hL := mo_W_lend hW hF.2.1
  refine g_aload_n (pc := 13) (i := 0) (j := 0) C dX8_highest_13 rfl rfl ?_
  refine g_iload_n (pc := 14) (i := 1) (j := 1) C dX8_highest_14 rfl rfl ?_
  refine g_callV (pc := 15) C dX8_highest_15 lmX8_289 kcX8_go (by decide) (by first | rfl | assumption) (c_X8_go (a := 43) hF (by decide) ht hok hh hL) rfl rfl (Nat.le_of_ble_eq_true rfl) ?_
  intro r9 sh9 I9 J9 hD9; obtain ⟨rfl, rfl, rfl, hV⟩ := hD9
  try simp only [Option.toList_some, Option.toList_none, List.cons_append, List.nil_append]
  refine g_bipush (pc := 18) (v := (-3)) C dX8_highest_18 (by decide) ?_
  refine g_istore_n (pc := 20) (i := 2) (L2 := [(0, _), (1, _), (2, _)]) C dX8_highest_20 rfl (by decide) rfl ?_
  refine g_iconst (pc := 21) (v := 0) C dX8_highest_21 (by decide) ?_
  refine g_istore_n (pc := 22) (i := 3) (L2 := [(0, _), (1, _), (2, _), (3, _)]) C dX8_highest_22 rfl (by decide) rfl ?_
  exact hloop I9 hV 0 (Nat.zero_le _)

set_option maxHeartbeats 4000000 in
set_option maxRecDepth 100000 in
theorem c_X8_highest0 {d : Nat} {x : Int32} {I : pm_I} {J : pm_J} (hv : ¬ (0 ≤ x ∧ x ≤ 48)) : pm_M (d + 2) 0 0 yX8_highest cX8_highest 4 (some .int) [.ref 102, .int x] SHP I J (pm_D (some (.int (-1))) SHP I J) := by
  refine pm_start (own := RX8) (nm := "highest") (by decide) rfl rfl (L := [(0, .ref 102), (1, .int x)]) rfl (Nat.le_of_ble_eq_true rfl) (fun Γ C C2 => ?_)
  refine g_iload_n (pc := 0) (i := 1) (j := 1) C dX8_highest_0 rfl rfl ?_
  refine g_callS (pc := 1) C dX8_highest_1 lmX8_286 kcX8_isTrial (by decide) (c_X8_isTrial) rfl rfl (Nat.le_of_ble_eq_true rfl) ?_
  intro r9 sh9 I9 J9 hD9; obtain ⟨rfl, rfl, rfl, rfl⟩ := pm_Dq hD9; clear hD9
  try simp only [Option.toList_some, Option.toList_none, List.cons_append, List.nil_append]
  refine g_if_neB (pc := 4) (tgt := 9) C dX8_highest_4 (by decide) (fun h4 => ?_) (fun h4 => ?_)
  · exact absurd h4 hv
  · refine g_iconst (pc := 7) (v := (-1)) C dX8_highest_7 (by decide) ?_
    refine g_iret (pc := 8) C C2 dX8_highest_8 rfl (Nat.le_refl _) (Nat.le_refl _) ?_
    exact ⟨rfl, rfl, rfl, rfl⟩

set_option maxHeartbeats 4000000 in
set_option maxRecDepth 100000 in
theorem c_X8_help {d : Nat} {I : pm_I} {J : pm_J} {w : Nat → Int32} {g : Int32} {n t : Nat} {B : Nat → Nat → Int32} (hF : mo_F I w g 0 n) (ht : t ≤ 96) (hok : ∀ b, b < n → mo_ok (B b)) (hW : mo_W I 0 t n B I) {h : Nat} (h1 : 1 ≤ h) (hh : h ≤ 24) : pm_M (d + 6) 0 0 yX8_help cX8_help 8 (some .int) [.ref 102, .int (nI h)] SHP I J (fun r sh2 I2 J2 => r = some (.int ((hp_lin (fun i j => i < n ∧ j < n ∧ i ≠ j ∧ bl_can B i j 6 n 10) (fun i j => mo_hQ w g t (min h (96 - t)) n B i j 10) 36).1)) ∧ sh2 = SHP ∧ J2 = J ∧ mo_off I I2) := by
  refine pm_start (own := RX8) (nm := "help") (by decide) rfl rfl (L := [(0, .ref 102), (1, .int (nI h))]) rfl (Nat.le_of_ble_eq_true rfl) (fun Γ C C2 => ?_)
  have h6 := hF.2.1
  have hloop : ∀ j, j ≤ 36 → ∀ I9, mo_off I I9 → pm_G Γ 0 0 20 [(0, .ref 102), (1, .int (nI h)), (2, .int (hp_lin (fun i j => i < n ∧ j < n ∧ i ≠ j ∧ bl_can B i j 6 n 10) (fun i j => mo_hQ w g t (min h (96 - t)) n B i j 10) j).1), (3, .int (hp_lin (fun i j => i < n ∧ j < n ∧ i ≠ j ∧ bl_can B i j 6 n 10) (fun i j => mo_hQ w g t (min h (96 - t)) n B i j 10) j).2), (4, .int (nI j))] [] SHP I9 J := by
    refine pm_up (fun j => ∀ I9, mo_off I I9 → pm_G Γ 0 0 20 [(0, .ref 102), (1, .int (nI h)), (2, .int (hp_lin (fun i j => i < n ∧ j < n ∧ i ≠ j ∧ bl_can B i j 6 n 10) (fun i j => mo_hQ w g t (min h (96 - t)) n B i j 10) j).1), (3, .int (hp_lin (fun i j => i < n ∧ j < n ∧ i ≠ j ∧ bl_can B i j 6 n 10) (fun i j => mo_hQ w g t (min h (96 - t)) n B i j 10) j).2), (4, .int (nI j))] [] SHP I9 J) 36 (fun j hj ih I9 hO9 => ?_)
    have hF9 := mo_off_F hO9 hF
    have hW9 := mo_off_W hO9 h6 hW
    have sg := pm_neg3 (hp_lin_sg (P := (fun i j => i < n ∧ j < n ∧ i ≠ j ∧ bl_can B i j 6 n 10)) (Q := (fun i j => mo_hQ w g t (min h (96 - t)) n B i j 10)) j hj)
    have hb : ∀ x, x < 6 → (¬ (0 ≤ nI x ∧ nI x ≤ I9 102 2 - 1) → ¬ x < n) ∧ ((0 ≤ nI x ∧ nI x ≤ I9 102 2 - 1) → x < n) := fun x hx => ⟨fun q z => q ⟨nI_pos' (by omega), by rw [hF9.1]; exact pm_leP z (by omega)⟩, fun q => by rw [hF9.1] at q; obtain ⟨b, h3, h4⟩ := pm_hasN (by omega) q; have := (nI_eq (a := x) (b := b) (by omega) (by omega)).mp h4; omega⟩
    refine g_iload (pc := 20) (j := 4) C dX8_help_20 rfl ?_
    refine g_bipush (pc := 22) (v := 36) C dX8_help_22 (by decide) ?_
    refine g_icmp_ge (pc := 24) (tgt := 161) C dX8_help_24 (by decide) (fun h24 => ?_) (fun h24 => ?_)
    · have ej : j = 36 := by have := (nI_leI (a := 36) (b := j) (by decide) (by omega)).mp h24; omega
      subst ej
      refine g_iload_n (pc := 161) (i := 2) (j := 2) C dX8_help_161 rfl rfl ?_
      refine g_iret (pc := 162) C C2 dX8_help_162 rfl (Nat.le_refl _) (Nat.le_refl _) ?_
      exact ⟨rfl, rfl, rfl, hO9⟩
    · have hlt : j < 36 := Nat.lt_of_not_le (fun q => h24 ((nI_leI (a := 36) (b := j) (by decide) (by omega)).mpr q))
      have hd6 : j / 6 < 6 := by omega
      have hm6 : j % 6 < 6 := by omega
      refine g_iload (pc := 27) (j := 4) C dX8_help_27 rfl ?_
      refine g_bipush (pc := 29) (v := 6) C dX8_help_29 (by decide) ?_
      refine g_idiv (pc := 31) C dX8_help_31 (by decide) ?_
      refine g_istore (pc := 32) (L2 := [(0, _), (1, _), (2, _), (3, _), (4, _), (5, _)]) C dX8_help_32 (by decide) rfl ?_
      rw [show nI j / 6 = nI (j / 6) from pk_div (d := 6) (by omega) (by decide) (by decide)]
      refine g_iload (pc := 34) (j := 4) C dX8_help_34 rfl ?_
      refine g_bipush (pc := 36) (v := 6) C dX8_help_36 (by decide) ?_
      refine g_irem (pc := 38) C dX8_help_38 (by decide) ?_
      rw [show nI j - nI j / 6 * 6 = nI (j % 6) from pk_rem (d := 6) (by omega) (by decide) (by decide)]
      refine g_istore (pc := 39) (L2 := [(0, _), (1, _), (2, _), (3, _), (4, _), (5, _), (6, _)]) C dX8_help_39 (by decide) rfl ?_
      refine g_aload_n (pc := 41) (i := 0) (j := 0) C dX8_help_41 rfl rfl ?_
      refine g_iload (pc := 42) (j := 5) C dX8_help_42 rfl ?_
      refine g_callV (pc := 44) C dX8_help_44 lmX8_234 kcX8_isBalloon (by decide) (by first | rfl | assumption) (c_X8_isBalloon) rfl rfl (Nat.le_of_ble_eq_true rfl) ?_
      intro r9 sh9 I9 J9 hD9; obtain ⟨rfl, rfl, rfl, rfl⟩ := pm_Dq hD9; clear hD9
      try simp only [Option.toList_some, Option.toList_none, List.cons_append, List.nil_append]
      refine g_if_eqB (pc := 47) (tgt := 155) C dX8_help_47 (by decide) (fun h47 => ?_) (fun h47 => ?_)
      · refine g_iinc (pc := 155) (j := 4) (v := _ + 1) (L2 := [(0, _), (1, _), (2, _), (3, _), (4, _), (5, _), (6, _)]) C dX8_help_155 rfl rfl (by decide) rfl ?_
        refine g_goto (pc := 158) (tgt := 20) C dX8_help_158 (by decide) ?_
        refine pm_drop (L := [(0, _), (1, _), (2, _), (3, _), (4, _)]) ?_ [0, 1, 2, 3, 4] rfl
        first | (refine pm_Geq (ih hlt _ (mo_off_tr hO9 (mo_W_back hV hW9.2.2.1))) ?_ rfl rfl rfl; first | rw [(show hp_lin (fun i j => i < n ∧ j < n ∧ i ≠ j ∧ bl_can B i j 6 n 10) (fun i j => mo_hQ w g t (min h (96 - t)) n B i j 10) (j + 1) = hp_st (fun i j => i < n ∧ j < n ∧ i ≠ j ∧ bl_can B i j 6 n 10) (fun i j => mo_hQ w g t (min h (96 - t)) n B i j 10) (j / 6) (j % 6) (hp_lin (fun i j => i < n ∧ j < n ∧ i ≠ j ∧ bl_can B i j 6 n 10) (fun i j => mo_hQ w g t (min h (96 - t)) n B i j 10) j) from rfl), hp_st_set hPj (Or.inl (sg.mp h134))] | rw [(show hp_lin (fun i j => i < n ∧ j < n ∧ i ≠ j ∧ bl_can B i j 6 n 10) (fun i j => mo_hQ w g t (min h (96 - t)) n B i j 10) (j + 1) = hp_st (fun i j => i < n ∧ j < n ∧ i ≠ j ∧ bl_can B i j 6 n 10) (fun i j => mo_hQ w g t (min h (96 - t)) n B i j 10) (j / 6) (j % 6) (hp_lin (fun i j => i < n ∧ j < n ∧ i ≠ j ∧ bl_can B i j 6 n 10) (fun i j => mo_hQ w g t (min h (96 - t)) n B i j 10) j) from rfl), hp_st_set hPj (Or.inr (Int32.not_le.mp h140))] | rw [(show hp_lin (fun i j => i < n ∧ j < n ∧ i ≠ j ∧ bl_can B i j 6 n 10) (fun i j => mo_hQ w g t (min h (96 - t)) n B i j 10) (j + 1) = hp_st (fun i j => i < n ∧ j < n ∧ i ≠ j ∧ bl_can B i j 6 n 10) (fun i j => mo_hQ w g t (min h (96 - t)) n B i j 10) (j / 6) (j % 6) (hp_lin (fun i j => i < n ∧ j < n ∧ i ≠ j ∧ bl_can B i j 6 n 10) (fun i j => mo_hQ w g t (min h (96 - t)) n B i j 10) j) from rfl), hp_st_keep hPj (fun q => h134 (sg.mpr q)) h140]) | (refine pm_Geq (ih hlt _ hO9) ?_ rfl rfl rfl; rw [(show hp_lin (fun i j => i < n ∧ j < n ∧ i ≠ j ∧ bl_can B i j 6 n 10) (fun i j => mo_hQ w g t (min h (96 - t)) n B i j 10) (j + 1) = hp_st (fun i j => i < n ∧ j < n ∧ i ≠ j ∧ bl_can B i j 6 n 10) (fun i j => mo_hQ w g t (min h (96 - t)) n B i j 10) (j / 6) (j % 6) (hp_lin (fun i j => i < n ∧ j < n ∧ i ≠ j ∧ bl_can B i j 6 n 10) (fun i j => mo_hQ w g t (min h (96 - t)) n B i j 10) j) from rfl), hp_st_no (fun z => by first | exact (hb (j / 6) hd6).1 h47 z.1 | exact (hb (j % 6) hm6).1 h56 z.2.1 | exact z.2.2.1 ((nI_eq (by omega) (by omega)).mp h63) | exact h103 z.2.2.2)])
        all_goals first | (rw [show nI 10 * nI (j / 6) + nI (j % 6) = nI (10 * (j / 6) + j % 6) by rw [pk_mul, nI_add]]; simp only [nI_1]) | simp only [nI_1, show (10 : Int32) * nI (j / 6) + nI (j % 6) = nI (10 * (j / 6) + j % 6) by rw [show (10 : Int32) = nI 10 from rfl, pk_mul, nI_add]]
      · refine g_aload_n (pc := 50) (i := 0) (j := 0) C dX8_help_50 rfl rfl ?_
        refine g_iload (pc := 51) (j := 6) C dX8_help_51 rfl ?_
        refine g_callV (pc := 53) C dX8_help_53 lmX8_234 kcX8_isBalloon (by decide) (by first | rfl | assumption) (c_X8_isBalloon) rfl rfl (Nat.le_of_ble_eq_true rfl) ?_
        intro r9 sh9 I9 J9 hD9; obtain ⟨rfl, rfl, rfl, rfl⟩ := pm_Dq hD9; clear hD9
        try simp only [Option.toList_some, Option.toList_none, List.cons_append, List.nil_append]
        refine g_if_eqB (pc := 56) (tgt := 155) C dX8_help_56 (by decide) (fun h56 => ?_) (fun h56 => ?_)
        · refine g_iinc (pc := 155) (j := 4) (v := _ + 1) (L2 := [(0, _), (1, _), (2, _), (3, _), (4, _), (5, _), (6, _)]) C dX8_help_155 rfl rfl (by decide) rfl ?_
          refine g_goto (pc := 158) (tgt := 20) C dX8_help_158 (by decide) ?_
          refine pm_drop (L := [(0, _), (1, _), (2, _), (3, _), (4, _)]) ?_ [0, 1, 2, 3, 4] rfl
          first | (refine pm_Geq (ih hlt _ (mo_off_tr hO9 (mo_W_back hV hW9.2.2.1))) ?_ rfl rfl rfl; first | rw [(show hp_lin (fun i j => i < n ∧ j < n ∧ i ≠ j ∧ bl_can B i j 6 n 10) (fun i j => mo_hQ w g t (min h (96 - t)) n B i j 10) (j + 1) = hp_st (fun i j => i < n ∧ j < n ∧ i ≠ j ∧ bl_can B i j 6 n 10) (fun i j => mo_hQ w g t (min h (96 - t)) n B i j 10) (j / 6) (j % 6) (hp_lin (fun i j => i < n ∧ j < n ∧ i ≠ j ∧ bl_can B i j 6 n 10) (fun i j => mo_hQ w g t (min h (96 - t)) n B i j 10) j) from rfl), hp_st_set hPj (Or.inl (sg.mp h134))] | rw [(show hp_lin (fun i j => i < n ∧ j < n ∧ i ≠ j ∧ bl_can B i j 6 n 10) (fun i j => mo_hQ w g t (min h (96 - t)) n B i j 10) (j + 1) = hp_st (fun i j => i < n ∧ j < n ∧ i ≠ j ∧ bl_can B i j 6 n 10) (fun i j => mo_hQ w g t (min h (96 - t)) n B i j 10) (j / 6) (j % 6) (hp_lin (fun i j => i < n ∧ j < n ∧ i ≠ j ∧ bl_can B i j 6 n 10) (fun i j => mo_hQ w g t (min h (96 - t)) n B i j 10) j) from rfl), hp_st_set hPj (Or.inr (Int32.not_le.mp h140))] | rw [(show hp_lin (fun i j => i < n ∧ j < n ∧ i ≠ j ∧ bl_can B i j 6 n 10) (fun i j => mo_hQ w g t (min h (96 - t)) n B i j 10) (j + 1) = hp_st (fun i j => i < n ∧ j < n ∧ i ≠ j ∧ bl_can B i j 6 n 10) (fun i j => mo_hQ w g t (min h (96 - t)) n B i j 10) (j / 6) (j % 6) (hp_lin (fun i j => i < n ∧ j < n ∧ i ≠ j ∧ bl_can B i j 6 n 10) (fun i j => mo_hQ w g t (min h (96 - t)) n B i j 10) j) from rfl), hp_st_keep hPj (fun q => h134 (sg.mpr q)) h140]) | (refine pm_Geq (ih hlt _ hO9) ?_ rfl rfl rfl; rw [(show hp_lin (fun i j => i < n ∧ j < n ∧ i ≠ j ∧ bl_can B i j 6 n 10) (fun i j => mo_hQ w g t (min h (96 - t)) n B i j 10) (j + 1) = hp_st (fun i j => i < n ∧ j < n ∧ i ≠ j ∧ bl_can B i j 6 n 10) (fun i j => mo_hQ w g t (min h (96 - t)) n B i j 10) (j / 6) (j % 6) (hp_lin (fun i j => i < n ∧ j < n ∧ i ≠ j ∧ bl_can B i j 6 n 10) (fun i j => mo_hQ w g t (min h (96 - t)) n B i j 10) j) from rfl), hp_st_no (fun z => by first | exact (hb (j / 6) hd6).1 h47 z.1 | exact (hb (j % 6) hm6).1 h56 z.2.1 | exact z.2.2.1 ((nI_eq (by omega) (by omega)).mp h63) | exact h103 z.2.2.2)])
          all_goals first | (rw [show nI 10 * nI (j / 6) + nI (j % 6) = nI (10 * (j / 6) + j % 6) by rw [pk_mul, nI_add]]; simp only [nI_1]) | simp only [nI_1, show (10 : Int32) * nI (j / 6) + nI (j % 6) = nI (10 * (j / 6) + j % 6) by rw [show (10 : Int32) = nI 10 from rfl, pk_mul, nI_add]]
        · refine g_iload (pc := 59) (j := 5) C dX8_help_59 rfl ?_
          refine g_iload (pc := 61) (j := 6) C dX8_help_61 rfl ?_
          refine g_icmp_eq (pc := 63) (tgt := 155) C dX8_help_63 (by decide) (fun h63 => ?_) (fun h63 => ?_)
          · refine g_iinc (pc := 155) (j := 4) (v := _ + 1) (L2 := [(0, _), (1, _), (2, _), (3, _), (4, _), (5, _), (6, _)]) C dX8_help_155 rfl rfl (by decide) rfl ?_
            refine g_goto (pc := 158) (tgt := 20) C dX8_help_158 (by decide) ?_
            refine pm_drop (L := [(0, _), (1, _), (2, _), (3, _), (4, _)]) ?_ [0, 1, 2, 3, 4] rfl
            first | (refine pm_Geq (ih hlt _ (mo_off_tr hO9 (mo_W_back hV hW9.2.2.1))) ?_ rfl rfl rfl; first | rw [(show hp_lin (fun i j => i < n ∧ j < n ∧ i ≠ j ∧ bl_can B i j 6 n 10) (fun i j => mo_hQ w g t (min h (96 - t)) n B i j 10) (j + 1) = hp_st (fun i j => i < n ∧ j < n ∧ i ≠ j ∧ bl_can B i j 6 n 10) (fun i j => mo_hQ w g t (min h (96 - t)) n B i j 10) (j / 6) (j % 6) (hp_lin (fun i j => i < n ∧ j < n ∧ i ≠ j ∧ bl_can B i j 6 n 10) (fun i j => mo_hQ w g t (min h (96 - t)) n B i j 10) j) from rfl), hp_st_set hPj (Or.inl (sg.mp h134))] | rw [(show hp_lin (fun i j => i < n ∧ j < n ∧ i ≠ j ∧ bl_can B i j 6 n 10) (fun i j => mo_hQ w g t (min h (96 - t)) n B i j 10) (j + 1) = hp_st (fun i j => i < n ∧ j < n ∧ i ≠ j ∧ bl_can B i j 6 n 10) (fun i j => mo_hQ w g t (min h (96 - t)) n B i j 10) (j / 6) (j % 6) (hp_lin (fun i j => i < n ∧ j < n ∧ i ≠ j ∧ bl_can B i j 6 n 10) (fun i j => mo_hQ w g t (min h (96 - t)) n B i j 10) j) from rfl), hp_st_set hPj (Or.inr (Int32.not_le.mp h140))] | rw [(show hp_lin (fun i j => i < n ∧ j < n ∧ i ≠ j ∧ bl_can B i j 6 n 10) (fun i j => mo_hQ w g t (min h (96 - t)) n B i j 10) (j + 1) = hp_st (fun i j => i < n ∧ j < n ∧ i ≠ j ∧ bl_can B i j 6 n 10) (fun i j => mo_hQ w g t (min h (96 - t)) n B i j 10) (j / 6) (j % 6) (hp_lin (fun i j => i < n ∧ j < n ∧ i ≠ j ∧ bl_can B i j 6 n 10) (fun i j => mo_hQ w g t (min h (96 - t)) n B i j 10) j) from rfl), hp_st_keep hPj (fun q => h134 (sg.mpr q)) h140]) | (refine pm_Geq (ih hlt _ hO9) ?_ rfl rfl rfl; rw [(show hp_lin (fun i j => i < n ∧ j < n ∧ i ≠ j ∧ bl_can B i j 6 n 10) (fun i j => mo_hQ w g t (min h (96 - t)) n B i j 10) (j + 1) = hp_st (fun i j => i < n ∧ j < n ∧ i ≠ j ∧ bl_can B i j 6 n 10) (fun i j => mo_hQ w g t (min h (96 - t)) n B i j 10) (j / 6) (j % 6) (hp_lin (fun i j => i < n ∧ j < n ∧ i ≠ j ∧ bl_can B i j 6 n 10) (fun i j => mo_hQ w g t (min h (96 - t)) n B i j 10) j) from rfl), hp_st_no (fun z => by first | exact (hb (j / 6) hd6).1 h47 z.1 | exact (hb (j % 6) hm6).1 h56 z.2.1 | exact z.2.2.1 ((nI_eq (by omega) (by omega)).mp h63) | exact h103 z.2.2.2)])
            all_goals first | (rw [show nI 10 * nI (j / 6) + nI (j % 6) = nI (10 * (j / 6) + j % 6) by rw [pk_mul, nI_add]]; simp only [nI_1]) | simp only [nI_1, show (10 : Int32) * nI (j / 6) + nI (j % 6) = nI (10 * (j / 6) + j % 6) by rw [show (10 : Int32) = nI 10 from rfl, pk_mul, nI_add]]
          · have hne : j / 6 ≠ j % 6 := fun q => h63 (by rw [q])
            refine g_aload_n (pc := 66) (i := 0) (j := 0) C dX8_help_66 rfl rfl ?_
            refine g_aload_n (pc := 67) (i := 0) (j := 0) C dX8_help_67 rfl rfl ?_
            refine g_iload (pc := 68) (j := 5) C dX8_help_68 rfl ?_
            refine g_callV (pc := 70) C dX8_help_70 lmX8_234 kcX8_isBalloon (by decide) (by first | rfl | assumption) (c_X8_isBalloon) rfl rfl (Nat.le_of_ble_eq_true rfl) ?_
            intro r9 sh9 I9 J9 hD9; obtain ⟨rfl, rfl, rfl, rfl⟩ := pm_Dq hD9; clear hD9
            try simp only [Option.toList_some, Option.toList_none, List.cons_append, List.nil_append]
            refine g_if_eqB (pc := 73) (tgt := 81) C dX8_help_73 (by decide) (fun h73 => absurd h47 h73) (fun h73 => ?_)
            refine g_iload (pc := 76) (j := 5) C dX8_help_76 rfl ?_
            refine g_goto (pc := 78) (tgt := 82) C dX8_help_78 (by decide) ?_
            refine g_aload_n (pc := 82) (i := 0) (j := 0) C dX8_help_82 rfl rfl ?_
            refine g_iload (pc := 83) (j := 6) C dX8_help_83 rfl ?_
            refine g_callV (pc := 85) C dX8_help_85 lmX8_234 kcX8_isBalloon (by decide) (by first | rfl | assumption) (c_X8_isBalloon) rfl rfl (Nat.le_of_ble_eq_true rfl) ?_
            intro r9 sh9 I9 J9 hD9; obtain ⟨rfl, rfl, rfl, rfl⟩ := pm_Dq hD9; clear hD9
            try simp only [Option.toList_some, Option.toList_none, List.cons_append, List.nil_append]
            refine g_if_eqB (pc := 88) (tgt := 96) C dX8_help_88 (by decide) (fun h88 => absurd h56 h88) (fun h88 => ?_)
            refine g_iload (pc := 91) (j := 6) C dX8_help_91 rfl ?_
            refine g_goto (pc := 93) (tgt := 97) C dX8_help_93 (by decide) ?_
            refine g_iconst (pc := 97) (v := 5) C dX8_help_97 (by decide) ?_
            refine g_bipush (pc := 98) (v := 10) C dX8_help_98 (by decide) ?_
            refine g_callV (pc := 100) C dX8_help_100 lmX8_259 kcX8_canGive (by decide) (by first | rfl | assumption) (c_X8_canGive (a := 0) (i := j / 6) (j := j % 6) (p := 5) hF9 (by decide) (by omega) hW9 ((hb (j / 6) (by omega)).2 h47) ((hb (j % 6) (by omega)).2 h56) (Or.inl rfl)) rfl rfl (Nat.le_of_ble_eq_true rfl) ?_
            intro r9 sh9 I9 J9 hD9; obtain ⟨rfl, rfl, rfl, rfl⟩ := pm_Dq hD9; clear hD9
            try simp only [Option.toList_some, Option.toList_none, List.cons_append, List.nil_append]
            refine g_if_eqB (pc := 103) (tgt := 155) C dX8_help_103 (by decide) (fun h103 => ?_) (fun h103 => ?_)
            · refine g_iinc (pc := 155) (j := 4) (v := _ + 1) (L2 := [(0, _), (1, _), (2, _), (3, _), (4, _), (5, _), (6, _)]) C dX8_help_155 rfl rfl (by decide) rfl ?_
              refine g_goto (pc := 158) (tgt := 20) C dX8_help_158 (by decide) ?_
              refine pm_drop (L := [(0, _), (1, _), (2, _), (3, _), (4, _)]) ?_ [0, 1, 2, 3, 4] rfl
              first | (refine pm_Geq (ih hlt _ (mo_off_tr hO9 (mo_W_back hV hW9.2.2.1))) ?_ rfl rfl rfl; first | rw [(show hp_lin (fun i j => i < n ∧ j < n ∧ i ≠ j ∧ bl_can B i j 6 n 10) (fun i j => mo_hQ w g t (min h (96 - t)) n B i j 10) (j + 1) = hp_st (fun i j => i < n ∧ j < n ∧ i ≠ j ∧ bl_can B i j 6 n 10) (fun i j => mo_hQ w g t (min h (96 - t)) n B i j 10) (j / 6) (j % 6) (hp_lin (fun i j => i < n ∧ j < n ∧ i ≠ j ∧ bl_can B i j 6 n 10) (fun i j => mo_hQ w g t (min h (96 - t)) n B i j 10) j) from rfl), hp_st_set hPj (Or.inl (sg.mp h134))] | rw [(show hp_lin (fun i j => i < n ∧ j < n ∧ i ≠ j ∧ bl_can B i j 6 n 10) (fun i j => mo_hQ w g t (min h (96 - t)) n B i j 10) (j + 1) = hp_st (fun i j => i < n ∧ j < n ∧ i ≠ j ∧ bl_can B i j 6 n 10) (fun i j => mo_hQ w g t (min h (96 - t)) n B i j 10) (j / 6) (j % 6) (hp_lin (fun i j => i < n ∧ j < n ∧ i ≠ j ∧ bl_can B i j 6 n 10) (fun i j => mo_hQ w g t (min h (96 - t)) n B i j 10) j) from rfl), hp_st_set hPj (Or.inr (Int32.not_le.mp h140))] | rw [(show hp_lin (fun i j => i < n ∧ j < n ∧ i ≠ j ∧ bl_can B i j 6 n 10) (fun i j => mo_hQ w g t (min h (96 - t)) n B i j 10) (j + 1) = hp_st (fun i j => i < n ∧ j < n ∧ i ≠ j ∧ bl_can B i j 6 n 10) (fun i j => mo_hQ w g t (min h (96 - t)) n B i j 10) (j / 6) (j % 6) (hp_lin (fun i j => i < n ∧ j < n ∧ i ≠ j ∧ bl_can B i j 6 n 10) (fun i j => mo_hQ w g t (min h (96 - t)) n B i j 10) j) from rfl), hp_st_keep hPj (fun q => h134 (sg.mpr q)) h140]) | (refine pm_Geq (ih hlt _ hO9) ?_ rfl rfl rfl; rw [(show hp_lin (fun i j => i < n ∧ j < n ∧ i ≠ j ∧ bl_can B i j 6 n 10) (fun i j => mo_hQ w g t (min h (96 - t)) n B i j 10) (j + 1) = hp_st (fun i j => i < n ∧ j < n ∧ i ≠ j ∧ bl_can B i j 6 n 10) (fun i j => mo_hQ w g t (min h (96 - t)) n B i j 10) (j / 6) (j % 6) (hp_lin (fun i j => i < n ∧ j < n ∧ i ≠ j ∧ bl_can B i j 6 n 10) (fun i j => mo_hQ w g t (min h (96 - t)) n B i j 10) j) from rfl), hp_st_no (fun z => by first | exact (hb (j / 6) hd6).1 h47 z.1 | exact (hb (j % 6) hm6).1 h56 z.2.1 | exact z.2.2.1 ((nI_eq (by omega) (by omega)).mp h63) | exact h103 z.2.2.2)])
              all_goals first | (rw [show nI 10 * nI (j / 6) + nI (j % 6) = nI (10 * (j / 6) + j % 6) by rw [pk_mul, nI_add]]; simp only [nI_1]) | simp only [nI_1, show (10 : Int32) * nI (j / 6) + nI (j % 6) = nI (10 * (j / 6) + j % 6) by rw [show (10 : Int32) = nI 10 from rfl, pk_mul, nI_add]]
            · have hPj : (fun i j => i < n ∧ j < n ∧ i ≠ j ∧ bl_can B i j 6 n 10) (j / 6) (j % 6) := ⟨(hb (j / 6) hd6).2 h47, (hb (j % 6) hm6).2 h56, hne, h103⟩
              have hok2 : ∀ b, b < n → mo_ok (mo_hF B (j / 6) (j % 6) 10 b) := by
                intro b hbn
                unfold mo_hF
                split
                · exact mo_ok_u (hok _ hPj.2.1) (by decide) (by decide)
                · split
                  · exact mo_ok_u (hok _ hPj.1) (by decide) (by decide)
                  · exact hok b hbn
              have hC2 : ∀ b, b < n → mo_hF B (j / 6) (j % 6) 10 b 2 = B b 2 := by
                intro b hbn
                unfold mo_hF
                split
                · next e => rw [pk_un (by decide), e]
                · split
                  · next e => rw [pk_un (by decide), e]
                  · rfl
              refine g_aload_n (pc := 106) (i := 0) (j := 0) C dX8_help_106 rfl rfl ?_
              refine g_callV (pc := 107) C dX8_help_107 lmX8_292 kcX8_lends (by decide) (by first | rfl | assumption) (c_X8_lends) rfl rfl (Nat.le_of_ble_eq_true rfl) ?_
              intro r9 sh9 I9 J9 hD9; obtain ⟨rfl, rfl, rfl, rfl⟩ := pm_Dq hD9; clear hD9
              try simp only [Option.toList_some, Option.toList_none, List.cons_append, List.nil_append]
              have hL := mo_W_lend hW9 h6
              refine g_aload_n (pc := 110) (i := 0) (j := 0) C dX8_help_110 rfl rfl ?_
              refine g_iload (pc := 111) (j := 5) C dX8_help_111 rfl ?_
              refine g_iload (pc := 113) (j := 6) C dX8_help_113 rfl ?_
              refine g_iconst (pc := 115) (v := 5) C dX8_help_115 (by decide) ?_
              refine g_bipush (pc := 116) (v := 10) C dX8_help_116 (by decide) ?_
              refine g_callV (pc := 118) C dX8_help_118 lmX8_263 kcX8_gives (by decide) (by first | rfl | assumption) (c_X8_gives (a := 43) (i := j / 6) (j := j % 6) (p := 5) hF9 (by decide) (by omega) hL ((hb (j / 6) (by omega)).2 h47) ((hb (j % 6) (by omega)).2 h56) (Or.inl rfl)) rfl rfl (Nat.le_of_ble_eq_true rfl) ?_
              intro r9 sh9 I10 J9 hD9; obtain ⟨rfl, rfl, rfl, hG⟩ := hD9
              try simp only [Option.toList_some, Option.toList_none, List.cons_append, List.nil_append]
              rw [mo_hF_eq hne] at hG
              refine g_aload_n (pc := 121) (i := 0) (j := 0) C dX8_help_121 rfl rfl ?_
              refine g_iload_n (pc := 122) (i := 1) (j := 1) C dX8_help_122 rfl rfl ?_
              refine g_callV (pc := 123) C dX8_help_123 lmX8_310 kcX8_pairsBehind (by decide) (by first | rfl | assumption) (c_X8_pairsBehind (a := 43) (h := h) (Bc := B) hF9 (by decide) ht (B := mo_hF B (j / 6) (j % 6) 10) hok2 (by omega) hC2 hG) rfl rfl (Nat.le_of_ble_eq_true rfl) ?_
              intro r9 sh9 I11 J9 hD9; obtain ⟨rfl, rfl, rfl, k9, hV⟩ := hD9
              try simp only [Option.toList_some, Option.toList_none, List.cons_append, List.nil_append]
              refine g_istore (pc := 126) (L2 := [(0, _), (1, _), (2, _), (3, _), (4, _), (5, _), (6, _), (7, _)]) C dX8_help_126 (by decide) rfl ?_
              have eQ : nI (tr_s2 B (fun b k => tr_ev w 0 t (mo_hF B (j / 6) (j % 6) 10 b) k 3) g n (min h (96 - t)) / 2) = mo_hQ w g t (min h (96 - t)) n B (j / 6) (j % 6) 10 := by
                unfold mo_hQ
                rw [show (2 : Int32) = nI 2 from rfl, pk_div (by have := tr_s2_le (B := B) (Hf := fun b k => tr_ev w 0 t (mo_hF B (j / 6) (j % 6) 10 b) k 3) (g := g) h6 (min h (96 - t)); omega) (by decide) (by decide)]
              rw [eQ]
              refine g_aload_n (pc := 128) (i := 0) (j := 0) C dX8_help_128 rfl rfl ?_
              refine g_iconst (pc := 129) (v := 0) C dX8_help_129 (by decide) ?_
              refine g_putI (pc := 130) C dX8_help_130 lpX8_85 rfl rfl (by first | rfl | assumption) rfl ?_
              refine g_iload_n (pc := 133) (i := 2) (j := 2) C dX8_help_133 rfl rfl ?_
              refine g_if_lt (pc := 134) (tgt := 143) C dX8_help_134 (by decide) (fun h134 => ?_) (fun h134 => ?_)
              · refine g_bipush (pc := 143) (v := 10) C dX8_help_143 (by decide) ?_
                refine g_iload (pc := 145) (j := 5) C dX8_help_145 rfl ?_
                refine g_imul (pc := 147) C dX8_help_147 ?_
                refine g_iload (pc := 148) (j := 6) C dX8_help_148 rfl ?_
                refine g_iadd (pc := 150) C dX8_help_150 ?_
                refine g_istore_n (pc := 151) (i := 2) (L2 := [(0, _), (1, _), (2, _), (3, _), (4, _), (5, _), (6, _), (7, _)]) C dX8_help_151 rfl (by decide) rfl ?_
                refine g_iload (pc := 152) (j := 7) C dX8_help_152 rfl ?_
                refine g_istore_n (pc := 154) (i := 3) (L2 := [(0, _), (1, _), (2, _), (3, _), (4, _), (5, _), (6, _), (7, _)]) C dX8_help_154 rfl (by decide) rfl ?_
                refine g_iinc (pc := 155) (j := 4) (v := _ + 1) (L2 := [(0, _), (1, _), (2, _), (3, _), (4, _), (5, _), (6, _), (7, _)]) C dX8_help_155 rfl rfl (by decide) rfl ?_
                refine g_goto (pc := 158) (tgt := 20) C dX8_help_158 (by decide) ?_
                refine pm_drop (L := [(0, _), (1, _), (2, _), (3, _), (4, _)]) ?_ [0, 1, 2, 3, 4] rfl
                first | (refine pm_Geq (ih hlt _ (mo_off_tr hO9 (mo_W_back hV hW9.2.2.1))) ?_ rfl rfl rfl; first | rw [(show hp_lin (fun i j => i < n ∧ j < n ∧ i ≠ j ∧ bl_can B i j 6 n 10) (fun i j => mo_hQ w g t (min h (96 - t)) n B i j 10) (j + 1) = hp_st (fun i j => i < n ∧ j < n ∧ i ≠ j ∧ bl_can B i j 6 n 10) (fun i j => mo_hQ w g t (min h (96 - t)) n B i j 10) (j / 6) (j % 6) (hp_lin (fun i j => i < n ∧ j < n ∧ i ≠ j ∧ bl_can B i j 6 n 10) (fun i j => mo_hQ w g t (min h (96 - t)) n B i j 10) j) from rfl), hp_st_set hPj (Or.inl (sg.mp h134))] | rw [(show hp_lin (fun i j => i < n ∧ j < n ∧ i ≠ j ∧ bl_can B i j 6 n 10) (fun i j => mo_hQ w g t (min h (96 - t)) n B i j 10) (j + 1) = hp_st (fun i j => i < n ∧ j < n ∧ i ≠ j ∧ bl_can B i j 6 n 10) (fun i j => mo_hQ w g t (min h (96 - t)) n B i j 10) (j / 6) (j % 6) (hp_lin (fun i j => i < n ∧ j < n ∧ i ≠ j ∧ bl_can B i j 6 n 10) (fun i j => mo_hQ w g t (min h (96 - t)) n B i j 10) j) from rfl), hp_st_set hPj (Or.inr (Int32.not_le.mp h140))] | rw [(show hp_lin (fun i j => i < n ∧ j < n ∧ i ≠ j ∧ bl_can B i j 6 n 10) (fun i j => mo_hQ w g t (min h (96 - t)) n B i j 10) (j + 1) = hp_st (fun i j => i < n ∧ j < n ∧ i ≠ j ∧ bl_can B i j 6 n 10) (fun i j => mo_hQ w g t (min h (96 - t)) n B i j 10) (j / 6) (j % 6) (hp_lin (fun i j => i < n ∧ j < n ∧ i ≠ j ∧ bl_can B i j 6 n 10) (fun i j => mo_hQ w g t (min h (96 - t)) n B i j 10) j) from rfl), hp_st_keep hPj (fun q => h134 (sg.mpr q)) h140]) | (refine pm_Geq (ih hlt _ hO9) ?_ rfl rfl rfl; rw [(show hp_lin (fun i j => i < n ∧ j < n ∧ i ≠ j ∧ bl_can B i j 6 n 10) (fun i j => mo_hQ w g t (min h (96 - t)) n B i j 10) (j + 1) = hp_st (fun i j => i < n ∧ j < n ∧ i ≠ j ∧ bl_can B i j 6 n 10) (fun i j => mo_hQ w g t (min h (96 - t)) n B i j 10) (j / 6) (j % 6) (hp_lin (fun i j => i < n ∧ j < n ∧ i ≠ j ∧ bl_can B i j 6 n 10) (fun i j => mo_hQ w g t (min h (96 - t)) n B i j 10) j) from rfl), hp_st_no (fun z => by first | exact (hb (j / 6) hd6).1 h47 z.1 | exact (hb (j % 6) hm6).1 h56 z.2.1 | exact z.2.2.1 ((nI_eq (by omega) (by omega)).mp h63) | exact h103 z.2.2.2)])
                all_goals first | (rw [show nI 10 * nI (j / 6) + nI (j % 6) = nI (10 * (j / 6) + j % 6) by rw [pk_mul, nI_add]]; simp only [nI_1]) | simp only [nI_1, show (10 : Int32) * nI (j / 6) + nI (j % 6) = nI (10 * (j / 6) + j % 6) by rw [show (10 : Int32) = nI 10 from rfl, pk_mul, nI_add]]
              · refine g_iload (pc := 137) (j := 7) C dX8_help_137 rfl ?_
                refine g_iload_n (pc := 139) (i := 3) (j := 3) C dX8_help_139 rfl rfl ?_
                refine g_icmp_ge (pc := 140) (tgt := 155) C dX8_help_140 (by decide) (fun h140 => ?_) (fun h140 => ?_)
                · refine g_iinc (pc := 155) (j := 4) (v := _ + 1) (L2 := [(0, _), (1, _), (2, _), (3, _), (4, _), (5, _), (6, _), (7, _)]) C dX8_help_155 rfl rfl (by decide) rfl ?_
                  refine g_goto (pc := 158) (tgt := 20) C dX8_help_158 (by decide) ?_
                  refine pm_drop (L := [(0, _), (1, _), (2, _), (3, _), (4, _)]) ?_ [0, 1, 2, 3, 4] rfl
                  first | (refine pm_Geq (ih hlt _ (mo_off_tr hO9 (mo_W_back hV hW9.2.2.1))) ?_ rfl rfl rfl; first | rw [(show hp_lin (fun i j => i < n ∧ j < n ∧ i ≠ j ∧ bl_can B i j 6 n 10) (fun i j => mo_hQ w g t (min h (96 - t)) n B i j 10) (j + 1) = hp_st (fun i j => i < n ∧ j < n ∧ i ≠ j ∧ bl_can B i j 6 n 10) (fun i j => mo_hQ w g t (min h (96 - t)) n B i j 10) (j / 6) (j % 6) (hp_lin (fun i j => i < n ∧ j < n ∧ i ≠ j ∧ bl_can B i j 6 n 10) (fun i j => mo_hQ w g t (min h (96 - t)) n B i j 10) j) from rfl), hp_st_set hPj (Or.inl (sg.mp h134))] | rw [(show hp_lin (fun i j => i < n ∧ j < n ∧ i ≠ j ∧ bl_can B i j 6 n 10) (fun i j => mo_hQ w g t (min h (96 - t)) n B i j 10) (j + 1) = hp_st (fun i j => i < n ∧ j < n ∧ i ≠ j ∧ bl_can B i j 6 n 10) (fun i j => mo_hQ w g t (min h (96 - t)) n B i j 10) (j / 6) (j % 6) (hp_lin (fun i j => i < n ∧ j < n ∧ i ≠ j ∧ bl_can B i j 6 n 10) (fun i j => mo_hQ w g t (min h (96 - t)) n B i j 10) j) from rfl), hp_st_set hPj (Or.inr (Int32.not_le.mp h140))] | rw [(show hp_lin (fun i j => i < n ∧ j < n ∧ i ≠ j ∧ bl_can B i j 6 n 10) (fun i j => mo_hQ w g t (min h (96 - t)) n B i j 10) (j + 1) = hp_st (fun i j => i < n ∧ j < n ∧ i ≠ j ∧ bl_can B i j 6 n 10) (fun i j => mo_hQ w g t (min h (96 - t)) n B i j 10) (j / 6) (j % 6) (hp_lin (fun i j => i < n ∧ j < n ∧ i ≠ j ∧ bl_can B i j 6 n 10) (fun i j => mo_hQ w g t (min h (96 - t)) n B i j 10) j) from rfl), hp_st_keep hPj (fun q => h134 (sg.mpr q)) h140]) | (refine pm_Geq (ih hlt _ hO9) ?_ rfl rfl rfl; rw [(show hp_lin (fun i j => i < n ∧ j < n ∧ i ≠ j ∧ bl_can B i j 6 n 10) (fun i j => mo_hQ w g t (min h (96 - t)) n B i j 10) (j + 1) = hp_st (fun i j => i < n ∧ j < n ∧ i ≠ j ∧ bl_can B i j 6 n 10) (fun i j => mo_hQ w g t (min h (96 - t)) n B i j 10) (j / 6) (j % 6) (hp_lin (fun i j => i < n ∧ j < n ∧ i ≠ j ∧ bl_can B i j 6 n 10) (fun i j => mo_hQ w g t (min h (96 - t)) n B i j 10) j) from rfl), hp_st_no (fun z => by first | exact (hb (j / 6) hd6).1 h47 z.1 | exact (hb (j % 6) hm6).1 h56 z.2.1 | exact z.2.2.1 ((nI_eq (by omega) (by omega)).mp h63) | exact h103 z.2.2.2)])
                  all_goals first | (rw [show nI 10 * nI (j / 6) + nI (j % 6) = nI (10 * (j / 6) + j % 6) by rw [pk_mul, nI_add]]; simp only [nI_1]) | simp only [nI_1, show (10 : Int32) * nI (j / 6) + nI (j % 6) = nI (10 * (j / 6) + j % 6) by rw [show (10 : Int32) = nI 10 from rfl, pk_mul, nI_add]]
                · refine g_bipush (pc := 143) (v := 10) C dX8_help_143 (by decide) ?_
                  refine g_iload (pc := 145) (j := 5) C dX8_help_145 rfl ?_
                  refine g_imul (pc := 147) C dX8_help_147 ?_
                  refine g_iload (pc := 148) (j := 6) C dX8_help_148 rfl ?_
                  refine g_iadd (pc := 150) C dX8_help_150 ?_
                  refine g_istore_n (pc := 151) (i := 2) (L2 := [(0, _), (1, _), (2, _), (3, _), (4, _), (5, _), (6, _), (7, _)]) C dX8_help_151 rfl (by decide) rfl ?_
                  refine g_iload (pc := 152) (j := 7) C dX8_help_152 rfl ?_
                  refine g_istore_n (pc := 154) (i := 3) (L2 := [(0, _), (1, _), (2, _), (3, _), (4, _), (5, _), (6, _), (7, _)]) C dX8_help_154 rfl (by decide) rfl ?_
                  refine g_iinc (pc := 155) (j := 4) (v := _ + 1) (L2 := [(0, _), (1, _), (2, _), (3, _), (4, _), (5, _), (6, _), (7, _)]) C dX8_help_155 rfl rfl (by decide) rfl ?_
                  refine g_goto (pc := 158) (tgt := 20) C dX8_help_158 (by decide) ?_
                  refine pm_drop (L := [(0, _), (1, _), (2, _), (3, _), (4, _)]) ?_ [0, 1, 2, 3, 4] rfl
                  first | (refine pm_Geq (ih hlt _ (mo_off_tr hO9 (mo_W_back hV hW9.2.2.1))) ?_ rfl rfl rfl; first | rw [(show hp_lin (fun i j => i < n ∧ j < n ∧ i ≠ j ∧ bl_can B i j 6 n 10) (fun i j => mo_hQ w g t (min h (96 - t)) n B i j 10) (j + 1) = hp_st (fun i j => i < n ∧ j < n ∧ i ≠ j ∧ bl_can B i j 6 n 10) (fun i j => mo_hQ w g t (min h (96 - t)) n B i j 10) (j / 6) (j % 6) (hp_lin (fun i j => i < n ∧ j < n ∧ i ≠ j ∧ bl_can B i j 6 n 10) (fun i j => mo_hQ w g t (min h (96 - t)) n B i j 10) j) from rfl), hp_st_set hPj (Or.inl (sg.mp h134))] | rw [(show hp_lin (fun i j => i < n ∧ j < n ∧ i ≠ j ∧ bl_can B i j 6 n 10) (fun i j => mo_hQ w g t (min h (96 - t)) n B i j 10) (j + 1) = hp_st (fun i j => i < n ∧ j < n ∧ i ≠ j ∧ bl_can B i j 6 n 10) (fun i j => mo_hQ w g t (min h (96 - t)) n B i j 10) (j / 6) (j % 6) (hp_lin (fun i j => i < n ∧ j < n ∧ i ≠ j ∧ bl_can B i j 6 n 10) (fun i j => mo_hQ w g t (min h (96 - t)) n B i j 10) j) from rfl), hp_st_set hPj (Or.inr (Int32.not_le.mp h140))] | rw [(show hp_lin (fun i j => i < n ∧ j < n ∧ i ≠ j ∧ bl_can B i j 6 n 10) (fun i j => mo_hQ w g t (min h (96 - t)) n B i j 10) (j + 1) = hp_st (fun i j => i < n ∧ j < n ∧ i ≠ j ∧ bl_can B i j 6 n 10) (fun i j => mo_hQ w g t (min h (96 - t)) n B i j 10) (j / 6) (j % 6) (hp_lin (fun i j => i < n ∧ j < n ∧ i ≠ j ∧ bl_can B i j 6 n 10) (fun i j => mo_hQ w g t (min h (96 - t)) n B i j 10) j) from rfl), hp_st_keep hPj (fun q => h134 (sg.mpr q)) h140]) | (refine pm_Geq (ih hlt _ hO9) ?_ rfl rfl rfl; rw [(show hp_lin (fun i j => i < n ∧ j < n ∧ i ≠ j ∧ bl_can B i j 6 n 10) (fun i j => mo_hQ w g t (min h (96 - t)) n B i j 10) (j + 1) = hp_st (fun i j => i < n ∧ j < n ∧ i ≠ j ∧ bl_can B i j 6 n 10) (fun i j => mo_hQ w g t (min h (96 - t)) n B i j 10) (j / 6) (j % 6) (hp_lin (fun i j => i < n ∧ j < n ∧ i ≠ j ∧ bl_can B i j 6 n 10) (fun i j => mo_hQ w g t (min h (96 - t)) n B i j 10) j) from rfl), hp_st_no (fun z => by first | exact (hb (j / 6) hd6).1 h47 z.1 | exact (hb (j % 6) hm6).1 h56 z.2.1 | exact z.2.2.1 ((nI_eq (by omega) (by omega)).mp h63) | exact h103 z.2.2.2)])
                  all_goals first | (rw [show nI 10 * nI (j / 6) + nI (j % 6) = nI (10 * (j / 6) + j % 6) by rw [pk_mul, nI_add]]; simp only [nI_1]) | simp only [nI_1, show (10 : Int32) * nI (j / 6) + nI (j % 6) = nI (10 * (j / 6) + j % 6) by rw [show (10 : Int32) = nI 10 from rfl, pk_mul, nI_add]]
  refine g_iload_n (pc := 0) (i := 1) (j := 1) C dX8_help_0 rfl rfl ?_
  refine g_iconst (pc := 1) (v := 1) C dX8_help_1 (by decide) ?_
  refine g_bipush (pc := 2) (v := 24) C dX8_help_2 (by decide) ?_
  refine g_callS (pc := 4) C dX8_help_4 lmX8_78 kcX8_in (by decide) (c_X8_in) rfl rfl (Nat.le_of_ble_eq_true rfl) ?_
  intro r9 sh9 I9 J9 hD9; obtain ⟨rfl, rfl, rfl, rfl⟩ := pm_Dq hD9; clear hD9
  try simp only [Option.toList_some, Option.toList_none, List.cons_append, List.nil_append]
  refine g_if_neB (pc := 7) (tgt := 12) C dX8_help_7 (by decide) (fun h7 => ?_) (fun h7 => absurd ⟨by exact nI_le (a := 1) (b := h) (by omega) (by omega), by exact nI_le (a := h) (b := 24) (by omega) (by decide)⟩ h7)
  refine g_bipush (pc := 12) (v := (-3)) C dX8_help_12 (by decide) ?_
  refine g_istore_n (pc := 14) (i := 2) (L2 := [(0, _), (1, _), (2, _)]) C dX8_help_14 rfl (by decide) rfl ?_
  refine g_iconst (pc := 15) (v := 0) C dX8_help_15 (by decide) ?_
  refine g_istore_n (pc := 16) (i := 3) (L2 := [(0, _), (1, _), (2, _), (3, _)]) C dX8_help_16 rfl (by decide) rfl ?_
  refine g_iconst (pc := 17) (v := 0) C dX8_help_17 (by decide) ?_
  refine g_istore (pc := 18) (L2 := [(0, _), (1, _), (2, _), (3, _), (4, _)]) C dX8_help_18 (by decide) rfl ?_
  exact hloop 0 (Nat.zero_le _) I (mo_off_rf I)

set_option maxHeartbeats 4000000 in
set_option maxRecDepth 100000 in
theorem c_X8_help0 {d : Nat} {x : Int32} {I : pm_I} {J : pm_J} (hv : ¬ (1 ≤ x ∧ x ≤ 24)) : pm_M (d + 1) 0 0 yX8_help cX8_help 8 (some .int) [.ref 102, .int x] SHP I J (pm_D (some (.int (-1))) SHP I J) := by
  refine pm_start (own := RX8) (nm := "help") (by decide) rfl rfl (L := [(0, .ref 102), (1, .int x)]) rfl (Nat.le_of_ble_eq_true rfl) (fun Γ C C2 => ?_)
  refine g_iload_n (pc := 0) (i := 1) (j := 1) C dX8_help_0 rfl rfl ?_
  refine g_iconst (pc := 1) (v := 1) C dX8_help_1 (by decide) ?_
  refine g_bipush (pc := 2) (v := 24) C dX8_help_2 (by decide) ?_
  refine g_callS (pc := 4) C dX8_help_4 lmX8_78 kcX8_in (by decide) (c_X8_in) rfl rfl (Nat.le_of_ble_eq_true rfl) ?_
  intro r9 sh9 I9 J9 hD9; obtain ⟨rfl, rfl, rfl, rfl⟩ := pm_Dq hD9; clear hD9
  try simp only [Option.toList_some, Option.toList_none, List.cons_append, List.nil_append]
  refine g_if_neB (pc := 7) (tgt := 12) C dX8_help_7 (by decide) (fun h7 => ?_) (fun h7 => ?_)
  · exact absurd h7 hv
  · refine g_iconst (pc := 10) (v := (-1)) C dX8_help_10 (by decide) ?_
    refine g_iret (pc := 11) C C2 dX8_help_11 rfl (Nat.le_refl _) (Nat.le_refl _) ?_
    exact ⟨rfl, rfl, rfl, rfl⟩

set_option maxHeartbeats 4000000 in
set_option maxRecDepth 100000 in
theorem c_X8_findRows {d : Nat} {I : pm_I} {J : pm_J} {w : Nat → Int32} {g : Int32} {n t : Nat} {B : Nat → Nat → Int32} (hF : mo_F I w g 0 n) (ht : t ≤ 96) (hok : ∀ b, b < n → mo_ok (B b)) (hW : mo_W I 0 t n B I) {h : Nat} (hh : h ≤ 20) {b : Nat} (hb : b < n) : pm_M (d + 5) 0 0 yX8_findRows cX8_findRows 3 (none : Option Jvm.ClassFile.FieldType) [.ref 102, .int (nI b), .int (nI h)] SHP I J (fun r sh2 I2 J2 => r = none ∧ sh2 = SHP ∧ J2 = J ∧ mo_fd I w g t n B b (min h (96 - t)) I2) := by
  refine pm_start (own := RX8) (nm := "findRows") (by decide) rfl rfl (L := [(0, .ref 102), (1, .int (nI b)), (2, .int (nI h))]) rfl (Nat.le_of_ble_eq_true rfl) (fun Γ C C2 => ?_)
  have h6 := hF.2.1
  have hloop : ∀ j, j ≤ (min h (96 - t)) → ∀ Ib I9, mo_F Ib w g 0 n → mo_fr I w g t n B b j Ib → mo_E Ib w 0 43 t n B j I9 → pm_G Γ 0 0 9 [(0, .ref 102), (1, .int (nI b)), (2, .int (nI h))] [] SHP I9 J := by
    refine pm_up (fun j => ∀ Ib I9, mo_F Ib w g 0 n → mo_fr I w g t n B b j Ib → mo_E Ib w 0 43 t n B j I9 → pm_G Γ 0 0 9 [(0, .ref 102), (1, .int (nI b)), (2, .int (nI h))] [] SHP I9 J) (min h (96 - t)) (fun j hj ih Ib I9 hFb hR hV => ?_)
    have e26 : I9 102 26 = nI j := (hV.2.1 26 (by decide)).trans hR.2.2.1
    refine g_aload_n (pc := 9) (i := 0) (j := 0) C dX8_findRows_9 rfl rfl ?_
    refine g_getI (pc := 10) C dX8_findRows_10 lfX8_314 (by first | rfl | assumption) rfl ?_
    refine g_iload_n (pc := 13) (i := 2) (j := 2) C dX8_findRows_13 rfl rfl ?_
    refine g_icmp_ge (pc := 14) (tgt := 94) C dX8_findRows_14 (by decide) (fun h14 => ?_) (fun h14 => ?_)
    · refine g_aload_n (pc := 94) (i := 0) (j := 0) C dX8_findRows_94 rfl rfl ?_
      refine g_iconst (pc := 95) (v := 0) C dX8_findRows_95 (by decide) ?_
      refine g_putI (pc := 96) C dX8_findRows_96 lpX8_85 rfl rfl (by first | rfl | assumption) rfl ?_
      refine g_vret (pc := 99) C C2 dX8_findRows_99 (Nat.le_refl _) (Nat.le_refl _) ?_
      have ej : j = (min h (96 - t)) := by first | (have q := (nI_leI (a := h) (b := j) (by omega) (by omega)).mp (by rw [← e26]; exact h14); omega) | omega
      refine ⟨rfl, rfl, rfl, ?_⟩
      rw [← ej]
      have h0b : Ib 102 6 = 0 := (hR.2.1 6 (by decide)).trans hW.2.2.1
      first | exact mo_fd_of hR (mo_W_back hV h0b) | (rw [hN h21]; exact mo_fd_of hR (mo_W_back hV h0b))
    · have q4 : ¬ h ≤ j := fun z => h14 (by rw [e26]; exact (nI_leI (a := h) (b := j) (by omega) (by omega)).mpr z)
      refine g_aload_n (pc := 17) (i := 0) (j := 0) C dX8_findRows_17 rfl rfl ?_
      refine g_callV (pc := 18) C dX8_findRows_18 lmX8_282 kcX8_goesOn (by decide) (by first | rfl | assumption) (c_X8_goesOn (a := 43) hFb (by decide) ht hok (k := j) (by omega) hV) rfl rfl (Nat.le_of_ble_eq_true rfl) ?_
      intro r9 sh9 I10 J9 hD9; obtain ⟨rfl, rfl, rfl, hY, hN⟩ := hD9
      try simp only [Option.toList_some, Option.toList_none, List.cons_append, List.nil_append]
      refine g_if_eqB (pc := 21) (tgt := 94) C dX8_findRows_21 (by decide) (fun h21 => ?_) (fun h21 => ?_)
      · refine g_aload_n (pc := 94) (i := 0) (j := 0) C dX8_findRows_94 rfl rfl ?_
        refine g_iconst (pc := 95) (v := 0) C dX8_findRows_95 (by decide) ?_
        refine g_putI (pc := 96) C dX8_findRows_96 lpX8_85 rfl rfl (by first | rfl | assumption) rfl ?_
        refine g_vret (pc := 99) C C2 dX8_findRows_99 (Nat.le_refl _) (Nat.le_refl _) ?_
        have ej : j = (min h (96 - t)) := by first | (have q := (nI_leI (a := h) (b := j) (by omega) (by omega)).mp (by rw [← e26]; exact h14); omega) | omega
        refine ⟨rfl, rfl, rfl, ?_⟩
        rw [← ej]
        have h0b : Ib 102 6 = 0 := (hR.2.1 6 (by decide)).trans hW.2.2.1
        first | exact mo_fd_of hR (mo_W_back hV h0b) | (rw [hN h21]; exact mo_fd_of hR (mo_W_back hV h0b))
      · have f26 : I10 102 26 = nI j := ((hY h21).2.1 26 (by decide)).trans hR.2.2.1
        refine g_aload_n (pc := 24) (i := 0) (j := 0) C dX8_findRows_24 rfl rfl ?_
        refine g_getR (pc := 25) C dX8_findRows_25 lfX8_47 (by first | rfl | assumption) rfl ?_
        refine g_iconst (pc := 28) (v := 3) C dX8_findRows_28 (by decide) ?_
        refine g_aload_n (pc := 29) (i := 0) (j := 0) C dX8_findRows_29 rfl rfl ?_
        refine g_getI (pc := 30) C dX8_findRows_30 lfX8_314 (by first | rfl | assumption) rfl ?_
        refine g_imul (pc := 33) C dX8_findRows_33 ?_
        refine g_aload_n (pc := 34) (i := 0) (j := 0) C dX8_findRows_34 rfl rfl ?_
        refine g_iload_n (pc := 35) (i := 1) (j := 1) C dX8_findRows_35 rfl rfl ?_
        refine g_iconst (pc := 36) (v := 2) C dX8_findRows_36 (by decide) ?_
        refine g_callV (pc := 37) C dX8_findRows_37 lmX8_219 kcX8_its (by decide) (by first | rfl | assumption) (c_mo_its hFb (by decide) (by omega) (hY h21) hb (p := 2) (by decide) (by decide)) rfl rfl (Nat.le_of_ble_eq_true rfl) ?_
        intro r9 sh9 I9 J9 hD9; obtain ⟨rfl, rfl, rfl, rfl⟩ := pm_Dq hD9; clear hD9
        try simp only [Option.toList_some, Option.toList_none, List.cons_append, List.nil_append]
        refine g_iast (pc := 40) (j := 3 * j) C dX8_findRows_40 (by first | rfl | assumption) (by decide) (show 3 * I10 102 26 = nI (3 * j) by rw [f26, show (3 : Int32) = nI 3 from rfl, pk_mul]) (by omega) ?_
        have hW1 := mo_W_u (q := 113) (k := 3 * j) (x := tr_ev w 0 t (B b) (j + 1) (2 + 1)) (hY h21) (by decide) (by decide) (by decide) (by decide)
        refine g_aload_n (pc := 41) (i := 0) (j := 0) C dX8_findRows_41 rfl rfl ?_
        refine g_getR (pc := 42) C dX8_findRows_42 lfX8_47 (by first | rfl | assumption) rfl ?_
        refine g_iconst (pc := 45) (v := 3) C dX8_findRows_45 (by decide) ?_
        refine g_aload_n (pc := 46) (i := 0) (j := 0) C dX8_findRows_46 rfl rfl ?_
        refine g_getI (pc := 47) C dX8_findRows_47 lfX8_314 (by first | rfl | assumption) rfl ?_
        refine g_imul (pc := 50) C dX8_findRows_50 ?_
        refine g_iconst (pc := 51) (v := 1) C dX8_findRows_51 (by decide) ?_
        refine g_iadd (pc := 52) C dX8_findRows_52 ?_
        refine g_aload_n (pc := 53) (i := 0) (j := 0) C dX8_findRows_53 rfl rfl ?_
        refine g_iload_n (pc := 54) (i := 1) (j := 1) C dX8_findRows_54 rfl rfl ?_
        refine g_iconst (pc := 55) (v := 4) C dX8_findRows_55 (by decide) ?_
        refine g_callV (pc := 56) C dX8_findRows_56 lmX8_219 kcX8_its (by decide) (by first | rfl | assumption) (c_mo_its (mo_F_u hFb (by decide) (Or.inl (by decide))) (by decide) (by omega) hW1 hb (p := 4) (by decide) (by decide)) rfl rfl (Nat.le_of_ble_eq_true rfl) ?_
        intro r9 sh9 I9 J9 hD9; obtain ⟨rfl, rfl, rfl, rfl⟩ := pm_Dq hD9; clear hD9
        try simp only [Option.toList_some, Option.toList_none, List.cons_append, List.nil_append]
        refine g_iast (pc := 59) (j := 3 * j + 1) C dX8_findRows_59 (by first | rfl | assumption) (by decide) (show 3 * pm_u I10 113 _ _ 102 26 + 1 = nI (3 * j + 1) by rw [pm_u_off (by decide), f26, show (3 : Int32) = nI 3 from rfl, pk_mul, nI_1]) (by omega) ?_
        have hW2 := mo_W_u (q := 113) (k := 3 * j + 1) (x := tr_ev w 0 t (B b) (j + 1) (4 + 1)) hW1 (by decide) (by decide) (by decide) (by decide)
        refine g_aload_n (pc := 60) (i := 0) (j := 0) C dX8_findRows_60 rfl rfl ?_
        refine g_getR (pc := 61) C dX8_findRows_61 lfX8_47 (by first | rfl | assumption) rfl ?_
        refine g_iconst (pc := 64) (v := 3) C dX8_findRows_64 (by decide) ?_
        refine g_aload_n (pc := 65) (i := 0) (j := 0) C dX8_findRows_65 rfl rfl ?_
        refine g_getI (pc := 66) C dX8_findRows_66 lfX8_314 (by first | rfl | assumption) rfl ?_
        refine g_imul (pc := 69) C dX8_findRows_69 ?_
        refine g_iconst (pc := 70) (v := 2) C dX8_findRows_70 (by decide) ?_
        refine g_iadd (pc := 71) C dX8_findRows_71 ?_
        refine g_aload_n (pc := 72) (i := 0) (j := 0) C dX8_findRows_72 rfl rfl ?_
        refine g_iload_n (pc := 73) (i := 1) (j := 1) C dX8_findRows_73 rfl rfl ?_
        refine g_callV (pc := 74) C dX8_findRows_74 lmX8_270 kcX8_touchSet (by decide) (by first | rfl | assumption) (c_mo_tset (mo_F_u (mo_F_u hFb (by decide) (Or.inl (by decide))) (by decide) (Or.inl (by decide))) (by decide) (by omega) hW2 hb) rfl rfl (Nat.le_of_ble_eq_true rfl) ?_
        intro r9 sh9 I9 J9 hD9; obtain ⟨rfl, rfl, rfl, rfl⟩ := pm_Dq hD9; clear hD9
        try simp only [Option.toList_some, Option.toList_none, List.cons_append, List.nil_append]
        obtain ⟨s, s1, s2, s3⟩ := mo_ts64 (B2 := fun b => tr_ev w 0 t (B b) (j + 1)) (B := B) (Hf := fun b k => tr_ev w 0 t (B b) k 3) (g := g) (i := b) (k := j + 1) hb h6 (fun c _ _ => tr_ev_2 _) (fun c _ => rfl)
        rw [s2]
        refine g_callS (pc := 77) C dX8_findRows_77 lmX8_273 kcX8_ones (by decide) (c_X8_ones s1) rfl rfl (Nat.le_of_ble_eq_true rfl) ?_
        intro r9 sh9 I9 J9 hD9; obtain ⟨rfl, rfl, rfl, rfl⟩ := pm_Dq hD9; clear hD9
        try simp only [Option.toList_some, Option.toList_none, List.cons_append, List.nil_append]
        refine g_iast (pc := 80) (j := 3 * j + 2) C dX8_findRows_80 (by first | rfl | assumption) (by decide) (show 3 * pm_u (pm_u I10 113 _ _) 113 _ _ 102 26 + 2 = nI (3 * j + 2) by rw [pm_u_off (by decide), pm_u_off (by decide), f26, show (3 : Int32) = nI 3 from rfl, pk_mul, show (2 : Int32) = nI 2 from rfl, nI_add]) (by omega) ?_
        have hW3 := mo_W_u (q := 113) (k := 3 * j + 2) (x := nI (mo_pop s)) hW2 (by decide) (by decide) (by decide) (by decide)
        refine g_aload_n (pc := 81) (i := 0) (j := 0) C dX8_findRows_81 rfl rfl ?_
        refine g_dup (pc := 82) C dX8_findRows_82 rfl ?_
        refine g_getI (pc := 83) C dX8_findRows_83 lfX8_314 (by first | rfl | assumption) rfl ?_
        refine g_iconst (pc := 86) (v := 1) C dX8_findRows_86 (by decide) ?_
        refine g_iadd (pc := 87) C dX8_findRows_87 ?_
        refine g_putI (pc := 88) C dX8_findRows_88 lpX8_314 rfl rfl (by first | rfl | assumption) rfl ?_
        refine g_goto (pc := 91) (tgt := 9) C dX8_findRows_91 (by decide) ?_
        have f26c : pm_u (pm_u (pm_u I10 113 (3 * j) (tr_ev w 0 t (B b) (j + 1) (2 + 1))) 113 (3 * j + 1) (tr_ev w 0 t (B b) (j + 1) (4 + 1))) 113 (3 * j + 2) (nI (mo_pop s)) 102 26 + 1 = nI (j + 1) := by rw [pm_u_off (by decide), pm_u_off (by decide), pm_u_off (by decide), f26, nI_1]
        rw [f26c]
        refine ih (by omega) _ _ (mo_F_u (mo_F_u (mo_F_u (mo_F_u hFb (by decide) (Or.inl (by decide))) (by decide) (Or.inl (by decide))) (by decide) (Or.inl (by decide))) (by decide) (Or.inr (by decide))) (mo_fr_next hR mo_R_0.symm mo_R_1.symm ?_) (mo_W_u2 hW3 (by decide))
        rw [s3, tr_ev_2, mo_R_2]
  refine g_aload_n (pc := 0) (i := 0) (j := 0) C dX8_findRows_0 rfl rfl ?_
  refine g_callV (pc := 1) C dX8_findRows_1 lmX8_292 kcX8_lends (by decide) (by first | rfl | assumption) (c_X8_lends) rfl rfl (Nat.le_of_ble_eq_true rfl) ?_
  intro r9 sh9 I9 J9 hD9; obtain ⟨rfl, rfl, rfl, rfl⟩ := pm_Dq hD9; clear hD9
  try simp only [Option.toList_some, Option.toList_none, List.cons_append, List.nil_append]
  have hL := mo_W_lend hW hF.2.1
  refine g_aload_n (pc := 4) (i := 0) (j := 0) C dX8_findRows_4 rfl rfl ?_
  refine g_iconst (pc := 5) (v := 0) C dX8_findRows_5 (by decide) ?_
  refine g_putI (pc := 6) C dX8_findRows_6 lpX8_314 rfl rfl (by first | rfl | assumption) rfl ?_
  exact hloop 0 (Nat.zero_le _) (pm_u I 102 26 0) _ (mo_F_u hF (by decide) (Or.inr (by decide))) mo_fr_0 (mo_W_u2 hL (by decide))
