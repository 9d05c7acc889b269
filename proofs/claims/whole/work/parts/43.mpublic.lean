/-! The model's public calls over trials -/
theorem mo_off_F {I I2 : pm_I} {w : Nat → Int32} {g c : Int32} {n : Nat} (h : mo_off I I2) (hF : mo_F I w g c n) : mo_F I2 w g c n := by
  obtain ⟨f1, f2, f3, f4, f5⟩ := hF
  have e := h.1 102 (by decide)
  have e3 := h.1 103 (by decide)
  exact ⟨by rw [e]; exact f1, f2, by rw [e]; exact f3, by rw [e]; exact f4, fun q hq => by rw [e3]; exact f5 q hq⟩
theorem mo_off_W {I I2 : pm_I} {t n : Nat} {B : Nat → Nat → Int32} (h : mo_off I I2) (h6 : n ≤ 6) (hW : mo_W I 0 t n B I) : mo_W I2 0 t n B I2 := by
  obtain ⟨w1, w2, w3, w4, w5, w6⟩ := hW
  refine ⟨fun _ _ _ => rfl, fun _ _ => rfl, ?_, fun _ _ => rfl, ?_, fun b hb p hp => ?_⟩
  · rw [h.1 102 (by decide)]; exact w3
  · rw [h.2 0 (by decide)]; exact w5
  · rw [← w6 b hb p hp]
    unfold md
    rw [h.1 104 (by decide), h.1 105 (by decide), h.2 _ (by omega)]
theorem mo_ok_u {f : Nat → Int32} {p : Nat} {v : Int32} (h : mo_ok f) (h3 : p ≠ 3) (h4 : p ≠ 4) : mo_ok (upd f p v) := by
  unfold mo_ok
  rw [pk_un (Ne.symm h3), pk_un (Ne.symm h4)]
  exact h
theorem mo_ok_r {f : Nat → Int32} {v : Int32} (h : mo_ok f) (h1 : 1 ≤ v) (h2 : v ≤ 99) : mo_ok (upd f 4 v) := by
  unfold mo_ok
  rw [pk_un (by decide), pk_us]
  exact ⟨h.1, h1, h2⟩
/-- behind a gift of sand -/
def mo_hF (B : Nat → Nat → Int32) (i j : Nat) (x : Int32) (b : Nat) : Nat → Int32 := if b = j then upd (B j) 6 (B j 6 + x) else if b = i then upd (B i) 6 (B i 6 - x) else B b
def mo_hQ (w : Nat → Int32) (g : Int32) (t m n : Nat) (B : Nat → Nat → Int32) (i j : Nat) (x : Int32) : Int32 := nI (tr_s2 B (fun b k => tr_ev w 0 t (mo_hF B i j x b) k 3) g n m) / 2
theorem mo_hF_eq {B : Nat → Nat → Int32} {i j : Nat} {x : Int32} (hij : i ≠ j) : mo_B1 (mo_B1 B i 6 (B i 6 - x)) j 6 (mo_B1 B i 6 (B i 6 - x) j 6 + x) = mo_hF B i j x := by
  funext b
  have e : mo_B1 B i 6 (B i 6 - x) j = B j := if_neg (Ne.symm hij)
  unfold mo_hF
  rw [mo_B1, e]
  by_cases q : b = j
  · rw [if_pos q, if_pos q]
  · rw [if_neg q, if_neg q]
    rfl
def hp_lin (P : Nat → Nat → Prop) [∀ i j, Decidable (P i j)] (Q : Nat → Nat → Int32) : Nat → Int32 × Int32
  | 0 => (-3, 0)
  | k + 1 => hp_st P Q (k / 6) (k % 6) (hp_lin P Q k)
theorem hp_lin_in {P : Nat → Nat → Prop} [∀ i j, Decidable (P i j)] {Q : Nat → Nat → Int32} {i : Nat} : ∀ j, j ≤ 6 → hp_lin P Q (6 * i + j) = hp_in P Q i (hp_lin P Q (6 * i)) j
  | 0, _ => rfl
  | j + 1, hj => by
    rw [show 6 * i + (j + 1) = (6 * i + j) + 1 by omega, hp_lin, hp_lin_in j (by omega), show (6 * i + j) / 6 = i by omega, show (6 * i + j) % 6 = j by omega]
    rfl
theorem hp_in_cut {P P2 : Nat → Nat → Prop} [∀ i j, Decidable (P i j)] [∀ i j, Decidable (P2 i j)] {Q : Nat → Nat → Int32} {i n : Nat} {s : Int32 × Int32} (hn : n ≤ 6) (h1 : ∀ j, j < n → (P2 i j ↔ P i j)) (h2 : ∀ j, n ≤ j → ¬ P2 i j) : ∀ j, hp_in P2 Q i s j = hp_in P Q i s (min j n)
  | 0 => by rw [Nat.zero_min]; rfl
  | j + 1 => by
    show hp_st P2 Q i j (hp_in P2 Q i s j) = _
    rw [hp_in_cut hn h1 h2 j]
    by_cases q : j < n
    · rw [Nat.min_eq_left (by omega), Nat.min_eq_left (by omega)]
      show _ = hp_st P Q i j (hp_in P Q i s j)
      unfold hp_st
      have e := h1 j q
      by_cases p : P i j
      · rw [if_pos p, if_pos (e.mpr p)]
      · rw [if_neg p, if_neg (fun z => p (e.mp z))]
    · rw [Nat.min_eq_right (by omega), Nat.min_eq_right (by omega), hp_st_no (h2 j (by omega))]
theorem hp_lin_out {P P2 : Nat → Nat → Prop} [∀ i j, Decidable (P i j)] [∀ i j, Decidable (P2 i j)] {Q : Nat → Nat → Int32} {n : Nat} (hn : n ≤ 6) (h : ∀ i j, P2 i j ↔ (i < n ∧ j < n ∧ P i j)) : ∀ i, hp_lin P2 Q (6 * i) = hp_out P Q n (min i n)
  | 0 => by rw [Nat.zero_min]; rfl
  | i + 1 => by
    rw [show 6 * (i + 1) = 6 * i + 6 by omega, hp_lin_in 6 (by decide), hp_lin_out hn h i]
    by_cases q : i < n
    · rw [hp_in_cut (P := P) hn (fun j hj => (h i j).trans ⟨fun z => z.2.2, fun z => ⟨q, hj, z⟩⟩) (fun j hj z => by have := ((h i j).mp z).2.1; omega), show min 6 n = n by omega, show min i n = i by omega, show min (i + 1) n = i + 1 by omega]
      rfl
    · rw [Nat.min_eq_right (by omega), Nat.min_eq_right (by omega)]
      have e : ∀ j s, hp_in P2 Q i s j = s := by
        intro j s
        induction j with
        | zero => rfl
        | succ j ih =>
          show hp_st P2 Q i j (hp_in P2 Q i s j) = s
          rw [ih, hp_st_no (fun z => q ((h i j).mp z).1)]
      exact e 6 _
theorem hp_lin_36 {P P2 : Nat → Nat → Prop} [∀ i j, Decidable (P i j)] [∀ i j, Decidable (P2 i j)] {Q : Nat → Nat → Int32} {n : Nat} (hn : n ≤ 6) (h : ∀ i j, P2 i j ↔ (i < n ∧ j < n ∧ P i j)) : hp_lin P2 Q 36 = hp_out P Q n n := by
  have := hp_lin_out (P := P) (P2 := P2) (Q := Q) hn h 6
  rw [Nat.min_eq_right hn] at this
  exact this
theorem hp_lin_sg {P : Nat → Nat → Prop} [∀ i j, Decidable (P i j)] {Q : Nat → Nat → Int32} : ∀ k, k ≤ 36 → (hp_lin P Q k).1 = -3 ∨ 0 ≤ (hp_lin P Q k).1
  | 0, _ => Or.inl rfl
  | k + 1, hk => by
    have ih := hp_lin_sg (P := P) (Q := Q) k (by omega)
    unfold hp_lin hp_st
    split
    · split
      · exact Or.inr (nI_pos' (by omega))
      · exact ih
    · exact ih
theorem pm_neg3 {x : Int32} (h : x = -3 ∨ 0 ≤ x) : x < 0 ↔ x = -3 := by
  rcases h with rfl | h
  · decide
  · constructor
    · intro q; exact absurd q (Int32.not_lt.mpr h)
    · rintro rfl; exact absurd h (by decide)
theorem tr_si_sg {B Hf : Nat → Nat → Int32} {g : Int32} {k n : Nat} (h6 : n ≤ 6) : tr_si B Hf g k n n = -3 ∨ 0 ≤ tr_si B Hf g k n n := (tr_si_none h6 n (Nat.le_refl _)).2
/-- a part of the world that no one works on changes, on both sides -/
theorem mo_W_u {I0 I : pm_I} {a t n q k : Nat} {B : Nat → Nat → Int32} {x : Int32} (h : mo_W I0 a t n B I) (h1 : q ≠ 102) (h2 : q ≠ 104) (h3 : q ≠ 105) (h4 : q ≠ 106) : mo_W (pm_u I0 q k x) a t n B (pm_u I q k x) := by
  obtain ⟨w1, w2, w3, w4, w5, w6⟩ := h
  refine ⟨fun r r1 r2 => ?_, fun p hp => ?_, ?_, fun j hj => ?_, ?_, fun b hb p hp => ?_⟩
  · by_cases e : r = q
    · subst e
      rw [pm_u_at, pm_u_at, w1 r r1 r2]
    · rw [pm_u_off e, pm_u_off e, w1 r r1 r2]
  · rw [pm_u_off (Ne.symm h1), pm_u_off (Ne.symm h1), w2 p hp]
  · rw [pm_u_off (Ne.symm h1), w3]
  · rw [pm_u_off (Ne.symm h4), pm_u_off (Ne.symm h4), w4 j hj]
  · rw [pm_u_off (Ne.symm h4), w5]
  · rw [md_u_off h2 h3 h4, w6 b hb p hp]
theorem mo_W_u2 {I0 I : pm_I} {a t n k : Nat} {B : Nat → Nat → Int32} {x : Int32} (h : mo_W I0 a t n B I) (h1 : k ≠ 6) : mo_W (pm_u I0 102 k x) a t n B (pm_u I 102 k x) := by
  obtain ⟨w1, w2, w3, w4, w5, w6⟩ := h
  refine ⟨fun r r1 r2 => ?_, fun p hp => ?_, ?_, fun j hj => ?_, ?_, fun b hb p hp => ?_⟩
  · rw [pm_u_off r1, pm_u_off r1, w1 r r1 r2]
  · rw [pm_u_at, pm_u_at]
    by_cases e : p = k
    · subst e; rw [pk_us, pk_us]
    · rw [pk_un e, pk_un e, w2 p hp]
  · rw [pm_u_at, pk_un (Ne.symm h1), w3]
  · rw [pm_u_off (by decide), pm_u_off (by decide), w4 j hj]
  · rw [pm_u_off (by decide), w5]
  · rw [md_u_off (by decide) (by decide) (by decide), w6 b hb p hp]
theorem mo_F_u {I : pm_I} {w : Nat → Int32} {g c x : Int32} {n q k : Nat} (h : mo_F I w g c n) (h1 : q ≠ 103) (h2 : q ≠ 102 ∨ (k ≠ 1 ∧ k ≠ 2 ∧ k ≠ 7)) : mo_F (pm_u I q k x) w g c n := by
  obtain ⟨f1, f2, f3, f4, f5⟩ := h
  have e : ∀ p, p = 1 ∨ p = 2 ∨ p = 7 → pm_u I q k x 102 p = I 102 p := by
    intro p hp
    by_cases e2 : q = 102
    · subst e2
      rw [pm_u_at, pk_un (by omega)]
    · rw [pm_u_off (Ne.symm e2)]
  exact ⟨by rw [e 2 (by omega)]; exact f1, f2, by rw [e 1 (by omega)]; exact f3, by rw [e 7 (by omega)]; exact f4, fun z hz => by rw [pm_u_off (Ne.symm h1)]; exact f5 z hz⟩
theorem mo_F_c {I : pm_I} {w : Nat → Int32} {g c c2 : Int32} {n : Nat} (h : mo_F I w g c n) : mo_F (pm_u I 102 7 c2) w g c2 n := by
  obtain ⟨f1, f2, f3, f4, f5⟩ := h
  refine ⟨?_, f2, ?_, ?_, fun z hz => ?_⟩
  · rw [pm_u_at, pk_un (by decide)]; exact f1
  · rw [pm_u_at, pk_un (by decide)]; exact f3
  · rw [pm_u_at, pk_us]
  · rw [pm_u_off (by decide)]; exact f5 z hz
theorem mo_W_rf {I I0 : pm_I} {t n : Nat} {B : Nat → Nat → Int32} (h : mo_W I0 0 t n B I) : mo_W I 0 t n B I := ⟨fun _ _ _ => rfl, fun _ _ => rfl, h.2.2.1, fun _ _ => rfl, h.2.2.2.2⟩
set_option maxHeartbeats 4000000 in
set_option maxRecDepth 100000 in
theorem c_X8_hours {d : Nat} {I : pm_I} {J : pm_J} {w : Nat → Int32} {g : Int32} {n t : Nat} {B : Nat → Nat → Int32} (hF : mo_F I w g 0 n) (ht : t ≤ 96) (hok : ∀ b, b < n → mo_ok (B b)) (hW : mo_W I 0 t n B I) {h : Nat} (hh : h ≤ 48)  : pm_M (d + 6) 0 0 yX8_hours cX8_hours 2 (some .int) [.ref 102, .int (nI h)] SHP I J (fun r sh2 I2 J2 => r = some (.int (nI (t + (min h (96 - t))))) ∧ sh2 = SHP ∧ J2 = J ∧ mo_E I w 0 0 t n B (min h (96 - t)) I2) := by
  refine pm_start (own := RX8) (nm := "hours") (by decide) rfl rfl (L := [(0, .ref 102), (1, .int (nI h))]) rfl (Nat.le_of_ble_eq_true rfl) (fun Γ C C2 => ?_)
  refine g_iload_n (pc := 0) (i := 1) (j := 1) C dX8_hours_0 rfl rfl ?_
  refine g_callS (pc := 1) C dX8_hours_1 lmX8_286 kcX8_isTrial (by decide) (c_X8_isTrial) rfl rfl (Nat.le_of_ble_eq_true rfl) ?_
  intro r9 sh9 I9 J9 hD9; obtain ⟨rfl, rfl, rfl, rfl⟩ := pm_Dq hD9; clear hD9
  try simp only [Option.toList_some, Option.toList_none, List.cons_append, List.nil_append]
  refine g_if_neB (pc := 4) (tgt := 9) C dX8_hours_4 (by decide) (fun h4 => ?_) (fun h4 => absurd ⟨by exact nI_le (a := 0) (b := h) (by omega) (by omega), by exact nI_le (a := h) (b := 48) (by omega) (by decide)⟩ h4)
  refine g_aload_n (pc := 9) (i := 0) (j := 0) C dX8_hours_9 rfl rfl ?_
  refine g_iload_n (pc := 10) (i := 1) (j := 1) C dX8_hours_10 rfl rfl ?_
  refine g_callV (pc := 11) C dX8_hours_11 lmX8_289 kcX8_go (by decide) (by first | rfl | assumption) (c_X8_go (a := 0) hF (by decide) ht hok hh hW) rfl rfl (Nat.le_of_ble_eq_true rfl) ?_
  intro r9 sh9 I9 J9 hD9; obtain ⟨rfl, rfl, rfl, hV⟩ := hD9
  try simp only [Option.toList_some, Option.toList_none, List.cons_append, List.nil_append]
  refine g_aload_n (pc := 14) (i := 0) (j := 0) C dX8_hours_14 rfl rfl ?_
  refine g_getR (pc := 15) C dX8_hours_15 lfX8_23 (by first | rfl | assumption) rfl ?_
  refine g_iconst (pc := 18) (v := 0) C dX8_hours_18 (by decide) ?_
  refine g_iald (pc := 19) C dX8_hours_19 (by first | rfl | assumption) (by decide) (by first | rfl | assumption) (by first | assumption | decide | omega) ?_
  refine g_iret (pc := 20) C C2 dX8_hours_20 rfl (Nat.le_refl _) (Nat.le_refl _) ?_
  exact ⟨by rw [← hV.2.2.2.2.1], rfl, rfl, hV⟩

set_option maxHeartbeats 4000000 in
set_option maxRecDepth 100000 in
theorem c_X8_hours0 {d : Nat} {x : Int32} {I : pm_I} {J : pm_J} (hv : ¬ (0 ≤ x ∧ x ≤ 48)) : pm_M (d + 2) 0 0 yX8_hours cX8_hours 2 (some .int) [.ref 102, .int x] SHP I J (pm_D (some (.int (-1))) SHP I J) := by
  refine pm_start (own := RX8) (nm := "hours") (by decide) rfl rfl (L := [(0, .ref 102), (1, .int x)]) rfl (Nat.le_of_ble_eq_true rfl) (fun Γ C C2 => ?_)
  refine g_iload_n (pc := 0) (i := 1) (j := 1) C dX8_hours_0 rfl rfl ?_
  refine g_callS (pc := 1) C dX8_hours_1 lmX8_286 kcX8_isTrial (by decide) (c_X8_isTrial) rfl rfl (Nat.le_of_ble_eq_true rfl) ?_
  intro r9 sh9 I9 J9 hD9; obtain ⟨rfl, rfl, rfl, rfl⟩ := pm_Dq hD9; clear hD9
  try simp only [Option.toList_some, Option.toList_none, List.cons_append, List.nil_append]
  refine g_if_neB (pc := 4) (tgt := 9) C dX8_hours_4 (by decide) (fun h4 => ?_) (fun h4 => ?_)
  · exact absurd h4 hv
  · refine g_iconst (pc := 7) (v := (-1)) C dX8_hours_7 (by decide) ?_
    refine g_iret (pc := 8) C C2 dX8_hours_8 rfl (Nat.le_refl _) (Nat.le_refl _) ?_
    exact ⟨rfl, rfl, rfl, rfl⟩

set_option maxHeartbeats 4000000 in
set_option maxRecDepth 100000 in
theorem c_X8_clock {d : Nat} {v : Int32} {I : pm_I} {J : pm_J} : pm_M (d + 1) 0 0 yX8_clock cX8_clock 3 (some .int) [.ref 102, .int v] SHP I J (pm_D (some (.int (if 0 ≤ v ∧ v ≤ 96 then I 106 0 else -1))) SHP (if 0 ≤ v ∧ v ≤ 96 then pm_u I 106 0 v else I) J) := by
  refine pm_start (own := RX8) (nm := "clock") (by decide) rfl rfl (L := [(0, .ref 102), (1, .int v)]) rfl (Nat.le_of_ble_eq_true rfl) (fun Γ C C2 => ?_)
  refine g_iload_n (pc := 0) (i := 1) (j := 1) C dX8_clock_0 rfl rfl ?_
  refine g_iconst (pc := 1) (v := 0) C dX8_clock_1 (by decide) ?_
  refine g_bipush (pc := 2) (v := 96) C dX8_clock_2 (by decide) ?_
  refine g_callS (pc := 4) C dX8_clock_4 lmX8_78 kcX8_in (by decide) (c_X8_in) rfl rfl (Nat.le_of_ble_eq_true rfl) ?_
  intro r9 sh9 I9 J9 hD9; obtain ⟨rfl, rfl, rfl, rfl⟩ := pm_Dq hD9; clear hD9
  try simp only [Option.toList_some, Option.toList_none, List.cons_append, List.nil_append]
  refine g_if_neB (pc := 7) (tgt := 12) C dX8_clock_7 (by decide) (fun h7 => ?_) (fun h7 => ?_)
  · refine g_aload_n (pc := 12) (i := 0) (j := 0) C dX8_clock_12 rfl rfl ?_
    refine g_getR (pc := 13) C dX8_clock_13 lfX8_23 (by first | rfl | assumption) rfl ?_
    refine g_iconst (pc := 16) (v := 0) C dX8_clock_16 (by decide) ?_
    refine g_iald (pc := 17) C dX8_clock_17 (by first | rfl | assumption) (by decide) (by first | rfl | assumption) (by first | assumption | decide | omega) ?_
    refine g_istore_n (pc := 18) (i := 2) (L2 := [(0, _), (1, _), (2, _)]) C dX8_clock_18 rfl (by decide) rfl ?_
    refine g_aload_n (pc := 19) (i := 0) (j := 0) C dX8_clock_19 rfl rfl ?_
    refine g_getR (pc := 20) C dX8_clock_20 lfX8_23 (by first | rfl | assumption) rfl ?_
    refine g_iconst (pc := 23) (v := 0) C dX8_clock_23 (by decide) ?_
    refine g_iload_n (pc := 24) (i := 1) (j := 1) C dX8_clock_24 rfl rfl ?_
    refine g_iast (pc := 25) C dX8_clock_25 (by first | rfl | assumption) (by decide) (by first | rfl | assumption) (by first | assumption | decide | omega) ?_
    refine g_iload_n (pc := 26) (i := 2) (j := 2) C dX8_clock_26 rfl rfl ?_
    refine g_iret (pc := 27) C C2 dX8_clock_27 rfl (Nat.le_refl _) (Nat.le_refl _) ?_
    first | exact ⟨by rw [if_pos h7], rfl, by rw [if_pos h7], rfl⟩ | exact ⟨by rw [if_neg h7], rfl, by rw [if_neg h7], rfl⟩
  · refine g_iconst (pc := 10) (v := (-1)) C dX8_clock_10 (by decide) ?_
    refine g_iret (pc := 11) C C2 dX8_clock_11 rfl (Nat.le_refl _) (Nat.le_refl _) ?_
    first | exact ⟨by rw [if_pos h7], rfl, by rw [if_pos h7], rfl⟩ | exact ⟨by rw [if_neg h7], rfl, by rw [if_neg h7], rfl⟩

set_option maxHeartbeats 4000000 in
set_option maxRecDepth 100000 in
theorem c_X8_height {d : Nat} {I : pm_I} {J : pm_J} {w : Nat → Int32} {g : Int32} {n t : Nat} {B : Nat → Nat → Int32} (hF : mo_F I w g 0 n) (ht : t ≤ 96) (hok : ∀ b, b < n → mo_ok (B b)) (hW : mo_W I 0 t n B I) {b h : Nat} (hb : b < n) (hh : h ≤ 48) : pm_M (d + 6) 0 0 yX8_height cX8_height 4 (some .int) [.ref 102, .int (nI b), .int (nI h)] SHP I J (fun r sh2 I2 J2 => r = some (.int (tr_ev w 0 t (B b) (min h (96 - t)) 3)) ∧ sh2 = SHP ∧ J2 = J ∧ mo_off I I2) := by
  refine pm_start (own := RX8) (nm := "height") (by decide) rfl rfl (L := [(0, .ref 102), (1, .int (nI b)), (2, .int (nI h))]) rfl (Nat.le_of_ble_eq_true rfl) (fun Γ C C2 => ?_)
  have h6 := hF.2.1
  refine g_aload_n (pc := 0) (i := 0) (j := 0) C dX8_height_0 rfl rfl ?_
  refine g_iload_n (pc := 1) (i := 1) (j := 1) C dX8_height_1 rfl rfl ?_
  refine g_callV (pc := 2) C dX8_height_2 lmX8_234 kcX8_isBalloon (by decide) (by first | rfl | assumption) (c_X8_isBalloon) rfl rfl (Nat.le_of_ble_eq_true rfl) ?_
  intro r9 sh9 I9 J9 hD9; obtain ⟨rfl, rfl, rfl, rfl⟩ := pm_Dq hD9; clear hD9
  try simp only [Option.toList_some, Option.toList_none, List.cons_append, List.nil_append]
  refine g_if_eqB (pc := 5) (tgt := 15) C dX8_height_5 (by decide) (fun h5 => absurd ⟨by exact nI_pos' (by omega), by rw [hF.1]; exact pm_leP hb (by omega)⟩ h5) (fun h5 => ?_)
  refine g_iload_n (pc := 8) (i := 2) (j := 2) C dX8_height_8 rfl rfl ?_
  refine g_callS (pc := 9) C dX8_height_9 lmX8_286 kcX8_isTrial (by decide) (c_X8_isTrial) rfl rfl (Nat.le_of_ble_eq_true rfl) ?_
  intro r9 sh9 I9 J9 hD9; obtain ⟨rfl, rfl, rfl, rfl⟩ := pm_Dq hD9; clear hD9
  try simp only [Option.toList_some, Option.toList_none, List.cons_append, List.nil_append]
  refine g_if_neB (pc := 12) (tgt := 17) C dX8_height_12 (by decide) (fun h12 => ?_) (fun h12 => absurd ⟨by exact nI_le (a := 0) (b := h) (by omega) (by omega), by exact nI_le (a := h) (b := 48) (by omega) (by decide)⟩ h12)
  refine g_aload_n (pc := 17) (i := 0) (j := 0) C dX8_height_17 rfl rfl ?_
  refine g_callV (pc := 18) C dX8_height_18 lmX8_292 kcX8_lends (by decide) (by first | rfl | assumption) (c_X8_lends) rfl rfl (Nat.le_of_ble_eq_true rfl) ?_
  intro r9 sh9 I9 J9 hD9; obtain ⟨rfl, rfl, rfl, rfl⟩ := pm_Dq hD9; clear hD9
  try simp only [Option.toList_some, Option.toList_none, List.cons_append, List.nil_append]
  have hL := mo_W_lend hW hF.2.1
  refine g_aload_n (pc := 21) (i := 0) (j := 0) C dX8_height_21 rfl rfl ?_
  refine g_iload_n (pc := 22) (i := 2) (j := 2) C dX8_height_22 rfl rfl ?_
  refine g_callV (pc := 23) C dX8_height_23 lmX8_289 kcX8_go (by decide) (by first | rfl | assumption) (c_X8_go (a := 43) hF (by decide) ht hok hh hL) rfl rfl (Nat.le_of_ble_eq_true rfl) ?_
  intro r9 sh9 I9 J9 hD9; obtain ⟨rfl, rfl, rfl, hV⟩ := hD9
  try simp only [Option.toList_some, Option.toList_none, List.cons_append, List.nil_append]
  refine g_aload_n (pc := 26) (i := 0) (j := 0) C dX8_height_26 rfl rfl ?_
  refine g_iload_n (pc := 27) (i := 1) (j := 1) C dX8_height_27 rfl rfl ?_
  refine g_iconst (pc := 28) (v := 2) C dX8_height_28 (by decide) ?_
  refine g_callV (pc := 29) C dX8_height_29 lmX8_219 kcX8_its (by decide) (by first | rfl | assumption) (c_mo_its hF (by decide) (by omega) hV hb (p := 2) (by decide) (by decide)) rfl rfl (Nat.le_of_ble_eq_true rfl) ?_
  intro r9 sh9 I9 J9 hD9; obtain ⟨rfl, rfl, rfl, rfl⟩ := pm_Dq hD9; clear hD9
  try simp only [Option.toList_some, Option.toList_none, List.cons_append, List.nil_append]
  refine g_istore_n (pc := 32) (i := 3) (L2 := [(0, _), (1, _), (2, _), (3, _)]) C dX8_height_32 rfl (by decide) rfl ?_
  refine g_aload_n (pc := 33) (i := 0) (j := 0) C dX8_height_33 rfl rfl ?_
  refine g_iconst (pc := 34) (v := 0) C dX8_height_34 (by decide) ?_
  refine g_putI (pc := 35) C dX8_height_35 lpX8_85 rfl rfl (by first | rfl | assumption) rfl ?_
  refine g_iload_n (pc := 38) (i := 3) (j := 3) C dX8_height_38 rfl rfl ?_
  refine g_iret (pc := 39) C C2 dX8_height_39 rfl (Nat.le_refl _) (Nat.le_refl _) ?_
  exact ⟨rfl, rfl, rfl, mo_W_back hV hW.2.2.1⟩

set_option maxHeartbeats 4000000 in
set_option maxRecDepth 100000 in
theorem c_X8_height0 {d : Nat} {x y : Int32} {I : pm_I} {J : pm_J} (hv : ¬ ((0 ≤ x ∧ x ≤ I 102 2 - 1) ∧ 0 ≤ y ∧ y ≤ 48)) : pm_M (d + 2) 0 0 yX8_height cX8_height 4 (some .int) [.ref 102, .int x, .int y] SHP I J (pm_D (some (.int (-1))) SHP I J) := by
  refine pm_start (own := RX8) (nm := "height") (by decide) rfl rfl (L := [(0, .ref 102), (1, .int x), (2, .int y)]) rfl (Nat.le_of_ble_eq_true rfl) (fun Γ C C2 => ?_)
  refine g_aload_n (pc := 0) (i := 0) (j := 0) C dX8_height_0 rfl rfl ?_
  refine g_iload_n (pc := 1) (i := 1) (j := 1) C dX8_height_1 rfl rfl ?_
  refine g_callV (pc := 2) C dX8_height_2 lmX8_234 kcX8_isBalloon (by decide) (by first | rfl | assumption) (c_X8_isBalloon) rfl rfl (Nat.le_of_ble_eq_true rfl) ?_
  intro r9 sh9 I9 J9 hD9; obtain ⟨rfl, rfl, rfl, rfl⟩ := pm_Dq hD9; clear hD9
  try simp only [Option.toList_some, Option.toList_none, List.cons_append, List.nil_append]
  refine g_if_eqB (pc := 5) (tgt := 15) C dX8_height_5 (by decide) (fun h5 => ?_) (fun h5 => ?_)
  · refine g_iconst (pc := 15) (v := (-1)) C dX8_height_15 (by decide) ?_
    refine g_iret (pc := 16) C C2 dX8_height_16 rfl (Nat.le_refl _) (Nat.le_refl _) ?_
    exact ⟨rfl, rfl, rfl, rfl⟩
  · refine g_iload_n (pc := 8) (i := 2) (j := 2) C dX8_height_8 rfl rfl ?_
    refine g_callS (pc := 9) C dX8_height_9 lmX8_286 kcX8_isTrial (by decide) (c_X8_isTrial) rfl rfl (Nat.le_of_ble_eq_true rfl) ?_
    intro r9 sh9 I9 J9 hD9; obtain ⟨rfl, rfl, rfl, rfl⟩ := pm_Dq hD9; clear hD9
    try simp only [Option.toList_some, Option.toList_none, List.cons_append, List.nil_append]
    refine g_if_neB (pc := 12) (tgt := 17) C dX8_height_12 (by decide) (fun h12 => ?_) (fun h12 => ?_)
    · exact absurd ⟨h5, h12⟩ hv
    · refine g_iconst (pc := 15) (v := (-1)) C dX8_height_15 (by decide) ?_
      refine g_iret (pc := 16) C C2 dX8_height_16 rfl (Nat.le_refl _) (Nat.le_refl _) ?_
      exact ⟨rfl, rfl, rfl, rfl⟩

set_option maxHeartbeats 4000000 in
set_option maxRecDepth 100000 in
theorem c_X8_clear {d : Nat} {I : pm_I} {J : pm_J} {w : Nat → Int32} {g : Int32} {n t : Nat} {B : Nat → Nat → Int32} (hF : mo_F I w g 0 n) (ht : t ≤ 96) (hok : ∀ b, b < n → mo_ok (B b)) (hW : mo_W I 0 t n B I) {b h : Nat} (hb : b < n) (hh : h ≤ 48) : pm_M (d + 7) 0 0 yX8_clear cX8_clear 3 (some .int) [.ref 102, .int (nI b), .int (nI h)] SHP I J (fun r sh2 I2 J2 => r = some (.int (pm_b (mo_CI w g t (min h (96 - t)) n B b (B b 2)))) ∧ sh2 = SHP ∧ J2 = J ∧ mo_off I I2) := by
  refine pm_start (own := RX8) (nm := "clear") (by decide) rfl rfl (L := [(0, .ref 102), (1, .int (nI b)), (2, .int (nI h))]) rfl (Nat.le_of_ble_eq_true rfl) (fun Γ C C2 => ?_)
  have h6 := hF.2.1
  refine g_aload_n (pc := 0) (i := 0) (j := 0) C dX8_clear_0 rfl rfl ?_
  refine g_iload_n (pc := 1) (i := 1) (j := 1) C dX8_clear_1 rfl rfl ?_
  refine g_callV (pc := 2) C dX8_clear_2 lmX8_234 kcX8_isBalloon (by decide) (by first | rfl | assumption) (c_X8_isBalloon) rfl rfl (Nat.le_of_ble_eq_true rfl) ?_
  intro r9 sh9 I9 J9 hD9; obtain ⟨rfl, rfl, rfl, rfl⟩ := pm_Dq hD9; clear hD9
  try simp only [Option.toList_some, Option.toList_none, List.cons_append, List.nil_append]
  refine g_if_eqB (pc := 5) (tgt := 15) C dX8_clear_5 (by decide) (fun h5 => absurd ⟨by exact nI_pos' (by omega), by rw [hF.1]; exact pm_leP hb (by omega)⟩ h5) (fun h5 => ?_)
  refine g_iload_n (pc := 8) (i := 2) (j := 2) C dX8_clear_8 rfl rfl ?_
  refine g_callS (pc := 9) C dX8_clear_9 lmX8_286 kcX8_isTrial (by decide) (c_X8_isTrial) rfl rfl (Nat.le_of_ble_eq_true rfl) ?_
  intro r9 sh9 I9 J9 hD9; obtain ⟨rfl, rfl, rfl, rfl⟩ := pm_Dq hD9; clear hD9
  try simp only [Option.toList_some, Option.toList_none, List.cons_append, List.nil_append]
  refine g_if_neB (pc := 12) (tgt := 17) C dX8_clear_12 (by decide) (fun h12 => ?_) (fun h12 => absurd ⟨by exact nI_le (a := 0) (b := h) (by omega) (by omega), by exact nI_le (a := h) (b := 48) (by omega) (by decide)⟩ h12)
  refine g_aload_n (pc := 17) (i := 0) (j := 0) C dX8_clear_17 rfl rfl ?_
  refine g_iload_n (pc := 18) (i := 1) (j := 1) C dX8_clear_18 rfl rfl ?_
  refine g_iconst (pc := 19) (v := 1) C dX8_clear_19 (by decide) ?_
  refine g_aload_n (pc := 20) (i := 0) (j := 0) C dX8_clear_20 rfl rfl ?_
  refine g_iload_n (pc := 21) (i := 1) (j := 1) C dX8_clear_21 rfl rfl ?_
  refine g_iconst (pc := 22) (v := 1) C dX8_clear_22 (by decide) ?_
  refine g_callV (pc := 23) C dX8_clear_23 lmX8_219 kcX8_its (by decide) (by first | rfl | assumption) (c_mo_its hF (by decide) (by omega) hW hb (p := 1) (by decide) (by decide)) rfl rfl (Nat.le_of_ble_eq_true rfl) ?_
  intro r9 sh9 I9 J9 hD9; obtain ⟨rfl, rfl, rfl, rfl⟩ := pm_Dq hD9; clear hD9
  try simp only [Option.toList_some, Option.toList_none, List.cons_append, List.nil_append]
  refine g_iload_n (pc := 26) (i := 2) (j := 2) C dX8_clear_26 rfl rfl ?_
  refine g_callV (pc := 27) C dX8_clear_27 lmX8_301 kcX8_isClearWith (by decide) (by first | rfl | assumption) (c_X8_isClearWith (p := 1) hF ht hok hW (by omega) hb (by decide) (by decide) (mo_ok_u (hok b hb) (by decide) (by decide))) rfl rfl (Nat.le_of_ble_eq_true rfl) ?_
  intro r9 sh9 I9 J9 hD9; obtain ⟨rfl, rfl, rfl, hO⟩ := hD9
  try simp only [Option.toList_some, Option.toList_none, List.cons_append, List.nil_append]
  refine g_if_eqB (pc := 30) (tgt := 37) C dX8_clear_30 (by decide) (fun h30 => ?_) (fun h30 => ?_)
  · refine g_iconst (pc := 37) (v := 0) C dX8_clear_37 (by decide) ?_
    refine g_iret (pc := 38) C C2 dX8_clear_38 rfl (Nat.le_refl _) (Nat.le_refl _) ?_
    refine ⟨?_, rfl, rfl, hO⟩
    have e9 := mo_CC_CI (w := w) (g := g) (t := t) (m := (min h (96 - t))) (B := B) (i := b) (v := B b 2) hb h6
    unfold pm_b
    first | rw [if_pos (e9.mp h30)] | rw [if_neg (fun q => h30 (e9.mpr q))]
  · refine g_iconst (pc := 33) (v := 1) C dX8_clear_33 (by decide) ?_
    refine g_goto (pc := 34) (tgt := 38) C dX8_clear_34 (by decide) ?_
    refine g_iret (pc := 38) C C2 dX8_clear_38 rfl (Nat.le_refl _) (Nat.le_refl _) ?_
    refine ⟨?_, rfl, rfl, hO⟩
    have e9 := mo_CC_CI (w := w) (g := g) (t := t) (m := (min h (96 - t))) (B := B) (i := b) (v := B b 2) hb h6
    unfold pm_b
    first | rw [if_pos (e9.mp h30)] | rw [if_neg (fun q => h30 (e9.mpr q))]

set_option maxHeartbeats 4000000 in
set_option maxRecDepth 100000 in
theorem c_X8_clear0 {d : Nat} {x y : Int32} {I : pm_I} {J : pm_J} (hv : ¬ ((0 ≤ x ∧ x ≤ I 102 2 - 1) ∧ 0 ≤ y ∧ y ≤ 48)) : pm_M (d + 2) 0 0 yX8_clear cX8_clear 3 (some .int) [.ref 102, .int x, .int y] SHP I J (pm_D (some (.int (-1))) SHP I J) := by
  refine pm_start (own := RX8) (nm := "clear") (by decide) rfl rfl (L := [(0, .ref 102), (1, .int x), (2, .int y)]) rfl (Nat.le_of_ble_eq_true rfl) (fun Γ C C2 => ?_)
  refine g_aload_n (pc := 0) (i := 0) (j := 0) C dX8_clear_0 rfl rfl ?_
  refine g_iload_n (pc := 1) (i := 1) (j := 1) C dX8_clear_1 rfl rfl ?_
  refine g_callV (pc := 2) C dX8_clear_2 lmX8_234 kcX8_isBalloon (by decide) (by first | rfl | assumption) (c_X8_isBalloon) rfl rfl (Nat.le_of_ble_eq_true rfl) ?_
  intro r9 sh9 I9 J9 hD9; obtain ⟨rfl, rfl, rfl, rfl⟩ := pm_Dq hD9; clear hD9
  try simp only [Option.toList_some, Option.toList_none, List.cons_append, List.nil_append]
  refine g_if_eqB (pc := 5) (tgt := 15) C dX8_clear_5 (by decide) (fun h5 => ?_) (fun h5 => ?_)
  · refine g_iconst (pc := 15) (v := (-1)) C dX8_clear_15 (by decide) ?_
    refine g_iret (pc := 16) C C2 dX8_clear_16 rfl (Nat.le_refl _) (Nat.le_refl _) ?_
    exact ⟨rfl, rfl, rfl, rfl⟩
  · refine g_iload_n (pc := 8) (i := 2) (j := 2) C dX8_clear_8 rfl rfl ?_
    refine g_callS (pc := 9) C dX8_clear_9 lmX8_286 kcX8_isTrial (by decide) (c_X8_isTrial) rfl rfl (Nat.le_of_ble_eq_true rfl) ?_
    intro r9 sh9 I9 J9 hD9; obtain ⟨rfl, rfl, rfl, rfl⟩ := pm_Dq hD9; clear hD9
    try simp only [Option.toList_some, Option.toList_none, List.cons_append, List.nil_append]
    refine g_if_neB (pc := 12) (tgt := 17) C dX8_clear_12 (by decide) (fun h12 => ?_) (fun h12 => ?_)
    · exact absurd ⟨h5, h12⟩ hv
    · refine g_iconst (pc := 15) (v := (-1)) C dX8_clear_15 (by decide) ?_
      refine g_iret (pc := 16) C C2 dX8_clear_16 rfl (Nat.le_refl _) (Nat.le_refl _) ?_
      exact ⟨rfl, rfl, rfl, rfl⟩

set_option maxHeartbeats 4000000 in
set_option maxRecDepth 100000 in
theorem c_X8_leastSand {d : Nat} {I : pm_I} {J : pm_J} {w : Nat → Int32} {g : Int32} {n t : Nat} {B : Nat → Nat → Int32} (hF : mo_F I w g 0 n) (ht : t ≤ 96) (hok : ∀ b, b < n → mo_ok (B b)) (hW : mo_W I 0 t n B I) {b h : Nat} (hb : b < n) (hh : h ≤ 24) {S : Nat} (hS : B b 6 = nI S) (hS9 : S ≤ 999) : pm_M (d + 7) 0 0 yX8_leastSand cX8_leastSand 5 (some .int) [.ref 102, .int (nI b), .int (nI h)] SHP I J (fun r sh2 I2 J2 => r = some (.int (tr_sr (fun j => mo_CW w g t (min h (96 - t)) n B b 6 (nI S - nI j)) nI (-3) (S + 1) (S + 1))) ∧ sh2 = SHP ∧ J2 = J ∧ mo_off I I2) := by
  refine pm_start (own := RX8) (nm := "leastSand") (by decide) rfl rfl (L := [(0, .ref 102), (1, .int (nI b)), (2, .int (nI h))]) rfl (Nat.le_of_ble_eq_true rfl) (fun Γ C C2 => ?_)
  have h6 := hF.2.1
  have hloop : ∀ j, j ≤ (S + 1) → (tr_sr (fun j => mo_CW w g t (min h (96 - t)) n B b 6 (nI S - nI j)) nI (-3) (S + 1) (S + 1) = tr_sr (fun j => mo_CW w g t (min h (96 - t)) n B b 6 (nI S - nI j)) nI (-3) (S + 1) ((S + 1) - j)) → ∀ I9, mo_off I I9 → pm_G Γ 0 0 27 [(0, .ref 102), (1, .int (nI b)), (2, .int (nI h)), (3, .int (nI S)), (4, .int (nI j))] [] SHP I9 J := by
    refine pm_up (fun j => (tr_sr (fun j => mo_CW w g t (min h (96 - t)) n B b 6 (nI S - nI j)) nI (-3) (S + 1) (S + 1) = tr_sr (fun j => mo_CW w g t (min h (96 - t)) n B b 6 (nI S - nI j)) nI (-3) (S + 1) ((S + 1) - j)) → ∀ I9, mo_off I I9 → pm_G Γ 0 0 27 [(0, .ref 102), (1, .int (nI b)), (2, .int (nI h)), (3, .int (nI S)), (4, .int (nI j))] [] SHP I9 J) ((S + 1)) (fun j hj ih hR I9 hO9 => ?_)
    have hF9 := mo_off_F hO9 hF
    have hW9 := mo_off_W hO9 h6 hW
    refine g_iload (pc := 27) (j := 4) C dX8_leastSand_27 rfl ?_
    refine g_iload_n (pc := 29) (i := 3) (j := 3) C dX8_leastSand_29 rfl rfl ?_
    refine g_icmp_gt (pc := 30) (tgt := 53) C dX8_leastSand_30 (by decide) (fun h30 => ?_) (fun h30 => ?_)
    · refine g_iload (pc := 53) (j := 4) C dX8_leastSand_53 rfl ?_
      refine g_iload_n (pc := 55) (i := 3) (j := 3) C dX8_leastSand_55 rfl rfl ?_
      refine g_icmp_gt (pc := 56) (tgt := 64) C dX8_leastSand_56 (by decide) (fun h56 => ?_) (fun h56 => ?_)
      · refine g_bipush (pc := 64) (v := (-3)) C dX8_leastSand_64 (by decide) ?_
        refine g_iret (pc := 66) C C2 dX8_leastSand_66 rfl (Nat.le_refl _) (Nat.le_refl _) ?_
        first | exact absurd h30 h56 | exact absurd h56 h30 | (refine ⟨?_, rfl, rfl, mo_off_tr hO9 hO⟩; rw [hR, tr_sr_step hlt, if_pos (e9.mp h44)]) | (refine ⟨?_, rfl, rfl, hO9⟩; have ej : j = S + 1 := (by have := (nI_ltI (a := S) (b := j) (by omega) (by omega)).mp h30; omega); rw [hR, ej, Nat.sub_self]; rfl)
      · refine g_iload (pc := 59) (j := 4) C dX8_leastSand_59 rfl ?_
        refine g_goto (pc := 61) (tgt := 66) C dX8_leastSand_61 (by decide) ?_
        refine g_iret (pc := 66) C C2 dX8_leastSand_66 rfl (Nat.le_refl _) (Nat.le_refl _) ?_
        first | exact absurd h30 h56 | exact absurd h56 h30 | (refine ⟨?_, rfl, rfl, mo_off_tr hO9 hO⟩; rw [hR, tr_sr_step hlt, if_pos (e9.mp h44)]) | (refine ⟨?_, rfl, rfl, hO9⟩; have ej : j = S + 1 := (by have := (nI_ltI (a := S) (b := j) (by omega) (by omega)).mp h30; omega); rw [hR, ej, Nat.sub_self]; rfl)
    · have hlt : j < S + 1 := Nat.lt_of_not_le (fun q => h30 ((nI_ltI (a := S) (b := j) (by omega) (by omega)).mpr (by omega)))
      refine g_aload_n (pc := 33) (i := 0) (j := 0) C dX8_leastSand_33 rfl rfl ?_
      refine g_iload_n (pc := 34) (i := 1) (j := 1) C dX8_leastSand_34 rfl rfl ?_
      refine g_iconst (pc := 35) (v := 5) C dX8_leastSand_35 (by decide) ?_
      refine g_iload_n (pc := 36) (i := 3) (j := 3) C dX8_leastSand_36 rfl rfl ?_
      refine g_iload (pc := 37) (j := 4) C dX8_leastSand_37 rfl ?_
      refine g_isub (pc := 39) C dX8_leastSand_39 ?_
      refine g_iload_n (pc := 40) (i := 2) (j := 2) C dX8_leastSand_40 rfl rfl ?_
      refine g_callV (pc := 41) C dX8_leastSand_41 lmX8_301 kcX8_isClearWith (by decide) (by first | rfl | assumption) (c_X8_isClearWith (p := 5) hF9 ht hok hW9 (by omega) hb (by decide) (by decide) (mo_ok_u (hok b hb) (by decide) (by decide))) rfl rfl (Nat.le_of_ble_eq_true rfl) ?_
      intro r9 sh9 I10 J9 hD9; obtain ⟨rfl, rfl, rfl, hO⟩ := hD9
      try simp only [Option.toList_some, Option.toList_none, List.cons_append, List.nil_append]
      have e9 := mo_CC_CW (w := w) (g := g) (t := t) (m := (min h (96 - t))) (B := B) (i := b) (p := 6) (v := nI S - nI j) hb h6 (by decide)
      refine g_if_neB (pc := 44) (tgt := 53) C dX8_leastSand_44 (by decide) (fun h44 => ?_) (fun h44 => ?_)
      · refine g_iload (pc := 53) (j := 4) C dX8_leastSand_53 rfl ?_
        refine g_iload_n (pc := 55) (i := 3) (j := 3) C dX8_leastSand_55 rfl rfl ?_
        refine g_icmp_gt (pc := 56) (tgt := 64) C dX8_leastSand_56 (by decide) (fun h56 => ?_) (fun h56 => ?_)
        · refine g_bipush (pc := 64) (v := (-3)) C dX8_leastSand_64 (by decide) ?_
          refine g_iret (pc := 66) C C2 dX8_leastSand_66 rfl (Nat.le_refl _) (Nat.le_refl _) ?_
          first | exact absurd h30 h56 | exact absurd h56 h30 | (refine ⟨?_, rfl, rfl, mo_off_tr hO9 hO⟩; rw [hR, tr_sr_step hlt, if_pos (e9.mp h44)]) | (refine ⟨?_, rfl, rfl, hO9⟩; have ej : j = S + 1 := (by have := (nI_ltI (a := S) (b := j) (by omega) (by omega)).mp h30; omega); rw [hR, ej, Nat.sub_self]; rfl)
        · refine g_iload (pc := 59) (j := 4) C dX8_leastSand_59 rfl ?_
          refine g_goto (pc := 61) (tgt := 66) C dX8_leastSand_61 (by decide) ?_
          refine g_iret (pc := 66) C C2 dX8_leastSand_66 rfl (Nat.le_refl _) (Nat.le_refl _) ?_
          first | exact absurd h30 h56 | exact absurd h56 h30 | (refine ⟨?_, rfl, rfl, mo_off_tr hO9 hO⟩; rw [hR, tr_sr_step hlt, if_pos (e9.mp h44)]) | (refine ⟨?_, rfl, rfl, hO9⟩; have ej : j = S + 1 := (by have := (nI_ltI (a := S) (b := j) (by omega) (by omega)).mp h30; omega); rw [hR, ej, Nat.sub_self]; rfl)
      · refine g_iinc (pc := 47) (j := 4) (v := _ + 1) (L2 := [(0, _), (1, _), (2, _), (3, _), (4, _)]) C dX8_leastSand_47 rfl rfl (by decide) rfl ?_
        refine g_goto (pc := 50) (tgt := 27) C dX8_leastSand_50 (by decide) ?_
        refine pm_Geq (ih hlt ?_ I10 (mo_off_tr hO9 hO)) ?_ rfl rfl rfl
        · rw [hR, tr_sr_step hlt, if_neg (fun q => h44 (e9.mpr q))]
        · simp only [nI_1]
  refine g_aload_n (pc := 0) (i := 0) (j := 0) C dX8_leastSand_0 rfl rfl ?_
  refine g_iload_n (pc := 1) (i := 1) (j := 1) C dX8_leastSand_1 rfl rfl ?_
  refine g_callV (pc := 2) C dX8_leastSand_2 lmX8_234 kcX8_isBalloon (by decide) (by first | rfl | assumption) (c_X8_isBalloon) rfl rfl (Nat.le_of_ble_eq_true rfl) ?_
  intro r9 sh9 I9 J9 hD9; obtain ⟨rfl, rfl, rfl, rfl⟩ := pm_Dq hD9; clear hD9
  try simp only [Option.toList_some, Option.toList_none, List.cons_append, List.nil_append]
  refine g_if_eqB (pc := 5) (tgt := 15) C dX8_leastSand_5 (by decide) (fun h5 => absurd ⟨by exact nI_pos' (by omega), by rw [hF.1]; exact pm_leP hb (by omega)⟩ h5) (fun h5 => ?_)
  refine g_iload_n (pc := 8) (i := 2) (j := 2) C dX8_leastSand_8 rfl rfl ?_
  refine g_callS (pc := 9) C dX8_leastSand_9 lmX8_304 kcX8_isSoon (by decide) (c_X8_isSoon) rfl rfl (Nat.le_of_ble_eq_true rfl) ?_
  intro r9 sh9 I9 J9 hD9; obtain ⟨rfl, rfl, rfl, rfl⟩ := pm_Dq hD9; clear hD9
  try simp only [Option.toList_some, Option.toList_none, List.cons_append, List.nil_append]
  refine g_if_neB (pc := 12) (tgt := 17) C dX8_leastSand_12 (by decide) (fun h12 => ?_) (fun h12 => absurd ⟨by exact nI_le (a := 0) (b := h) (by omega) (by omega), by exact nI_le (a := h) (b := 24) (by omega) (by decide)⟩ h12)
  refine g_aload_n (pc := 17) (i := 0) (j := 0) C dX8_leastSand_17 rfl rfl ?_
  refine g_iload_n (pc := 18) (i := 1) (j := 1) C dX8_leastSand_18 rfl rfl ?_
  refine g_iconst (pc := 19) (v := 5) C dX8_leastSand_19 (by decide) ?_
  refine g_callV (pc := 20) C dX8_leastSand_20 lmX8_219 kcX8_its (by decide) (by first | rfl | assumption) (c_mo_its hF (by decide) (by omega) hW hb (p := 5) (by decide) (by decide)) rfl rfl (Nat.le_of_ble_eq_true rfl) ?_
  intro r9 sh9 I9 J9 hD9; obtain ⟨rfl, rfl, rfl, rfl⟩ := pm_Dq hD9; clear hD9
  try simp only [Option.toList_some, Option.toList_none, List.cons_append, List.nil_append]
  refine g_istore_n (pc := 23) (i := 3) (L2 := [(0, _), (1, _), (2, _), (3, _)]) C dX8_leastSand_23 rfl (by decide) rfl ?_
  refine g_iconst (pc := 24) (v := 0) C dX8_leastSand_24 (by decide) ?_
  refine g_istore (pc := 25) (L2 := [(0, _), (1, _), (2, _), (3, _), (4, _)]) C dX8_leastSand_25 (by decide) rfl ?_
  exact pm_Geq (hloop 0 (Nat.zero_le _) rfl I (mo_off_rf I)) (by rw [hS]; rfl) rfl rfl rfl

set_option maxHeartbeats 4000000 in
set_option maxRecDepth 100000 in
theorem c_X8_ropeFor {d : Nat} {I : pm_I} {J : pm_J} {w : Nat → Int32} {g : Int32} {n t : Nat} {B : Nat → Nat → Int32} (hF : mo_F I w g 0 n) (ht : t ≤ 96) (hok : ∀ b, b < n → mo_ok (B b)) (hW : mo_W I 0 t n B I) {b h : Nat} (hb : b < n) (hh : h ≤ 24) : pm_M (d + 7) 0 0 yX8_ropeFor cX8_ropeFor 4 (some .int) [.ref 102, .int (nI b), .int (nI h)] SHP I J (fun r sh2 I2 J2 => r = some (.int (tr_sr (fun j => mo_CW w g t (min h (96 - t)) n B b 4 (nI (99 - j))) (fun j => nI (99 - j)) (-3) 99 99)) ∧ sh2 = SHP ∧ J2 = J ∧ mo_off I I2) := by
  refine pm_start (own := RX8) (nm := "ropeFor") (by decide) rfl rfl (L := [(0, .ref 102), (1, .int (nI b)), (2, .int (nI h))]) rfl (Nat.le_of_ble_eq_true rfl) (fun Γ C C2 => ?_)
  have h6 := hF.2.1
  have hloop : ∀ j, j ≤ 99 → (tr_sr (fun j => mo_CW w g t (min h (96 - t)) n B b 4 (nI (99 - j))) (fun j => nI (99 - j)) (-3) 99 99 = tr_sr (fun j => mo_CW w g t (min h (96 - t)) n B b 4 (nI (99 - j))) (fun j => nI (99 - j)) (-3) 99 (99 - j)) → ∀ I9, mo_off I I9 → pm_G Γ 0 0 20 [(0, .ref 102), (1, .int (nI b)), (2, .int (nI h)), (3, .int (nI (99 - j)))] [] SHP I9 J := by
    refine pm_up (fun j => (tr_sr (fun j => mo_CW w g t (min h (96 - t)) n B b 4 (nI (99 - j))) (fun j => nI (99 - j)) (-3) 99 99 = tr_sr (fun j => mo_CW w g t (min h (96 - t)) n B b 4 (nI (99 - j))) (fun j => nI (99 - j)) (-3) 99 (99 - j)) → ∀ I9, mo_off I I9 → pm_G Γ 0 0 20 [(0, .ref 102), (1, .int (nI b)), (2, .int (nI h)), (3, .int (nI (99 - j)))] [] SHP I9 J) (99) (fun j hj ih hR I9 hO9 => ?_)
    have hF9 := mo_off_F hO9 hF
    have hW9 := mo_off_W hO9 h6 hW
    refine g_iload_n (pc := 20) (i := 3) (j := 3) C dX8_ropeFor_20 rfl rfl ?_
    refine g_if_le (pc := 21) (tgt := 41) C dX8_ropeFor_21 (by decide) (fun h21 => ?_) (fun h21 => ?_)
    · refine g_iload_n (pc := 41) (i := 3) (j := 3) C dX8_ropeFor_41 rfl rfl ?_
      refine g_if_le (pc := 42) (tgt := 49) C dX8_ropeFor_42 (by decide) (fun h42 => ?_) (fun h42 => ?_)
      · refine g_bipush (pc := 49) (v := (-3)) C dX8_ropeFor_49 (by decide) ?_
        refine g_iret (pc := 51) C C2 dX8_ropeFor_51 rfl (Nat.le_refl _) (Nat.le_refl _) ?_
        first | exact absurd h21 h42 | exact absurd h42 h21 | (refine ⟨?_, rfl, rfl, mo_off_tr hO9 hO⟩; rw [hR, tr_sr_step hlt, if_pos (e9.mp h32)]) | (refine ⟨?_, rfl, rfl, hO9⟩; have ej : j = 99 := (by have := (nI_gt0 (n := 99 - j) (by omega)).mp h21; omega); rw [hR, ej, Nat.sub_self]; rfl)
      · refine g_iload_n (pc := 45) (i := 3) (j := 3) C dX8_ropeFor_45 rfl rfl ?_
        refine g_goto (pc := 46) (tgt := 51) C dX8_ropeFor_46 (by decide) ?_
        refine g_iret (pc := 51) C C2 dX8_ropeFor_51 rfl (Nat.le_refl _) (Nat.le_refl _) ?_
        first | exact absurd h21 h42 | exact absurd h42 h21 | (refine ⟨?_, rfl, rfl, mo_off_tr hO9 hO⟩; rw [hR, tr_sr_step hlt, if_pos (e9.mp h32)]) | (refine ⟨?_, rfl, rfl, hO9⟩; have ej : j = 99 := (by have := (nI_gt0 (n := 99 - j) (by omega)).mp h21; omega); rw [hR, ej, Nat.sub_self]; rfl)
    · have hlt : j < 99 := by have : ¬ 99 - j = 0 := fun q => h21 ((nI_gt0 (n := 99 - j) (by omega)).mpr q); omega
      refine g_aload_n (pc := 24) (i := 0) (j := 0) C dX8_ropeFor_24 rfl rfl ?_
      refine g_iload_n (pc := 25) (i := 1) (j := 1) C dX8_ropeFor_25 rfl rfl ?_
      refine g_iconst (pc := 26) (v := 3) C dX8_ropeFor_26 (by decide) ?_
      refine g_iload_n (pc := 27) (i := 3) (j := 3) C dX8_ropeFor_27 rfl rfl ?_
      refine g_iload_n (pc := 28) (i := 2) (j := 2) C dX8_ropeFor_28 rfl rfl ?_
      refine g_callV (pc := 29) C dX8_ropeFor_29 lmX8_301 kcX8_isClearWith (by decide) (by first | rfl | assumption) (c_X8_isClearWith (p := 3) hF9 ht hok hW9 (by omega) hb (by decide) (by decide) (mo_ok_r (hok b hb) (nI_le (a := 1) (by omega) (by omega)) (nI_le (b := 99) (by omega) (by decide)))) rfl rfl (Nat.le_of_ble_eq_true rfl) ?_
      intro r9 sh9 I10 J9 hD9; obtain ⟨rfl, rfl, rfl, hO⟩ := hD9
      try simp only [Option.toList_some, Option.toList_none, List.cons_append, List.nil_append]
      have e9 := mo_CC_CW (w := w) (g := g) (t := t) (m := (min h (96 - t))) (B := B) (i := b) (p := 4) (v := nI (99 - j)) hb h6 (by decide)
      refine g_if_neB (pc := 32) (tgt := 41) C dX8_ropeFor_32 (by decide) (fun h32 => ?_) (fun h32 => ?_)
      · refine g_iload_n (pc := 41) (i := 3) (j := 3) C dX8_ropeFor_41 rfl rfl ?_
        refine g_if_le (pc := 42) (tgt := 49) C dX8_ropeFor_42 (by decide) (fun h42 => ?_) (fun h42 => ?_)
        · refine g_bipush (pc := 49) (v := (-3)) C dX8_ropeFor_49 (by decide) ?_
          refine g_iret (pc := 51) C C2 dX8_ropeFor_51 rfl (Nat.le_refl _) (Nat.le_refl _) ?_
          first | exact absurd h21 h42 | exact absurd h42 h21 | (refine ⟨?_, rfl, rfl, mo_off_tr hO9 hO⟩; rw [hR, tr_sr_step hlt, if_pos (e9.mp h32)]) | (refine ⟨?_, rfl, rfl, hO9⟩; have ej : j = 99 := (by have := (nI_gt0 (n := 99 - j) (by omega)).mp h21; omega); rw [hR, ej, Nat.sub_self]; rfl)
        · refine g_iload_n (pc := 45) (i := 3) (j := 3) C dX8_ropeFor_45 rfl rfl ?_
          refine g_goto (pc := 46) (tgt := 51) C dX8_ropeFor_46 (by decide) ?_
          refine g_iret (pc := 51) C C2 dX8_ropeFor_51 rfl (Nat.le_refl _) (Nat.le_refl _) ?_
          first | exact absurd h21 h42 | exact absurd h42 h21 | (refine ⟨?_, rfl, rfl, mo_off_tr hO9 hO⟩; rw [hR, tr_sr_step hlt, if_pos (e9.mp h32)]) | (refine ⟨?_, rfl, rfl, hO9⟩; have ej : j = 99 := (by have := (nI_gt0 (n := 99 - j) (by omega)).mp h21; omega); rw [hR, ej, Nat.sub_self]; rfl)
      · refine g_iinc (pc := 35) (j := 3) (v := _ - 1) (L2 := [(0, _), (1, _), (2, _), (3, _)]) C dX8_ropeFor_35 rfl (pm_inc _) (by decide) rfl ?_
        refine g_goto (pc := 38) (tgt := 20) C dX8_ropeFor_38 (by decide) ?_
        refine pm_Geq (ih hlt ?_ I10 (mo_off_tr hO9 hO)) ?_ rfl rfl rfl
        · rw [hR, tr_sr_step hlt, if_neg (fun q => h32 (e9.mpr q))]
        · rw [show 99 - j = (99 - (j + 1)) + 1 by omega, nI_pred]
  refine g_aload_n (pc := 0) (i := 0) (j := 0) C dX8_ropeFor_0 rfl rfl ?_
  refine g_iload_n (pc := 1) (i := 1) (j := 1) C dX8_ropeFor_1 rfl rfl ?_
  refine g_callV (pc := 2) C dX8_ropeFor_2 lmX8_234 kcX8_isBalloon (by decide) (by first | rfl | assumption) (c_X8_isBalloon) rfl rfl (Nat.le_of_ble_eq_true rfl) ?_
  intro r9 sh9 I9 J9 hD9; obtain ⟨rfl, rfl, rfl, rfl⟩ := pm_Dq hD9; clear hD9
  try simp only [Option.toList_some, Option.toList_none, List.cons_append, List.nil_append]
  refine g_if_eqB (pc := 5) (tgt := 15) C dX8_ropeFor_5 (by decide) (fun h5 => absurd ⟨by exact nI_pos' (by omega), by rw [hF.1]; exact pm_leP hb (by omega)⟩ h5) (fun h5 => ?_)
  refine g_iload_n (pc := 8) (i := 2) (j := 2) C dX8_ropeFor_8 rfl rfl ?_
  refine g_callS (pc := 9) C dX8_ropeFor_9 lmX8_304 kcX8_isSoon (by decide) (c_X8_isSoon) rfl rfl (Nat.le_of_ble_eq_true rfl) ?_
  intro r9 sh9 I9 J9 hD9; obtain ⟨rfl, rfl, rfl, rfl⟩ := pm_Dq hD9; clear hD9
  try simp only [Option.toList_some, Option.toList_none, List.cons_append, List.nil_append]
  refine g_if_neB (pc := 12) (tgt := 17) C dX8_ropeFor_12 (by decide) (fun h12 => ?_) (fun h12 => absurd ⟨by exact nI_le (a := 0) (b := h) (by omega) (by omega), by exact nI_le (a := h) (b := 24) (by omega) (by decide)⟩ h12)
  refine g_bipush (pc := 17) (v := 99) C dX8_ropeFor_17 (by decide) ?_
  refine g_istore_n (pc := 19) (i := 3) (L2 := [(0, _), (1, _), (2, _), (3, _)]) C dX8_ropeFor_19 rfl (by decide) rfl ?_
  exact hloop 0 (Nat.zero_le _) rfl I (mo_off_rf I)

set_option maxHeartbeats 4000000 in
set_option maxRecDepth 100000 in
theorem c_X8_columnFor {d : Nat} {I : pm_I} {J : pm_J} {w : Nat → Int32} {g : Int32} {n t : Nat} {B : Nat → Nat → Int32} (hF : mo_F I w g 0 n) (ht : t ≤ 96) (hok : ∀ b, b < n → mo_ok (B b)) (hW : mo_W I 0 t n B I) {b h : Nat} (hb : b < n) (hh : h ≤ 24) : pm_M (d + 7) 0 0 yX8_columnFor cX8_columnFor 4 (some .int) [.ref 102, .int (nI b), .int (nI h)] SHP I J (fun r sh2 I2 J2 => r = some (.int (tr_sr (fun j => mo_CI w g t (min h (96 - t)) n B b (nI j)) nI (-3) 6 6)) ∧ sh2 = SHP ∧ J2 = J ∧ mo_off I I2) := by
  refine pm_start (own := RX8) (nm := "columnFor") (by decide) rfl rfl (L := [(0, .ref 102), (1, .int (nI b)), (2, .int (nI h))]) rfl (Nat.le_of_ble_eq_true rfl) (fun Γ C C2 => ?_)
  have h6 := hF.2.1
  have hloop : ∀ j, j ≤ 6 → (tr_sr (fun j => mo_CI w g t (min h (96 - t)) n B b (nI j)) nI (-3) 6 6 = tr_sr (fun j => mo_CI w g t (min h (96 - t)) n B b (nI j)) nI (-3) 6 (6 - j)) → ∀ I9, mo_off I I9 → pm_G Γ 0 0 19 [(0, .ref 102), (1, .int (nI b)), (2, .int (nI h)), (3, .int (nI j))] [] SHP I9 J := by
    refine pm_up (fun j => (tr_sr (fun j => mo_CI w g t (min h (96 - t)) n B b (nI j)) nI (-3) 6 6 = tr_sr (fun j => mo_CI w g t (min h (96 - t)) n B b (nI j)) nI (-3) 6 (6 - j)) → ∀ I9, mo_off I I9 → pm_G Γ 0 0 19 [(0, .ref 102), (1, .int (nI b)), (2, .int (nI h)), (3, .int (nI j))] [] SHP I9 J) (6) (fun j hj ih hR I9 hO9 => ?_)
    have hF9 := mo_off_F hO9 hF
    have hW9 := mo_off_W hO9 h6 hW
    refine g_iload_n (pc := 19) (i := 3) (j := 3) C dX8_columnFor_19 rfl rfl ?_
    refine g_bipush (pc := 20) (v := 6) C dX8_columnFor_20 (by decide) ?_
    refine g_icmp_ge (pc := 22) (tgt := 42) C dX8_columnFor_22 (by decide) (fun h22 => ?_) (fun h22 => ?_)
    · refine g_iload_n (pc := 42) (i := 3) (j := 3) C dX8_columnFor_42 rfl rfl ?_
      refine g_bipush (pc := 43) (v := 6) C dX8_columnFor_43 (by decide) ?_
      refine g_icmp_ge (pc := 45) (tgt := 52) C dX8_columnFor_45 (by decide) (fun h45 => ?_) (fun h45 => ?_)
      · refine g_bipush (pc := 52) (v := (-3)) C dX8_columnFor_52 (by decide) ?_
        refine g_iret (pc := 54) C C2 dX8_columnFor_54 rfl (Nat.le_refl _) (Nat.le_refl _) ?_
        first | exact absurd h22 h45 | exact absurd h45 h22 | (refine ⟨?_, rfl, rfl, mo_off_tr hO9 hO⟩; rw [hR, tr_sr_step hlt, if_pos (e9.mp h33)]) | (refine ⟨?_, rfl, rfl, hO9⟩; have ej : j = 6 := (by have := (nI_leI (a := 6) (b := j) (by decide) (by omega)).mp h22; omega); rw [hR, ej, Nat.sub_self]; rfl)
      · refine g_iload_n (pc := 48) (i := 3) (j := 3) C dX8_columnFor_48 rfl rfl ?_
        refine g_goto (pc := 49) (tgt := 54) C dX8_columnFor_49 (by decide) ?_
        refine g_iret (pc := 54) C C2 dX8_columnFor_54 rfl (Nat.le_refl _) (Nat.le_refl _) ?_
        first | exact absurd h22 h45 | exact absurd h45 h22 | (refine ⟨?_, rfl, rfl, mo_off_tr hO9 hO⟩; rw [hR, tr_sr_step hlt, if_pos (e9.mp h33)]) | (refine ⟨?_, rfl, rfl, hO9⟩; have ej : j = 6 := (by have := (nI_leI (a := 6) (b := j) (by decide) (by omega)).mp h22; omega); rw [hR, ej, Nat.sub_self]; rfl)
    · have hlt : j < 6 := Nat.lt_of_not_le (fun q => h22 ((nI_leI (a := 6) (b := j) (by decide) (by omega)).mpr q))
      refine g_aload_n (pc := 25) (i := 0) (j := 0) C dX8_columnFor_25 rfl rfl ?_
      refine g_iload_n (pc := 26) (i := 1) (j := 1) C dX8_columnFor_26 rfl rfl ?_
      refine g_iconst (pc := 27) (v := 1) C dX8_columnFor_27 (by decide) ?_
      refine g_iload_n (pc := 28) (i := 3) (j := 3) C dX8_columnFor_28 rfl rfl ?_
      refine g_iload_n (pc := 29) (i := 2) (j := 2) C dX8_columnFor_29 rfl rfl ?_
      refine g_callV (pc := 30) C dX8_columnFor_30 lmX8_301 kcX8_isClearWith (by decide) (by first | rfl | assumption) (c_X8_isClearWith (p := 1) hF9 ht hok hW9 (by omega) hb (by decide) (by decide) (mo_ok_u (hok b hb) (by decide) (by decide))) rfl rfl (Nat.le_of_ble_eq_true rfl) ?_
      intro r9 sh9 I10 J9 hD9; obtain ⟨rfl, rfl, rfl, hO⟩ := hD9
      try simp only [Option.toList_some, Option.toList_none, List.cons_append, List.nil_append]
      have e9 := mo_CC_CI (w := w) (g := g) (t := t) (m := (min h (96 - t))) (B := B) (i := b) (v := nI j) hb h6
      refine g_if_neB (pc := 33) (tgt := 42) C dX8_columnFor_33 (by decide) (fun h33 => ?_) (fun h33 => ?_)
      · refine g_iload_n (pc := 42) (i := 3) (j := 3) C dX8_columnFor_42 rfl rfl ?_
        refine g_bipush (pc := 43) (v := 6) C dX8_columnFor_43 (by decide) ?_
        refine g_icmp_ge (pc := 45) (tgt := 52) C dX8_columnFor_45 (by decide) (fun h45 => ?_) (fun h45 => ?_)
        · refine g_bipush (pc := 52) (v := (-3)) C dX8_columnFor_52 (by decide) ?_
          refine g_iret (pc := 54) C C2 dX8_columnFor_54 rfl (Nat.le_refl _) (Nat.le_refl _) ?_
          first | exact absurd h22 h45 | exact absurd h45 h22 | (refine ⟨?_, rfl, rfl, mo_off_tr hO9 hO⟩; rw [hR, tr_sr_step hlt, if_pos (e9.mp h33)]) | (refine ⟨?_, rfl, rfl, hO9⟩; have ej : j = 6 := (by have := (nI_leI (a := 6) (b := j) (by decide) (by omega)).mp h22; omega); rw [hR, ej, Nat.sub_self]; rfl)
        · refine g_iload_n (pc := 48) (i := 3) (j := 3) C dX8_columnFor_48 rfl rfl ?_
          refine g_goto (pc := 49) (tgt := 54) C dX8_columnFor_49 (by decide) ?_
          refine g_iret (pc := 54) C C2 dX8_columnFor_54 rfl (Nat.le_refl _) (Nat.le_refl _) ?_
          first | exact absurd h22 h45 | exact absurd h45 h22 | (refine ⟨?_, rfl, rfl, mo_off_tr hO9 hO⟩; rw [hR, tr_sr_step hlt, if_pos (e9.mp h33)]) | (refine ⟨?_, rfl, rfl, hO9⟩; have ej : j = 6 := (by have := (nI_leI (a := 6) (b := j) (by decide) (by omega)).mp h22; omega); rw [hR, ej, Nat.sub_self]; rfl)
      · refine g_iinc (pc := 36) (j := 3) (v := _ + 1) (L2 := [(0, _), (1, _), (2, _), (3, _)]) C dX8_columnFor_36 rfl rfl (by decide) rfl ?_
        refine g_goto (pc := 39) (tgt := 19) C dX8_columnFor_39 (by decide) ?_
        refine pm_Geq (ih hlt ?_ I10 (mo_off_tr hO9 hO)) ?_ rfl rfl rfl
        · rw [hR, tr_sr_step hlt, if_neg (fun q => h33 (e9.mpr q))]
        · simp only [nI_1]
  refine g_aload_n (pc := 0) (i := 0) (j := 0) C dX8_columnFor_0 rfl rfl ?_
  refine g_iload_n (pc := 1) (i := 1) (j := 1) C dX8_columnFor_1 rfl rfl ?_
  refine g_callV (pc := 2) C dX8_columnFor_2 lmX8_234 kcX8_isBalloon (by decide) (by first | rfl | assumption) (c_X8_isBalloon) rfl rfl (Nat.le_of_ble_eq_true rfl) ?_
  intro r9 sh9 I9 J9 hD9; obtain ⟨rfl, rfl, rfl, rfl⟩ := pm_Dq hD9; clear hD9
  try simp only [Option.toList_some, Option.toList_none, List.cons_append, List.nil_append]
  refine g_if_eqB (pc := 5) (tgt := 15) C dX8_columnFor_5 (by decide) (fun h5 => absurd ⟨by exact nI_pos' (by omega), by rw [hF.1]; exact pm_leP hb (by omega)⟩ h5) (fun h5 => ?_)
  refine g_iload_n (pc := 8) (i := 2) (j := 2) C dX8_columnFor_8 rfl rfl ?_
  refine g_callS (pc := 9) C dX8_columnFor_9 lmX8_304 kcX8_isSoon (by decide) (c_X8_isSoon) rfl rfl (Nat.le_of_ble_eq_true rfl) ?_
  intro r9 sh9 I9 J9 hD9; obtain ⟨rfl, rfl, rfl, rfl⟩ := pm_Dq hD9; clear hD9
  try simp only [Option.toList_some, Option.toList_none, List.cons_append, List.nil_append]
  refine g_if_neB (pc := 12) (tgt := 17) C dX8_columnFor_12 (by decide) (fun h12 => ?_) (fun h12 => absurd ⟨by exact nI_le (a := 0) (b := h) (by omega) (by omega), by exact nI_le (a := h) (b := 24) (by omega) (by decide)⟩ h12)
  refine g_iconst (pc := 17) (v := 0) C dX8_columnFor_17 (by decide) ?_
  refine g_istore_n (pc := 18) (i := 3) (L2 := [(0, _), (1, _), (2, _), (3, _)]) C dX8_columnFor_18 rfl (by decide) rfl ?_
  exact hloop 0 (Nat.zero_le _) rfl I (mo_off_rf I)

set_option maxHeartbeats 4000000 in
set_option maxRecDepth 100000 in
theorem c_X8_leastSand0 {d : Nat} {x y : Int32} {I : pm_I} {J : pm_J} (hv : ¬ ((0 ≤ x ∧ x ≤ I 102 2 - 1) ∧ 0 ≤ y ∧ y ≤ 24)) : pm_M (d + 2) 0 0 yX8_leastSand cX8_leastSand 5 (some .int) [.ref 102, .int x, .int y] SHP I J (pm_D (some (.int (-1))) SHP I J) := by
  refine pm_start (own := RX8) (nm := "leastSand") (by decide) rfl rfl (L := [(0, .ref 102), (1, .int x), (2, .int y)]) rfl (Nat.le_of_ble_eq_true rfl) (fun Γ C C2 => ?_)
  refine g_aload_n (pc := 0) (i := 0) (j := 0) C dX8_leastSand_0 rfl rfl ?_
  refine g_iload_n (pc := 1) (i := 1) (j := 1) C dX8_leastSand_1 rfl rfl ?_
  refine g_callV (pc := 2) C dX8_leastSand_2 lmX8_234 kcX8_isBalloon (by decide) (by first | rfl | assumption) (c_X8_isBalloon) rfl rfl (Nat.le_of_ble_eq_true rfl) ?_
  intro r9 sh9 I9 J9 hD9; obtain ⟨rfl, rfl, rfl, rfl⟩ := pm_Dq hD9; clear hD9
  try simp only [Option.toList_some, Option.toList_none, List.cons_append, List.nil_append]
  refine g_if_eqB (pc := 5) (tgt := 15) C dX8_leastSand_5 (by decide) (fun h5 => ?_) (fun h5 => ?_)
  · refine g_iconst (pc := 15) (v := (-1)) C dX8_leastSand_15 (by decide) ?_
    refine g_iret (pc := 16) C C2 dX8_leastSand_16 rfl (Nat.le_refl _) (Nat.le_refl _) ?_
    exact ⟨rfl, rfl, rfl, rfl⟩
  · refine g_iload_n (pc := 8) (i := 2) (j := 2) C dX8_leastSand_8 rfl rfl ?_
    refine g_callS (pc := 9) C dX8_leastSand_9 lmX8_304 kcX8_isSoon (by decide) (c_X8_isSoon) rfl rfl (Nat.le_of_ble_eq_true rfl) ?_
    intro r9 sh9 I9 J9 hD9; obtain ⟨rfl, rfl, rfl, rfl⟩ := pm_Dq hD9; clear hD9
    try simp only [Option.toList_some, Option.toList_none, List.cons_append, List.nil_append]
    refine g_if_neB (pc := 12) (tgt := 17) C dX8_leastSand_12 (by decide) (fun h12 => ?_) (fun h12 => ?_)
    · exact absurd ⟨h5, h12⟩ hv
    · refine g_iconst (pc := 15) (v := (-1)) C dX8_leastSand_15 (by decide) ?_
      refine g_iret (pc := 16) C C2 dX8_leastSand_16 rfl (Nat.le_refl _) (Nat.le_refl _) ?_
      exact ⟨rfl, rfl, rfl, rfl⟩

set_option maxHeartbeats 4000000 in
set_option maxRecDepth 100000 in
theorem c_X8_ropeFor0 {d : Nat} {x y : Int32} {I : pm_I} {J : pm_J} (hv : ¬ ((0 ≤ x ∧ x ≤ I 102 2 - 1) ∧ 0 ≤ y ∧ y ≤ 24)) : pm_M (d + 2) 0 0 yX8_ropeFor cX8_ropeFor 4 (some .int) [.ref 102, .int x, .int y] SHP I J (pm_D (some (.int (-1))) SHP I J) := by
  refine pm_start (own := RX8) (nm := "ropeFor") (by decide) rfl rfl (L := [(0, .ref 102), (1, .int x), (2, .int y)]) rfl (Nat.le_of_ble_eq_true rfl) (fun Γ C C2 => ?_)
  refine g_aload_n (pc := 0) (i := 0) (j := 0) C dX8_ropeFor_0 rfl rfl ?_
  refine g_iload_n (pc := 1) (i := 1) (j := 1) C dX8_ropeFor_1 rfl rfl ?_
  refine g_callV (pc := 2) C dX8_ropeFor_2 lmX8_234 kcX8_isBalloon (by decide) (by first | rfl | assumption) (c_X8_isBalloon) rfl rfl (Nat.le_of_ble_eq_true rfl) ?_
  intro r9 sh9 I9 J9 hD9; obtain ⟨rfl, rfl, rfl, rfl⟩ := pm_Dq hD9; clear hD9
  try simp only [Option.toList_some, Option.toList_none, List.cons_append, List.nil_append]
  refine g_if_eqB (pc := 5) (tgt := 15) C dX8_ropeFor_5 (by decide) (fun h5 => ?_) (fun h5 => ?_)
  · refine g_iconst (pc := 15) (v := (-1)) C dX8_ropeFor_15 (by decide) ?_
    refine g_iret (pc := 16) C C2 dX8_ropeFor_16 rfl (Nat.le_refl _) (Nat.le_refl _) ?_
    exact ⟨rfl, rfl, rfl, rfl⟩
  · refine g_iload_n (pc := 8) (i := 2) (j := 2) C dX8_ropeFor_8 rfl rfl ?_
    refine g_callS (pc := 9) C dX8_ropeFor_9 lmX8_304 kcX8_isSoon (by decide) (c_X8_isSoon) rfl rfl (Nat.le_of_ble_eq_true rfl) ?_
    intro r9 sh9 I9 J9 hD9; obtain ⟨rfl, rfl, rfl, rfl⟩ := pm_Dq hD9; clear hD9
    try simp only [Option.toList_some, Option.toList_none, List.cons_append, List.nil_append]
    refine g_if_neB (pc := 12) (tgt := 17) C dX8_ropeFor_12 (by decide) (fun h12 => ?_) (fun h12 => ?_)
    · exact absurd ⟨h5, h12⟩ hv
    · refine g_iconst (pc := 15) (v := (-1)) C dX8_ropeFor_15 (by decide) ?_
      refine g_iret (pc := 16) C C2 dX8_ropeFor_16 rfl (Nat.le_refl _) (Nat.le_refl _) ?_
      exact ⟨rfl, rfl, rfl, rfl⟩

set_option maxHeartbeats 4000000 in
set_option maxRecDepth 100000 in
theorem c_X8_columnFor0 {d : Nat} {x y : Int32} {I : pm_I} {J : pm_J} (hv : ¬ ((0 ≤ x ∧ x ≤ I 102 2 - 1) ∧ 0 ≤ y ∧ y ≤ 24)) : pm_M (d + 2) 0 0 yX8_columnFor cX8_columnFor 4 (some .int) [.ref 102, .int x, .int y] SHP I J (pm_D (some (.int (-1))) SHP I J) := by
  refine pm_start (own := RX8) (nm := "columnFor") (by decide) rfl rfl (L := [(0, .ref 102), (1, .int x), (2, .int y)]) rfl (Nat.le_of_ble_eq_true rfl) (fun Γ C C2 => ?_)
  refine g_aload_n (pc := 0) (i := 0) (j := 0) C dX8_columnFor_0 rfl rfl ?_
  refine g_iload_n (pc := 1) (i := 1) (j := 1) C dX8_columnFor_1 rfl rfl ?_
  refine g_callV (pc := 2) C dX8_columnFor_2 lmX8_234 kcX8_isBalloon (by decide) (by first | rfl | assumption) (c_X8_isBalloon) rfl rfl (Nat.le_of_ble_eq_true rfl) ?_
  intro r9 sh9 I9 J9 hD9; obtain ⟨rfl, rfl, rfl, rfl⟩ := pm_Dq hD9; clear hD9
  try simp only [Option.toList_some, Option.toList_none, List.cons_append, List.nil_append]
  refine g_if_eqB (pc := 5) (tgt := 15) C dX8_columnFor_5 (by decide) (fun h5 => ?_) (fun h5 => ?_)
  · refine g_iconst (pc := 15) (v := (-1)) C dX8_columnFor_15 (by decide) ?_
    refine g_iret (pc := 16) C C2 dX8_columnFor_16 rfl (Nat.le_refl _) (Nat.le_refl _) ?_
    exact ⟨rfl, rfl, rfl, rfl⟩
  · refine g_iload_n (pc := 8) (i := 2) (j := 2) C dX8_columnFor_8 rfl rfl ?_
    refine g_callS (pc := 9) C dX8_columnFor_9 lmX8_304 kcX8_isSoon (by decide) (c_X8_isSoon) rfl rfl (Nat.le_of_ble_eq_true rfl) ?_
    intro r9 sh9 I9 J9 hD9; obtain ⟨rfl, rfl, rfl, rfl⟩ := pm_Dq hD9; clear hD9
    try simp only [Option.toList_some, Option.toList_none, List.cons_append, List.nil_append]
    refine g_if_neB (pc := 12) (tgt := 17) C dX8_columnFor_12 (by decide) (fun h12 => ?_) (fun h12 => ?_)
    · exact absurd ⟨h5, h12⟩ hv
    · refine g_iconst (pc := 15) (v := (-1)) C dX8_columnFor_15 (by decide) ?_
      refine g_iret (pc := 16) C C2 dX8_columnFor_16 rfl (Nat.le_refl _) (Nat.le_refl _) ?_
      exact ⟨rfl, rfl, rfl, rfl⟩

set_option maxHeartbeats 4000000 in
set_option maxRecDepth 100000 in
theorem c_X8_first {d : Nat} {I : pm_I} {J : pm_J} {w : Nat → Int32} {g : Int32} {n t : Nat} {B : Nat → Nat → Int32} (hF : mo_F I w g 0 n) (ht : t ≤ 96) (hok : ∀ b, b < n → mo_ok (B b)) (hW : mo_W I 0 t n B I) {x : Int32} (hx : 0 ≤ x ∧ x ≤ 1) : pm_M (d + 6) 0 0 yX8_first cX8_first 4 (some .int) [.ref 102, .int x] SHP I J (fun r sh2 I2 J2 => r = some (.int (tr_sr (fun k => ¬ tr_si B (fun b k => tr_ev w 0 t (B b) k 3) g k n n = -3) (fun k => if x = 0 then nI k else tr_si B (fun b k => tr_ev w 0 t (B b) k 3) g k n n) (-3) (min 48 (96 - t) + 1) (min 48 (96 - t) + 1))) ∧ sh2 = SHP ∧ J2 = J ∧ mo_off I I2) := by
  refine pm_start (own := RX8) (nm := "first") (by decide) rfl rfl (L := [(0, .ref 102), (1, .int x)]) rfl (Nat.le_of_ble_eq_true rfl) (fun Γ C C2 => ?_)
  have h6 := hF.2.1
  have hloop : ∀ j, j ≤ min 48 (96 - t) → (tr_sr (fun k => ¬ tr_si B (fun b k => tr_ev w 0 t (B b) k 3) g k n n = -3) (fun k => if x = 0 then nI k else tr_si B (fun b k => tr_ev w 0 t (B b) k 3) g k n n) (-3) (min 48 (96 - t) + 1) (min 48 (96 - t) + 1) = tr_sr (fun k => ¬ tr_si B (fun b k => tr_ev w 0 t (B b) k 3) g k n n = -3) (fun k => if x = 0 then nI k else tr_si B (fun b k => tr_ev w 0 t (B b) k 3) g k n n) (-3) (min 48 (96 - t) + 1) (min 48 (96 - t) + 1 - j)) → ∀ I9, mo_E I w 0 43 t n B j I9 → pm_G Γ 0 0 22 [(0, .ref 102), (1, .int x), (2, .int (nI j)), (3, .int (tr_si B (fun b k => tr_ev w 0 t (B b) k 3) g j n n))] [] SHP I9 J := by
    refine pm_up (fun j => (tr_sr (fun k => ¬ tr_si B (fun b k => tr_ev w 0 t (B b) k 3) g k n n = -3) (fun k => if x = 0 then nI k else tr_si B (fun b k => tr_ev w 0 t (B b) k 3) g k n n) (-3) (min 48 (96 - t) + 1) (min 48 (96 - t) + 1) = tr_sr (fun k => ¬ tr_si B (fun b k => tr_ev w 0 t (B b) k 3) g k n n = -3) (fun k => if x = 0 then nI k else tr_si B (fun b k => tr_ev w 0 t (B b) k 3) g k n n) (-3) (min 48 (96 - t) + 1) (min 48 (96 - t) + 1 - j)) → ∀ I9, mo_E I w 0 43 t n B j I9 → pm_G Γ 0 0 22 [(0, .ref 102), (1, .int x), (2, .int (nI j)), (3, .int (tr_si B (fun b k => tr_ev w 0 t (B b) k 3) g j n n))] [] SHP I9 J) (min 48 (96 - t)) (fun j hj ih hR I9 hV => ?_)
    have sg := pm_neg3 (tr_si_sg (B := B) (Hf := fun b k => tr_ev w 0 t (B b) k 3) (g := g) (k := j) h6)
    refine g_iload_n (pc := 22) (i := 3) (j := 3) C dX8_first_22 rfl rfl ?_
    refine g_if_ge (pc := 23) (tgt := 50) C dX8_first_23 (by decide) (fun h23 => ?_) (fun h23 => ?_)
    · refine g_aload_n (pc := 50) (i := 0) (j := 0) C dX8_first_50 rfl rfl ?_
      refine g_iconst (pc := 51) (v := 0) C dX8_first_51 (by decide) ?_
      refine g_putI (pc := 52) C dX8_first_52 lpX8_85 rfl rfl (by first | rfl | assumption) rfl ?_
      refine g_iload_n (pc := 55) (i := 3) (j := 3) C dX8_first_55 rfl rfl ?_
      refine g_if_ge (pc := 56) (tgt := 64) C dX8_first_56 (by decide) (fun h56 => ?_) (fun h56 => ?_)
      · refine g_iload_n (pc := 64) (i := 1) (j := 1) C dX8_first_64 rfl rfl ?_
        refine g_if_ne (pc := 65) (tgt := 72) C dX8_first_65 (by decide) (fun h65 => ?_) (fun h65 => ?_)
        · refine g_iload_n (pc := 72) (i := 3) (j := 3) C dX8_first_72 rfl rfl ?_
          refine g_iret (pc := 73) C C2 dX8_first_73 rfl (Nat.le_refl _) (Nat.le_refl _) ?_
          first | exact absurd h56 h23 | exact absurd h23 h56 | (refine ⟨?_, rfl, rfl, (by first | exact mo_W_back hV hW.2.2.1 | (rw [hN h36]; exact mo_W_back hV hW.2.2.1))⟩; rw [hR, tr_sr_step (by omega)]; first | (rw [if_pos (fun q => absurd (sg.mpr q) (Int32.not_lt.mpr h23))]; first | rw [if_pos h65] | rw [if_neg h65]) | (rw [if_neg (fun q => q (sg.mp (Int32.not_le.mp h23)))]; have ej : j = min 48 (96 - t) := (by first | (have := (nI_leI (a := 48) (b := j) (by decide) (by omega)).mp h29; omega) | omega); rw [← ej, show j + 1 - (j + 1) = 0 by omega]; rfl))
        · refine g_iload_n (pc := 68) (i := 2) (j := 2) C dX8_first_68 rfl rfl ?_
          refine g_goto (pc := 69) (tgt := 73) C dX8_first_69 (by decide) ?_
          refine g_iret (pc := 73) C C2 dX8_first_73 rfl (Nat.le_refl _) (Nat.le_refl _) ?_
          first | exact absurd h56 h23 | exact absurd h23 h56 | (refine ⟨?_, rfl, rfl, (by first | exact mo_W_back hV hW.2.2.1 | (rw [hN h36]; exact mo_W_back hV hW.2.2.1))⟩; rw [hR, tr_sr_step (by omega)]; first | (rw [if_pos (fun q => absurd (sg.mpr q) (Int32.not_lt.mpr h23))]; first | rw [if_pos h65] | rw [if_neg h65]) | (rw [if_neg (fun q => q (sg.mp (Int32.not_le.mp h23)))]; have ej : j = min 48 (96 - t) := (by first | (have := (nI_leI (a := 48) (b := j) (by decide) (by omega)).mp h29; omega) | omega); rw [← ej, show j + 1 - (j + 1) = 0 by omega]; rfl))
      · refine g_bipush (pc := 59) (v := (-3)) C dX8_first_59 (by decide) ?_
        refine g_goto (pc := 61) (tgt := 73) C dX8_first_61 (by decide) ?_
        refine g_iret (pc := 73) C C2 dX8_first_73 rfl (Nat.le_refl _) (Nat.le_refl _) ?_
        first | exact absurd h56 h23 | exact absurd h23 h56 | (refine ⟨?_, rfl, rfl, (by first | exact mo_W_back hV hW.2.2.1 | (rw [hN h36]; exact mo_W_back hV hW.2.2.1))⟩; rw [hR, tr_sr_step (by omega)]; first | (rw [if_pos (fun q => absurd (sg.mpr q) (Int32.not_lt.mpr h23))]; first | rw [if_pos h65] | rw [if_neg h65]) | (rw [if_neg (fun q => q (sg.mp (Int32.not_le.mp h23)))]; have ej : j = min 48 (96 - t) := (by first | (have := (nI_leI (a := 48) (b := j) (by decide) (by omega)).mp h29; omega) | omega); rw [← ej, show j + 1 - (j + 1) = 0 by omega]; rfl))
    · refine g_iload_n (pc := 26) (i := 2) (j := 2) C dX8_first_26 rfl rfl ?_
      refine g_bipush (pc := 27) (v := 48) C dX8_first_27 (by decide) ?_
      refine g_icmp_ge (pc := 29) (tgt := 50) C dX8_first_29 (by decide) (fun h29 => ?_) (fun h29 => ?_)
      · refine g_aload_n (pc := 50) (i := 0) (j := 0) C dX8_first_50 rfl rfl ?_
        refine g_iconst (pc := 51) (v := 0) C dX8_first_51 (by decide) ?_
        refine g_putI (pc := 52) C dX8_first_52 lpX8_85 rfl rfl (by first | rfl | assumption) rfl ?_
        refine g_iload_n (pc := 55) (i := 3) (j := 3) C dX8_first_55 rfl rfl ?_
        refine g_if_ge (pc := 56) (tgt := 64) C dX8_first_56 (by decide) (fun h56 => ?_) (fun h56 => ?_)
        · refine g_iload_n (pc := 64) (i := 1) (j := 1) C dX8_first_64 rfl rfl ?_
          refine g_if_ne (pc := 65) (tgt := 72) C dX8_first_65 (by decide) (fun h65 => ?_) (fun h65 => ?_)
          · refine g_iload_n (pc := 72) (i := 3) (j := 3) C dX8_first_72 rfl rfl ?_
            refine g_iret (pc := 73) C C2 dX8_first_73 rfl (Nat.le_refl _) (Nat.le_refl _) ?_
            first | exact absurd h56 h23 | exact absurd h23 h56 | (refine ⟨?_, rfl, rfl, (by first | exact mo_W_back hV hW.2.2.1 | (rw [hN h36]; exact mo_W_back hV hW.2.2.1))⟩; rw [hR, tr_sr_step (by omega)]; first | (rw [if_pos (fun q => absurd (sg.mpr q) (Int32.not_lt.mpr h23))]; first | rw [if_pos h65] | rw [if_neg h65]) | (rw [if_neg (fun q => q (sg.mp (Int32.not_le.mp h23)))]; have ej : j = min 48 (96 - t) := (by first | (have := (nI_leI (a := 48) (b := j) (by decide) (by omega)).mp h29; omega) | omega); rw [← ej, show j + 1 - (j + 1) = 0 by omega]; rfl))
          · refine g_iload_n (pc := 68) (i := 2) (j := 2) C dX8_first_68 rfl rfl ?_
            refine g_goto (pc := 69) (tgt := 73) C dX8_first_69 (by decide) ?_
            refine g_iret (pc := 73) C C2 dX8_first_73 rfl (Nat.le_refl _) (Nat.le_refl _) ?_
            first | exact absurd h56 h23 | exact absurd h23 h56 | (refine ⟨?_, rfl, rfl, (by first | exact mo_W_back hV hW.2.2.1 | (rw [hN h36]; exact mo_W_back hV hW.2.2.1))⟩; rw [hR, tr_sr_step (by omega)]; first | (rw [if_pos (fun q => absurd (sg.mpr q) (Int32.not_lt.mpr h23))]; first | rw [if_pos h65] | rw [if_neg h65]) | (rw [if_neg (fun q => q (sg.mp (Int32.not_le.mp h23)))]; have ej : j = min 48 (96 - t) := (by first | (have := (nI_leI (a := 48) (b := j) (by decide) (by omega)).mp h29; omega) | omega); rw [← ej, show j + 1 - (j + 1) = 0 by omega]; rfl))
        · refine g_bipush (pc := 59) (v := (-3)) C dX8_first_59 (by decide) ?_
          refine g_goto (pc := 61) (tgt := 73) C dX8_first_61 (by decide) ?_
          refine g_iret (pc := 73) C C2 dX8_first_73 rfl (Nat.le_refl _) (Nat.le_refl _) ?_
          first | exact absurd h56 h23 | exact absurd h23 h56 | (refine ⟨?_, rfl, rfl, (by first | exact mo_W_back hV hW.2.2.1 | (rw [hN h36]; exact mo_W_back hV hW.2.2.1))⟩; rw [hR, tr_sr_step (by omega)]; first | (rw [if_pos (fun q => absurd (sg.mpr q) (Int32.not_lt.mpr h23))]; first | rw [if_pos h65] | rw [if_neg h65]) | (rw [if_neg (fun q => q (sg.mp (Int32.not_le.mp h23)))]; have ej : j = min 48 (96 - t) := (by first | (have := (nI_leI (a := 48) (b := j) (by decide) (by omega)).mp h29; omega) | omega); rw [← ej, show j + 1 - (j + 1) = 0 by omega]; rfl))
      · have q4 : ¬ 48 ≤ j := fun z => h29 ((nI_leI (a := 48) (b := j) (by decide) (by omega)).mpr z)
        refine g_aload_n (pc := 32) (i := 0) (j := 0) C dX8_first_32 rfl rfl ?_
        refine g_callV (pc := 33) C dX8_first_33 lmX8_282 kcX8_goesOn (by decide) (by first | rfl | assumption) (c_X8_goesOn (a := 43) hF (by decide) ht hok (k := j) (by omega) hV) rfl rfl (Nat.le_of_ble_eq_true rfl) ?_
        intro r9 sh9 I10 J9 hD9; obtain ⟨rfl, rfl, rfl, hY, hN⟩ := hD9
        try simp only [Option.toList_some, Option.toList_none, List.cons_append, List.nil_append]
        refine g_if_eqB (pc := 36) (tgt := 50) C dX8_first_36 (by decide) (fun h36 => ?_) (fun h36 => ?_)
        · refine g_aload_n (pc := 50) (i := 0) (j := 0) C dX8_first_50 rfl rfl ?_
          refine g_iconst (pc := 51) (v := 0) C dX8_first_51 (by decide) ?_
          refine g_putI (pc := 52) C dX8_first_52 lpX8_85 rfl rfl (by first | rfl | assumption) rfl ?_
          refine g_iload_n (pc := 55) (i := 3) (j := 3) C dX8_first_55 rfl rfl ?_
          refine g_if_ge (pc := 56) (tgt := 64) C dX8_first_56 (by decide) (fun h56 => ?_) (fun h56 => ?_)
          · refine g_iload_n (pc := 64) (i := 1) (j := 1) C dX8_first_64 rfl rfl ?_
            refine g_if_ne (pc := 65) (tgt := 72) C dX8_first_65 (by decide) (fun h65 => ?_) (fun h65 => ?_)
            · refine g_iload_n (pc := 72) (i := 3) (j := 3) C dX8_first_72 rfl rfl ?_
              refine g_iret (pc := 73) C C2 dX8_first_73 rfl (Nat.le_refl _) (Nat.le_refl _) ?_
              first | exact absurd h56 h23 | exact absurd h23 h56 | (refine ⟨?_, rfl, rfl, (by first | exact mo_W_back hV hW.2.2.1 | (rw [hN h36]; exact mo_W_back hV hW.2.2.1))⟩; rw [hR, tr_sr_step (by omega)]; first | (rw [if_pos (fun q => absurd (sg.mpr q) (Int32.not_lt.mpr h23))]; first | rw [if_pos h65] | rw [if_neg h65]) | (rw [if_neg (fun q => q (sg.mp (Int32.not_le.mp h23)))]; have ej : j = min 48 (96 - t) := (by first | (have := (nI_leI (a := 48) (b := j) (by decide) (by omega)).mp h29; omega) | omega); rw [← ej, show j + 1 - (j + 1) = 0 by omega]; rfl))
            · refine g_iload_n (pc := 68) (i := 2) (j := 2) C dX8_first_68 rfl rfl ?_
              refine g_goto (pc := 69) (tgt := 73) C dX8_first_69 (by decide) ?_
              refine g_iret (pc := 73) C C2 dX8_first_73 rfl (Nat.le_refl _) (Nat.le_refl _) ?_
              first | exact absurd h56 h23 | exact absurd h23 h56 | (refine ⟨?_, rfl, rfl, (by first | exact mo_W_back hV hW.2.2.1 | (rw [hN h36]; exact mo_W_back hV hW.2.2.1))⟩; rw [hR, tr_sr_step (by omega)]; first | (rw [if_pos (fun q => absurd (sg.mpr q) (Int32.not_lt.mpr h23))]; first | rw [if_pos h65] | rw [if_neg h65]) | (rw [if_neg (fun q => q (sg.mp (Int32.not_le.mp h23)))]; have ej : j = min 48 (96 - t) := (by first | (have := (nI_leI (a := 48) (b := j) (by decide) (by omega)).mp h29; omega) | omega); rw [← ej, show j + 1 - (j + 1) = 0 by omega]; rfl))
          · refine g_bipush (pc := 59) (v := (-3)) C dX8_first_59 (by decide) ?_
            refine g_goto (pc := 61) (tgt := 73) C dX8_first_61 (by decide) ?_
            refine g_iret (pc := 73) C C2 dX8_first_73 rfl (Nat.le_refl _) (Nat.le_refl _) ?_
            first | exact absurd h56 h23 | exact absurd h23 h56 | (refine ⟨?_, rfl, rfl, (by first | exact mo_W_back hV hW.2.2.1 | (rw [hN h36]; exact mo_W_back hV hW.2.2.1))⟩; rw [hR, tr_sr_step (by omega)]; first | (rw [if_pos (fun q => absurd (sg.mpr q) (Int32.not_lt.mpr h23))]; first | rw [if_pos h65] | rw [if_neg h65]) | (rw [if_neg (fun q => q (sg.mp (Int32.not_le.mp h23)))]; have ej : j = min 48 (96 - t) := (by first | (have := (nI_leI (a := 48) (b := j) (by decide) (by omega)).mp h29; omega) | omega); rw [← ej, show j + 1 - (j + 1) = 0 by omega]; rfl))
        · refine g_iinc (pc := 39) (j := 2) (v := _ + 1) (L2 := [(0, _), (1, _), (2, _), (3, _)]) C dX8_first_39 rfl rfl (by decide) rfl ?_
          refine g_aload_n (pc := 42) (i := 0) (j := 0) C dX8_first_42 rfl rfl ?_
          refine g_callV (pc := 43) C dX8_first_43 lmX8_295 kcX8_firstPair (by decide) (by first | rfl | assumption) (c_X8_firstPair (a := 43) (Bc := B) (Hf := fun b k => tr_ev w 0 t (B b) k 3) (k := j + 1) hF (by decide) (by omega) (hY h36) (fun b hb => by simp only [tr_ev_2]) (fun b hb => rfl)) rfl rfl (Nat.le_of_ble_eq_true rfl) ?_
          intro r9 sh9 I9 J9 hD9; obtain ⟨rfl, rfl, rfl, rfl⟩ := pm_Dq hD9; clear hD9
          try simp only [Option.toList_some, Option.toList_none, List.cons_append, List.nil_append]
          refine g_istore_n (pc := 46) (i := 3) (L2 := [(0, _), (1, _), (2, _), (3, _)]) C dX8_first_46 rfl (by decide) rfl ?_
          refine g_goto (pc := 47) (tgt := 22) C dX8_first_47 (by decide) ?_
          refine pm_Geq (ih (by omega) ?_ _ (hY h36)) (by simp only [nI_1]) rfl rfl rfl
          rw [hR, tr_sr_step (by omega), if_neg (fun q => q (sg.mp (Int32.not_le.mp h23)))]
  refine g_iload_n (pc := 0) (i := 1) (j := 1) C dX8_first_0 rfl rfl ?_
  refine g_iconst (pc := 1) (v := 0) C dX8_first_1 (by decide) ?_
  refine g_iconst (pc := 2) (v := 1) C dX8_first_2 (by decide) ?_
  refine g_callS (pc := 3) C dX8_first_3 lmX8_78 kcX8_in (by decide) (c_X8_in) rfl rfl (Nat.le_of_ble_eq_true rfl) ?_
  intro r9 sh9 I9 J9 hD9; obtain ⟨rfl, rfl, rfl, rfl⟩ := pm_Dq hD9; clear hD9
  try simp only [Option.toList_some, Option.toList_none, List.cons_append, List.nil_append]
  refine g_if_neB (pc := 6) (tgt := 11) C dX8_first_6 (by decide) (fun h6z => ?_) (fun h6z => absurd hx h6z)
  refine g_aload_n (pc := 11) (i := 0) (j := 0) C dX8_first_11 rfl rfl ?_
  refine g_callV (pc := 12) C dX8_first_12 lmX8_292 kcX8_lends (by decide) (by first | rfl | assumption) (c_X8_lends) rfl rfl (Nat.le_of_ble_eq_true rfl) ?_
  intro r9 sh9 I9 J9 hD9; obtain ⟨rfl, rfl, rfl, rfl⟩ := pm_Dq hD9; clear hD9
  try simp only [Option.toList_some, Option.toList_none, List.cons_append, List.nil_append]
  have hL := mo_W_lend hW hF.2.1
  refine g_iconst (pc := 15) (v := 0) C dX8_first_15 (by decide) ?_
  refine g_istore_n (pc := 16) (i := 2) (L2 := [(0, _), (1, _), (2, _)]) C dX8_first_16 rfl (by decide) rfl ?_
  refine g_aload_n (pc := 17) (i := 0) (j := 0) C dX8_first_17 rfl rfl ?_
  refine g_callV (pc := 18) C dX8_first_18 lmX8_295 kcX8_firstPair (by decide) (by first | rfl | assumption) (c_X8_firstPair (a := 43) (Bc := B) (Hf := fun b k => tr_ev w 0 t (B b) k 3) (k := 0) hF (by decide) (by omega) hL (fun b hb => by simp only [tr_ev_2]) (fun b hb => rfl)) rfl rfl (Nat.le_of_ble_eq_true rfl) ?_
  intro r9 sh9 I9 J9 hD9; obtain ⟨rfl, rfl, rfl, rfl⟩ := pm_Dq hD9; clear hD9
  try simp only [Option.toList_some, Option.toList_none, List.cons_append, List.nil_append]
  refine g_istore_n (pc := 21) (i := 3) (L2 := [(0, _), (1, _), (2, _), (3, _)]) C dX8_first_21 rfl (by decide) rfl ?_
  exact hloop 0 (Nat.zero_le _) rfl _ hL

set_option maxHeartbeats 4000000 in
set_option maxRecDepth 100000 in
theorem c_X8_first0 {d : Nat} {x : Int32} {I : pm_I} {J : pm_J} (hv : ¬ (0 ≤ x ∧ x ≤ 1)) : pm_M (d + 1) 0 0 yX8_first cX8_first 4 (some .int) [.ref 102, .int x] SHP I J (pm_D (some (.int (-1))) SHP I J) := by
  refine pm_start (own := RX8) (nm := "first") (by decide) rfl rfl (L := [(0, .ref 102), (1, .int x)]) rfl (Nat.le_of_ble_eq_true rfl) (fun Γ C C2 => ?_)
  refine g_iload_n (pc := 0) (i := 1) (j := 1) C dX8_first_0 rfl rfl ?_
  refine g_iconst (pc := 1) (v := 0) C dX8_first_1 (by decide) ?_
  refine g_iconst (pc := 2) (v := 1) C dX8_first_2 (by decide) ?_
  refine g_callS (pc := 3) C dX8_first_3 lmX8_78 kcX8_in (by decide) (c_X8_in) rfl rfl (Nat.le_of_ble_eq_true rfl) ?_
  intro r9 sh9 I9 J9 hD9; obtain ⟨rfl, rfl, rfl, rfl⟩ := pm_Dq hD9; clear hD9
  try simp only [Option.toList_some, Option.toList_none, List.cons_append, List.nil_append]
  refine g_if_neB (pc := 6) (tgt := 11) C dX8_first_6 (by decide) (fun h6 => ?_) (fun h6 => ?_)
  · exact absurd h6 hv
  · refine g_iconst (pc := 9) (v := (-1)) C dX8_first_9 (by decide) ?_
    refine g_iret (pc := 10) C C2 dX8_first_10 rfl (Nat.le_refl _) (Nat.le_refl _) ?_
    exact ⟨rfl, rfl, rfl, rfl⟩

set_option maxHeartbeats 4000000 in
set_option maxRecDepth 100000 in
theorem c_X8_lasts {d : Nat} {I : pm_I} {J : pm_J} {w : Nat → Int32} {g : Int32} {n t : Nat} {B : Nat → Nat → Int32} (hF : mo_F I w g 0 n) (ht : t ≤ 96) (hok : ∀ b, b < n → mo_ok (B b)) (hW : mo_W I 0 t n B I) {b : Nat} (hb : b < n) : pm_M (d + 2) 0 0 yX8_lasts cX8_lasts 4 (some .int) [.ref 102, .int (nI b)] SHP I J (pm_D (some (.int (if B b 7 = 0 then 0 else if B b 8 = 0 then -3 else (B b 7 + B b 8 - 1) / B b 8))) SHP I J) := by
  refine pm_start (own := RX8) (nm := "lasts") (by decide) rfl rfl (L := [(0, .ref 102), (1, .int (nI b))]) rfl (Nat.le_of_ble_eq_true rfl) (fun Γ C C2 => ?_)
  have h6 := hF.2.1
  refine g_aload_n (pc := 0) (i := 0) (j := 0) C dX8_lasts_0 rfl rfl ?_
  refine g_iload_n (pc := 1) (i := 1) (j := 1) C dX8_lasts_1 rfl rfl ?_
  refine g_callV (pc := 2) C dX8_lasts_2 lmX8_234 kcX8_isBalloon (by decide) (by first | rfl | assumption) (c_X8_isBalloon) rfl rfl (Nat.le_of_ble_eq_true rfl) ?_
  intro r9 sh9 I9 J9 hD9; obtain ⟨rfl, rfl, rfl, rfl⟩ := pm_Dq hD9; clear hD9
  try simp only [Option.toList_some, Option.toList_none, List.cons_append, List.nil_append]
  refine g_if_neB (pc := 5) (tgt := 10) C dX8_lasts_5 (by decide) (fun h5 => ?_) (fun h5 => absurd ⟨by exact nI_pos' (by omega), by rw [hF.1]; exact pm_leP hb (by omega)⟩ h5)
  refine g_aload_n (pc := 10) (i := 0) (j := 0) C dX8_lasts_10 rfl rfl ?_
  refine g_iload_n (pc := 11) (i := 1) (j := 1) C dX8_lasts_11 rfl rfl ?_
  refine g_bipush (pc := 12) (v := 6) C dX8_lasts_12 (by decide) ?_
  refine g_callV (pc := 14) C dX8_lasts_14 lmX8_219 kcX8_its (by decide) (by first | rfl | assumption) (c_mo_its hF (by decide) (by omega) hW hb (p := 6) (by decide) (by decide)) rfl rfl (Nat.le_of_ble_eq_true rfl) ?_
  intro r9 sh9 I9 J9 hD9; obtain ⟨rfl, rfl, rfl, rfl⟩ := pm_Dq hD9; clear hD9
  try simp only [Option.toList_some, Option.toList_none, List.cons_append, List.nil_append]
  refine g_istore_n (pc := 17) (i := 2) (L2 := [(0, _), (1, _), (2, _)]) C dX8_lasts_17 rfl (by decide) rfl ?_
  refine g_aload_n (pc := 18) (i := 0) (j := 0) C dX8_lasts_18 rfl rfl ?_
  refine g_iload_n (pc := 19) (i := 1) (j := 1) C dX8_lasts_19 rfl rfl ?_
  refine g_bipush (pc := 20) (v := 7) C dX8_lasts_20 (by decide) ?_
  refine g_callV (pc := 22) C dX8_lasts_22 lmX8_219 kcX8_its (by decide) (by first | rfl | assumption) (c_mo_its hF (by decide) (by omega) hW hb (p := 7) (by decide) (by decide)) rfl rfl (Nat.le_of_ble_eq_true rfl) ?_
  intro r9 sh9 I9 J9 hD9; obtain ⟨rfl, rfl, rfl, rfl⟩ := pm_Dq hD9; clear hD9
  try simp only [Option.toList_some, Option.toList_none, List.cons_append, List.nil_append]
  refine g_istore_n (pc := 25) (i := 3) (L2 := [(0, _), (1, _), (2, _), (3, _)]) C dX8_lasts_25 rfl (by decide) rfl ?_
  refine g_iload_n (pc := 26) (i := 2) (j := 2) C dX8_lasts_26 rfl rfl ?_
  refine g_if_ne (pc := 27) (tgt := 32) C dX8_lasts_27 (by decide) (fun h27 => ?_) (fun h27 => ?_)
  · refine g_iload_n (pc := 32) (i := 3) (j := 3) C dX8_lasts_32 rfl rfl ?_
    refine g_if_ne (pc := 33) (tgt := 41) C dX8_lasts_33 (by decide) (fun h33 => ?_) (fun h33 => ?_)
    · refine g_iload_n (pc := 41) (i := 2) (j := 2) C dX8_lasts_41 rfl rfl ?_
      refine g_iload_n (pc := 42) (i := 3) (j := 3) C dX8_lasts_42 rfl rfl ?_
      refine g_iadd (pc := 43) C dX8_lasts_43 ?_
      refine g_iconst (pc := 44) (v := 1) C dX8_lasts_44 (by decide) ?_
      refine g_isub (pc := 45) C dX8_lasts_45 ?_
      refine g_iload_n (pc := 46) (i := 3) (j := 3) C dX8_lasts_46 rfl rfl ?_
      refine g_if_ne (pc := 47) (tgt := 54) C dX8_lasts_47 (by decide) (fun h47 => ?_) (fun h47 => ?_)
      · refine g_iload_n (pc := 54) (i := 3) (j := 3) C dX8_lasts_54 rfl rfl ?_
        refine g_idiv (pc := 55) C dX8_lasts_55 (by first | decide | assumption) ?_
        refine g_iret (pc := 56) C C2 dX8_lasts_56 rfl (Nat.le_refl _) (Nat.le_refl _) ?_
        clear C C2
        first | exact absurd h47 h33 | exact absurd h33 h47 | exact ⟨by grind, rfl, rfl, rfl⟩
      · refine g_iconst (pc := 50) (v := 1) C dX8_lasts_50 (by decide) ?_
        refine g_goto (pc := 51) (tgt := 55) C dX8_lasts_51 (by decide) ?_
        refine g_idiv (pc := 55) C dX8_lasts_55 (by first | decide | assumption) ?_
        refine g_iret (pc := 56) C C2 dX8_lasts_56 rfl (Nat.le_refl _) (Nat.le_refl _) ?_
        clear C C2
        first | exact absurd h47 h33 | exact absurd h33 h47 | exact ⟨by grind, rfl, rfl, rfl⟩
    · refine g_bipush (pc := 36) (v := (-3)) C dX8_lasts_36 (by decide) ?_
      refine g_goto (pc := 38) (tgt := 56) C dX8_lasts_38 (by decide) ?_
      refine g_iret (pc := 56) C C2 dX8_lasts_56 rfl (Nat.le_refl _) (Nat.le_refl _) ?_
      clear C C2
      first | exact absurd h47 h33 | exact absurd h33 h47 | exact ⟨by grind, rfl, rfl, rfl⟩
  · refine g_iconst (pc := 30) (v := 0) C dX8_lasts_30 (by decide) ?_
    refine g_iret (pc := 31) C C2 dX8_lasts_31 rfl (Nat.le_refl _) (Nat.le_refl _) ?_
    clear C C2
    first | exact absurd h47 h33 | exact absurd h33 h47 | exact ⟨by grind, rfl, rfl, rfl⟩

set_option maxHeartbeats 4000000 in
set_option maxRecDepth 100000 in
theorem c_X8_lasts0 {d : Nat} {x : Int32} {I : pm_I} {J : pm_J} (hv : ¬ (0 ≤ x ∧ x ≤ I 102 2 - 1)) : pm_M (d + 2) 0 0 yX8_lasts cX8_lasts 4 (some .int) [.ref 102, .int x] SHP I J (pm_D (some (.int (-1))) SHP I J) := by
  refine pm_start (own := RX8) (nm := "lasts") (by decide) rfl rfl (L := [(0, .ref 102), (1, .int x)]) rfl (Nat.le_of_ble_eq_true rfl) (fun Γ C C2 => ?_)
  refine g_aload_n (pc := 0) (i := 0) (j := 0) C dX8_lasts_0 rfl rfl ?_
  refine g_iload_n (pc := 1) (i := 1) (j := 1) C dX8_lasts_1 rfl rfl ?_
  refine g_callV (pc := 2) C dX8_lasts_2 lmX8_234 kcX8_isBalloon (by decide) (by first | rfl | assumption) (c_X8_isBalloon) rfl rfl (Nat.le_of_ble_eq_true rfl) ?_
  intro r9 sh9 I9 J9 hD9; obtain ⟨rfl, rfl, rfl, rfl⟩ := pm_Dq hD9; clear hD9
  try simp only [Option.toList_some, Option.toList_none, List.cons_append, List.nil_append]
  refine g_if_neB (pc := 5) (tgt := 10) C dX8_lasts_5 (by decide) (fun h5 => ?_) (fun h5 => ?_)
  · exact absurd h5 hv
  · refine g_iconst (pc := 8) (v := (-1)) C dX8_lasts_8 (by decide) ?_
    refine g_iret (pc := 9) C C2 dX8_lasts_9 rfl (Nat.le_refl _) (Nat.le_refl _) ?_
    exact ⟨rfl, rfl, rfl, rfl⟩

set_option maxHeartbeats 4000000 in
set_option maxRecDepth 100000 in
theorem c_X8_cold {d : Nat} {I : pm_I} {J : pm_J} {w : Nat → Int32} {g : Int32} {n t : Nat} {B : Nat → Nat → Int32} (hF : mo_F I w g 0 n) (ht : t ≤ 96) (hok : ∀ b, b < n → mo_ok (B b)) (hW : mo_W I 0 t n B I)  : pm_M (d + 6) 0 0 yX8_cold cX8_cold 3 (some .int) [.ref 102] SHP I J (fun r sh2 I2 J2 => r = some (.int (tr_sr (fun j => ∀ k, k < min 24 (96 - t) → tr_si B (fun b k => tr_ev w (nI (40 - j)) t (B b) k 3) g (k + 1) n n = -3) (fun j => nI (40 - j)) (-3) 40 40)) ∧ sh2 = SHP ∧ J2 = J ∧ mo_off I I2) := by
  refine pm_start (own := RX8) (nm := "cold") (by decide) rfl rfl (L := [(0, .ref 102)]) rfl (Nat.le_of_ble_eq_true rfl) (fun Γ C C2 => ?_)
  have h6 := hF.2.1
  have hend : ∀ I9, (∃ x, mo_off (pm_u I 102 7 x) I9) → mo_off I (pm_u I9 102 7 0) := by
    rintro I9 ⟨x, hx⟩
    refine ⟨fun q hq => ?_, fun k hk => ?_⟩
    · by_cases e : q = 102
      · subst e
        rw [pm_u_at, hx.1 102 (by decide), pm_u_at]
        funext p
        by_cases e2 : p = 7
        · subst e2; rw [pk_us, hF.2.2.2.1]
        · rw [pk_un e2, pk_un e2]
      · rw [pm_u_off e, hx.1 q hq, pm_u_off e]
    · rw [pm_u_off (by decide), hx.2 k hk, pm_u_off (by decide)]
  have hyes : ∀ I9 j, j < 40 → (∃ x, mo_off (pm_u I 102 7 x) I9) → (tr_sr (fun j => ∀ k, k < min 24 (96 - t) → tr_si B (fun b k => tr_ev w (nI (40 - j)) t (B b) k 3) g (k + 1) n n = -3) (fun j => nI (40 - j)) (-3) 40 40 = nI (40 - j)) → pm_G Γ 0 0 5 [(0, .ref 102), (1, .int (nI (40 - j))), (2, .int 1)] [] SHP I9 J := by
    intro I9 j hj hx hR
    refine g_iload_n (pc := 5) (i := 1) (j := 1) C dX8_cold_5 rfl rfl ?_
    refine g_if_le (pc := 6) (tgt := 57) C dX8_cold_6 (by decide) (fun h6z => absurd h6z (fun q => by have := (nI_gt0 (n := 40 - j) (by omega)).mp q; omega)) (fun h6z => ?_)
    refine g_iload_n (pc := 9) (i := 2) (j := 2) C dX8_cold_9 rfl rfl ?_
    refine g_if_ne (pc := 10) (tgt := 57) C dX8_cold_10 (by decide) (fun h10z => ?_) (fun h10z => absurd h10z (by decide))
    refine g_aload_n (pc := 57) (i := 0) (j := 0) C dX8_cold_57 rfl rfl ?_
    refine g_iconst (pc := 58) (v := 0) C dX8_cold_58 (by decide) ?_
    refine g_putI (pc := 59) C dX8_cold_59 lpX8_225 rfl rfl (by first | rfl | assumption) rfl ?_
    refine g_iload_n (pc := 62) (i := 2) (j := 2) C dX8_cold_62 rfl rfl ?_
    refine g_if_eq (pc := 63) (tgt := 70) C dX8_cold_63 (by decide) (fun h63z => absurd h63z (by decide)) (fun h63z => ?_)
    refine g_iload_n (pc := 66) (i := 1) (j := 1) C dX8_cold_66 rfl rfl ?_
    refine g_goto (pc := 67) (tgt := 72) C dX8_cold_67 (by decide) ?_
    refine g_iret (pc := 72) C C2 dX8_cold_72 rfl (Nat.le_refl _) (Nat.le_refl _) ?_
    exact ⟨by rw [hR], rfl, rfl, hend I9 hx⟩
  have hloop : ∀ j, j ≤ 40 → (tr_sr (fun j => ∀ k, k < min 24 (96 - t) → tr_si B (fun b k => tr_ev w (nI (40 - j)) t (B b) k 3) g (k + 1) n n = -3) (fun j => nI (40 - j)) (-3) 40 40 = tr_sr (fun j => ∀ k, k < min 24 (96 - t) → tr_si B (fun b k => tr_ev w (nI (40 - j)) t (B b) k 3) g (k + 1) n n = -3) (fun j => nI (40 - j)) (-3) 40 (40 - j)) → ∀ I9, (∃ x, mo_off (pm_u I 102 7 x) I9) → pm_G Γ 0 0 5 [(0, .ref 102), (1, .int (nI (40 - j))), (2, .int 0)] [] SHP I9 J := by
    refine pm_up (fun j => (tr_sr (fun j => ∀ k, k < min 24 (96 - t) → tr_si B (fun b k => tr_ev w (nI (40 - j)) t (B b) k 3) g (k + 1) n n = -3) (fun j => nI (40 - j)) (-3) 40 40 = tr_sr (fun j => ∀ k, k < min 24 (96 - t) → tr_si B (fun b k => tr_ev w (nI (40 - j)) t (B b) k 3) g (k + 1) n n = -3) (fun j => nI (40 - j)) (-3) 40 (40 - j)) → ∀ I9, (∃ x, mo_off (pm_u I 102 7 x) I9) → pm_G Γ 0 0 5 [(0, .ref 102), (1, .int (nI (40 - j))), (2, .int 0)] [] SHP I9 J) 40 (fun j hj ih hR I9 hx9 => ?_)
    refine g_iload_n (pc := 5) (i := 1) (j := 1) C dX8_cold_5 rfl rfl ?_
    refine g_if_le (pc := 6) (tgt := 57) C dX8_cold_6 (by decide) (fun h6z => ?_) (fun h6z => ?_)
    · refine g_aload_n (pc := 57) (i := 0) (j := 0) C dX8_cold_57 rfl rfl ?_
      refine g_iconst (pc := 58) (v := 0) C dX8_cold_58 (by decide) ?_
      refine g_putI (pc := 59) C dX8_cold_59 lpX8_225 rfl rfl (by first | rfl | assumption) rfl ?_
      refine g_iload_n (pc := 62) (i := 2) (j := 2) C dX8_cold_62 rfl rfl ?_
      refine g_if_eq (pc := 63) (tgt := 70) C dX8_cold_63 (by decide) (fun h63z => ?_) (fun h63z => ?_)
      · refine g_bipush (pc := 70) (v := (-3)) C dX8_cold_70 (by decide) ?_
        refine g_iret (pc := 72) C C2 dX8_cold_72 rfl (Nat.le_refl _) (Nat.le_refl _) ?_
        first | exact absurd h63z (by decide) | exact absurd rfl h63z | (have ej : j = 40 := (by have := (nI_gt0 (n := 40 - j) (by omega)).mp h6z; omega); exact ⟨by rw [hR, ej, Nat.sub_self]; rfl, rfl, rfl, hend I9 hx9⟩)
      · refine g_iload_n (pc := 66) (i := 1) (j := 1) C dX8_cold_66 rfl rfl ?_
        refine g_goto (pc := 67) (tgt := 72) C dX8_cold_67 (by decide) ?_
        refine g_iret (pc := 72) C C2 dX8_cold_72 rfl (Nat.le_refl _) (Nat.le_refl _) ?_
        first | exact absurd h63z (by decide) | exact absurd rfl h63z | (have ej : j = 40 := (by have := (nI_gt0 (n := 40 - j) (by omega)).mp h6z; omega); exact ⟨by rw [hR, ej, Nat.sub_self]; rfl, rfl, rfl, hend I9 hx9⟩)
    · refine g_iload_n (pc := 9) (i := 2) (j := 2) C dX8_cold_9 rfl rfl ?_
      refine g_if_ne (pc := 10) (tgt := 57) C dX8_cold_10 (by decide) (fun h10z => absurd (by decide : (0 : Int32) = 0) h10z) (fun h10z => ?_)
      have hlt : j < 40 := by have : ¬ 40 - j = 0 := fun q => h6z ((nI_gt0 (n := 40 - j) (by omega)).mpr q); omega
      obtain ⟨x9, hx9⟩ := hx9
      have hFb : mo_F (pm_u I9 102 7 (nI (40 - j))) w g (nI (40 - j)) n := mo_F_c (mo_off_F hx9 (mo_F_c hF))
      have hWb : mo_W (pm_u I9 102 7 (nI (40 - j))) 0 t n B (pm_u I9 102 7 (nI (40 - j))) := mo_W_u2 (mo_off_W hx9 h6 (mo_W_u2 hW (by decide))) (by decide)
      refine g_aload_n (pc := 13) (i := 0) (j := 0) C dX8_cold_13 rfl rfl ?_
      refine g_iload_n (pc := 14) (i := 1) (j := 1) C dX8_cold_14 rfl rfl ?_
      refine g_putI (pc := 15) C dX8_cold_15 lpX8_225 rfl rfl (by first | rfl | assumption) rfl ?_
      refine g_aload_n (pc := 18) (i := 0) (j := 0) C dX8_cold_18 rfl rfl ?_
      refine g_callV (pc := 19) C dX8_cold_19 lmX8_292 kcX8_lends (by decide) (by first | rfl | assumption) (c_X8_lends) rfl rfl (Nat.le_of_ble_eq_true rfl) ?_
      intro r9 sh9 I9 J9 hD9; obtain ⟨rfl, rfl, rfl, rfl⟩ := pm_Dq hD9; clear hD9
      try simp only [Option.toList_some, Option.toList_none, List.cons_append, List.nil_append]
      have hL := mo_W_lend hWb h6
      refine g_aload_n (pc := 22) (i := 0) (j := 0) C dX8_cold_22 rfl rfl ?_
      refine g_bipush (pc := 23) (v := 24) C dX8_cold_23 (by decide) ?_
      refine g_callV (pc := 25) C dX8_cold_25 lmX8_310 kcX8_pairsBehind (by decide) (by first | rfl | assumption) (c_X8_pairsBehind (a := 43) (c := nI (40 - j)) (h := 24) hFb (by decide) ht hok (by decide) (Bc := B) (fun b hb => rfl) hL) rfl rfl (Nat.le_of_ble_eq_true rfl) ?_
      intro r9 sh9 I10 J9 hD9; obtain ⟨rfl, rfl, rfl, k9, hV⟩ := hD9
      try simp only [Option.toList_some, Option.toList_none, List.cons_append, List.nil_append]
      refine g_if_ne (pc := 28) (tgt := 35) C dX8_cold_28 (by decide) (fun h28z => ?_) (fun h28z => ?_)
      · refine g_iconst (pc := 35) (v := 0) C dX8_cold_35 (by decide) ?_
        refine g_istore_n (pc := 36) (i := 2) (L2 := [(0, _), (1, _), (2, _)]) C dX8_cold_36 rfl (by decide) rfl ?_
        have hz : ∀ s, s % 2 = 0 → s ≤ 24 * 36 → (nI (s / 2) = 0 ↔ s = 0) := fun s h1 h2 => ⟨fun q => (by have := (nI_eq (a := s / 2) (b := 0) (by omega) (by decide)).mp q; omega), fun q => (by rw [q]; rfl)⟩
        have hz2 := hz _ (tr_s2_even (B := B) (Hf := fun b k => tr_ev w (nI (40 - j)) t (B b) k 3) (g := g) (n := n) (min 24 (96 - t))) (by have := tr_s2_le (B := B) (Hf := fun b k => tr_ev w (nI (40 - j)) t (B b) k 3) (g := g) h6 (min 24 (96 - t)); omega)
        have hz3 : nI (tr_s2 B (fun b k => tr_ev w (nI (40 - j)) t (B b) k 3) g n (min 24 (96 - t)) / 2) = 0 ↔ ∀ k, k < min 24 (96 - t) → tr_si B (fun b k => tr_ev w (nI (40 - j)) t (B b) k 3) g (k + 1) n n = -3 := by
          rw [hz2, tr_s2_0]
          exact forall_congr' (fun k => imp_congr_right (fun _ => (tr_si_s1 h6).symm))
        have hx10 : ∃ x, mo_off (pm_u I 102 7 x) (pm_u I10 102 6 0) := by
          refine ⟨nI (40 - j), mo_off_tr ?_ (mo_W_back hV hWb.2.2.1)⟩
          refine ⟨fun q hq => ?_, fun k hk => ?_⟩
          · by_cases e : q = 102
            · subst e
              rw [pm_u_at, hx9.1 102 (by decide), pm_u_at, pm_u_at]
              funext p
              by_cases e2 : p = 7
              · subst e2; rw [pk_us, pk_us]
              · rw [pk_un e2, pk_un e2, pk_un e2]
            · rw [pm_u_off e, hx9.1 q hq, pm_u_off e, pm_u_off e]
          · rw [pm_u_off (by decide), hx9.2 k hk, pm_u_off (by decide), pm_u_off (by decide)]
        refine g_aload_n (pc := 37) (i := 0) (j := 0) C dX8_cold_37 rfl rfl ?_
        refine g_iconst (pc := 38) (v := 0) C dX8_cold_38 (by decide) ?_
        refine g_putI (pc := 39) C dX8_cold_39 lpX8_85 rfl rfl (by first | rfl | assumption) rfl ?_
        refine g_iload_n (pc := 42) (i := 2) (j := 2) C dX8_cold_42 rfl rfl ?_
        refine g_if_eq (pc := 43) (tgt := 50) C dX8_cold_43 (by decide) (fun h43z => ?_) (fun h43z => ?_)
        · refine g_iload_n (pc := 50) (i := 1) (j := 1) C dX8_cold_50 rfl rfl ?_
          refine g_iconst (pc := 51) (v := 1) C dX8_cold_51 (by decide) ?_
          refine g_isub (pc := 52) C dX8_cold_52 ?_
          refine g_istore_n (pc := 53) (i := 1) (L2 := [(0, _), (1, _), (2, _)]) C dX8_cold_53 rfl (by decide) rfl ?_
          refine g_goto (pc := 54) (tgt := 5) C dX8_cold_54 (by decide) ?_
          first | exact absurd h43z (by decide) | exact absurd rfl h43z | exact hyes _ j hlt hx10 (by rw [hR, tr_sr_step hlt, if_pos (hz3.mp h28z)]) | (refine pm_Geq (ih hlt ?_ _ hx10) ?_ rfl rfl rfl; rw [hR, tr_sr_step hlt, if_neg (fun q => h28z (hz3.mpr q))]; rw [show 40 - j = (40 - (j + 1)) + 1 by omega, nI_pred])
        · refine g_iload_n (pc := 46) (i := 1) (j := 1) C dX8_cold_46 rfl rfl ?_
          refine g_goto (pc := 47) (tgt := 53) C dX8_cold_47 (by decide) ?_
          refine g_istore_n (pc := 53) (i := 1) (L2 := [(0, _), (1, _), (2, _)]) C dX8_cold_53 rfl (by decide) rfl ?_
          refine g_goto (pc := 54) (tgt := 5) C dX8_cold_54 (by decide) ?_
          first | exact absurd h43z (by decide) | exact absurd rfl h43z | exact hyes _ j hlt hx10 (by rw [hR, tr_sr_step hlt, if_pos (hz3.mp h28z)]) | (refine pm_Geq (ih hlt ?_ _ hx10) ?_ rfl rfl rfl; rw [hR, tr_sr_step hlt, if_neg (fun q => h28z (hz3.mpr q))]; rw [show 40 - j = (40 - (j + 1)) + 1 by omega, nI_pred])
      · refine g_iconst (pc := 31) (v := 1) C dX8_cold_31 (by decide) ?_
        refine g_goto (pc := 32) (tgt := 36) C dX8_cold_32 (by decide) ?_
        refine g_istore_n (pc := 36) (i := 2) (L2 := [(0, _), (1, _), (2, _)]) C dX8_cold_36 rfl (by decide) rfl ?_
        have hz : ∀ s, s % 2 = 0 → s ≤ 24 * 36 → (nI (s / 2) = 0 ↔ s = 0) := fun s h1 h2 => ⟨fun q => (by have := (nI_eq (a := s / 2) (b := 0) (by omega) (by decide)).mp q; omega), fun q => (by rw [q]; rfl)⟩
        have hz2 := hz _ (tr_s2_even (B := B) (Hf := fun b k => tr_ev w (nI (40 - j)) t (B b) k 3) (g := g) (n := n) (min 24 (96 - t))) (by have := tr_s2_le (B := B) (Hf := fun b k => tr_ev w (nI (40 - j)) t (B b) k 3) (g := g) h6 (min 24 (96 - t)); omega)
        have hz3 : nI (tr_s2 B (fun b k => tr_ev w (nI (40 - j)) t (B b) k 3) g n (min 24 (96 - t)) / 2) = 0 ↔ ∀ k, k < min 24 (96 - t) → tr_si B (fun b k => tr_ev w (nI (40 - j)) t (B b) k 3) g (k + 1) n n = -3 := by
          rw [hz2, tr_s2_0]
          exact forall_congr' (fun k => imp_congr_right (fun _ => (tr_si_s1 h6).symm))
        have hx10 : ∃ x, mo_off (pm_u I 102 7 x) (pm_u I10 102 6 0) := by
          refine ⟨nI (40 - j), mo_off_tr ?_ (mo_W_back hV hWb.2.2.1)⟩
          refine ⟨fun q hq => ?_, fun k hk => ?_⟩
          · by_cases e : q = 102
            · subst e
              rw [pm_u_at, hx9.1 102 (by decide), pm_u_at, pm_u_at]
              funext p
              by_cases e2 : p = 7
              · subst e2; rw [pk_us, pk_us]
              · rw [pk_un e2, pk_un e2, pk_un e2]
            · rw [pm_u_off e, hx9.1 q hq, pm_u_off e, pm_u_off e]
          · rw [pm_u_off (by decide), hx9.2 k hk, pm_u_off (by decide), pm_u_off (by decide)]
        refine g_aload_n (pc := 37) (i := 0) (j := 0) C dX8_cold_37 rfl rfl ?_
        refine g_iconst (pc := 38) (v := 0) C dX8_cold_38 (by decide) ?_
        refine g_putI (pc := 39) C dX8_cold_39 lpX8_85 rfl rfl (by first | rfl | assumption) rfl ?_
        refine g_iload_n (pc := 42) (i := 2) (j := 2) C dX8_cold_42 rfl rfl ?_
        refine g_if_eq (pc := 43) (tgt := 50) C dX8_cold_43 (by decide) (fun h43z => ?_) (fun h43z => ?_)
        · refine g_iload_n (pc := 50) (i := 1) (j := 1) C dX8_cold_50 rfl rfl ?_
          refine g_iconst (pc := 51) (v := 1) C dX8_cold_51 (by decide) ?_
          refine g_isub (pc := 52) C dX8_cold_52 ?_
          refine g_istore_n (pc := 53) (i := 1) (L2 := [(0, _), (1, _), (2, _)]) C dX8_cold_53 rfl (by decide) rfl ?_
          refine g_goto (pc := 54) (tgt := 5) C dX8_cold_54 (by decide) ?_
          first | exact absurd h43z (by decide) | exact absurd rfl h43z | exact hyes _ j hlt hx10 (by rw [hR, tr_sr_step hlt, if_pos (hz3.mp h28z)]) | (refine pm_Geq (ih hlt ?_ _ hx10) ?_ rfl rfl rfl; rw [hR, tr_sr_step hlt, if_neg (fun q => h28z (hz3.mpr q))]; rw [show 40 - j = (40 - (j + 1)) + 1 by omega, nI_pred])
        · refine g_iload_n (pc := 46) (i := 1) (j := 1) C dX8_cold_46 rfl rfl ?_
          refine g_goto (pc := 47) (tgt := 53) C dX8_cold_47 (by decide) ?_
          refine g_istore_n (pc := 53) (i := 1) (L2 := [(0, _), (1, _), (2, _)]) C dX8_cold_53 rfl (by decide) rfl ?_
          refine g_goto (pc := 54) (tgt := 5) C dX8_cold_54 (by decide) ?_
          first | exact absurd h43z (by decide) | exact absurd rfl h43z | exact hyes _ j hlt hx10 (by rw [hR, tr_sr_step hlt, if_pos (hz3.mp h28z)]) | (refine pm_Geq (ih hlt ?_ _ hx10) ?_ rfl rfl rfl; rw [hR, tr_sr_step hlt, if_neg (fun q => h28z (hz3.mpr q))]; rw [show 40 - j = (40 - (j + 1)) + 1 by omega, nI_pred])
  refine g_bipush (pc := 0) (v := 40) C dX8_cold_0 (by decide) ?_
  refine g_istore_n (pc := 2) (i := 1) (L2 := [(0, _), (1, _)]) C dX8_cold_2 rfl (by decide) rfl ?_
  refine g_iconst (pc := 3) (v := 0) C dX8_cold_3 (by decide) ?_
  refine g_istore_n (pc := 4) (i := 2) (L2 := [(0, _), (1, _), (2, _)]) C dX8_cold_4 rfl (by decide) rfl ?_
  exact hloop 0 (Nat.zero_le _) rfl I ⟨0, by refine ⟨fun q hq => ?_, fun k hk => (by rw [pm_u_off (by decide)])⟩; by_cases e : q = 102; (subst e; rw [pm_u_at]; funext p; by_cases e2 : p = 7; (subst e2; rw [pk_us]; exact hF.2.2.2.1); rw [pk_un e2]); rw [pm_u_off e]⟩
