/-! Searches with a changed balloon; the highest; gifts -/
def tr_Ix (I : pm_I) (t m : Nat) (c : Int32) (n i : Nat) (I2 : pm_I) : Prop := tr_off I I2 ∧ I2 48 4 = c ∧ I2 48 5 = nI m ∧ ∀ b, b < n → b ≠ i → ∀ k, k ≤ m → I2 (52 + b) k = tr_H I c t b k
theorem tr_Ix_of {I I2 : pm_I} {t m n i : Nat} {c : Int32} (h : tr_In I t m c n I2) : tr_Ix I t m c n i I2 := ⟨h.1, h.2.1, h.2.2.1, fun b hb _ k hk => (h.2.2.2 b hb k hk).1⟩
theorem tr_Ix_cl {I I2 I3 : pm_I} {t m n i : Nat} {c : Int32} (h : tr_Ix I t m c n i I2) (h2 : tr_Cl I2 n i I3) : tr_Ix I t m c n i I3 := by
  obtain ⟨a1, a2, a3, a4⟩ := h
  obtain ⟨b1, b2, b3⟩ := h2
  exact ⟨tr_off_trans a1 b1, by rw [b2]; exact a2, by rw [b2]; exact a3, fun b hb hne k hk => by rw [(b3 b hb hne).1]; exact a4 b hb hne k hk⟩
theorem tr_Ix_CW {I I2 : pm_I} {t m n i p k : Nat} {v : Int32} (h : tr_Ix I t m 0 n i I2) (h6 : n ≤ 6) (hi : i < n) : tr_ti (bl_L I2) (tr_hw (tr_H I 0 t) i (tr_ev (I2 2) (I2 48 4) t (upd (bl_L I2 i) p v))) (I2 1 4) i (bl_L I2 i 2) k n = tr_ti (bl_L I) (tr_hw (tr_H I 0 t) i (tr_ev (I 2) 0 t (upd (bl_L I i) p v))) (I 1 4) i (bl_L I i 2) k n := by
  have e1 : I2 1 = I 1 := h.1 1 (by decide)
  have e2 : I2 2 = I 2 := h.1 2 (by decide)
  have eL : ∀ b, b < n → bl_L I2 b = bl_L I b := fun b hb => h.1 (5 + 2 * b) (by omega)
  rw [e1, e2, h.2.1, eL i hi]
  exact tr_ti_congr hi (fun b hb => by rw [eL b hb]) (fun b hb => rfl) n (Nat.le_refl _)
/-- the trial's rows follow the balloons Fs -/
def tr_St (I : pm_I) (t m : Nat) (c : Int32) (n : Nat) (Fs : Nat → Nat → Int32) (I2 : pm_I) : Prop := tr_off I I2 ∧ I2 48 4 = c ∧ I2 48 5 = nI m ∧ ∀ b, b < n → ∀ k, k ≤ m → I2 (52 + b) k = tr_ev (I 2) c t (Fs b) k 3 ∧ I2 (59 + b) k = tr_ev (I 2) c t (Fs b) k 5
theorem tr_St_fw {I I2 : pm_I} {t m n i : Nat} {c v : Int32} {Fs : Nat → Nat → Int32} (hi : i < 6) (h6 : n ≤ 6) (h : tr_St I t m c n Fs I2) : tr_St I t m c n (fun b => if b = i then upd (bl_L I i) 6 v else Fs b) (tr_fw I2 i (tr_ev (I2 2) (I2 48 4) t (upd (bl_cp (I2 50) (bl_L I2 i) 9) 6 v)) m) := by
  obtain ⟨h1, h2, h3, h4⟩ := h
  have e2 : I2 2 = I 2 := h1 2 (by decide)
  have eL : bl_L I2 i = bl_L I i := h1 (5 + 2 * i) (by omega)
  have ev : ∀ k p, p < 9 → tr_ev (I2 2) (I2 48 4) t (upd (bl_cp (I2 50) (bl_L I2 i) 9) 6 v) k p = tr_ev (I 2) c t (upd (bl_L I i) 6 v) k p := by
    rw [e2, h2, eL]
    exact tr_ev_congr tr_cpe
  refine ⟨fun a ha => ?_, ?_, ?_, fun b hb k hk => ?_⟩
  · rw [tr_fw_off (by omega) (by omega) (by omega)]
    exact h1 a ha
  · rw [tr_fw_off (by omega) (by omega) (by omega)]
    exact h2
  · rw [tr_fw_off (by omega) (by omega) (by omega)]
    exact h3
  · by_cases hb2 : b = i
    · subst hb2
      rw [tr_fw_h hk, tr_fw_g hk]
      simp only [if_true]
      exact ⟨ev k 3 (by decide), ev k 5 (by decide)⟩
    · rw [tr_fw_off (by omega) (by omega) (by omega), tr_fw_off (by omega) (by omega) (by omega)]
      simp only [if_neg hb2]
      exact h4 b hb k hk
theorem tr_St_same {I I2 : pm_I} {t m n : Nat} {c : Int32} {Fs : Nat → Nat → Int32} (h : tr_St I t m c n Fs I2) (hF : ∀ b, b < n → ∀ p, p < 9 → Fs b p = bl_L I b p) : tr_In I t m c n I2 :=
  ⟨h.1, h.2.1, h.2.2.1, fun b hb k hk => by
    rw [← tr_ev_congr (hF b hb) k 3 (by decide), ← tr_ev_congr (hF b hb) k 5 (by decide)]
    exact h.2.2.2 b hb k hk⟩
/-- the balloons behind a gift of sand from i to j -/
def hp_F (I : pm_I) (i j : Nat) (x : Int32) (b : Nat) : Nat → Int32 := if b = j then upd (bl_L I j) 6 (bl_L I j 6 + x) else if b = i then upd (bl_L I i) 6 (bl_L I i 6 - x) else bl_L I b
def hp_Q (I : pm_I) (t m n i j : Nat) (x : Int32) : Int32 := nI (tr_s2 (bl_L I) (fun b k => tr_ev (I 2) 0 t (hp_F I i j x b) k 3) (I 1 4) n m) / 2
def hp_st (P : Nat → Nat → Prop) [∀ i j, Decidable (P i j)] (Q : Nat → Nat → Int32) (i j : Nat) (s : Int32 × Int32) : Int32 × Int32 := if P i j then (if s.1 = -3 ∨ Q i j < s.2 then (nI (10 * i + j), Q i j) else s) else s
def hp_in (P : Nat → Nat → Prop) [∀ i j, Decidable (P i j)] (Q : Nat → Nat → Int32) (i : Nat) (s : Int32 × Int32) : Nat → Int32 × Int32
  | 0 => s
  | j + 1 => hp_st P Q i j (hp_in P Q i s j)
def hp_out (P : Nat → Nat → Prop) [∀ i j, Decidable (P i j)] (Q : Nat → Nat → Int32) (n : Nat) : Nat → Int32 × Int32
  | 0 => (-3, 0)
  | i + 1 => hp_in P Q i (hp_out P Q n i) n
theorem bl_nextA_congr {B B2 : Nat → Nat → Int32} {n i : Nat} (hi : i < n) (h : ∀ b, b < n → B b = B2 b) : ∀ k, k ≤ n → bl_nextA B i k = bl_nextA B2 i k
  | 0, _ => rfl
  | k + 1, hk => by
    have ih := bl_nextA_congr hi h k (by omega)
    have hlt := fun m (q : bl_nextA B2 i k = some m) => bl_nextA_lt q
    unfold bl_nextA
    rw [ih]
    cases hq : bl_nextA B2 i k with
    | none =>
      have g1 := h i hi
      have g2 := h k (by omega)
      simp only [bl_over, g1, g2]
    | some m =>
      have hm := hlt m hq
      have g1 := h i hi
      have g2 := h k (by omega)
      have g3 := h m (by omega)
      simp only [bl_over, g1, g2, g3]
theorem bl_nextB_congr {B B2 : Nat → Nat → Int32} {n i : Nat} (hi : i < n) (h : ∀ b, b < n → B b = B2 b) : ∀ k, k ≤ n → bl_nextB B i k = bl_nextB B2 i k
  | 0, _ => rfl
  | k + 1, hk => by
    have ih := bl_nextB_congr hi h k (by omega)
    have hlt := fun m (q : bl_nextB B2 i k = some m) => bl_nextB_lt q
    unfold bl_nextB
    rw [ih]
    cases hq : bl_nextB B2 i k with
    | none =>
      have g1 := h i hi
      have g2 := h k (by omega)
      simp only [bl_over, g1, g2]
    | some m =>
      have hm := hlt m hq
      have g1 := h i hi
      have g2 := h k (by omega)
      have g3 := h m (by omega)
      simp only [bl_over, g1, g2, g3]
theorem bl_inR_congr {B B2 : Nat → Nat → Int32} {n i : Nat} {q : Option Nat} (hi : i < n) (h : ∀ b, b < n → B b = B2 b) (hq : ∀ m, q = some m → m < n) : bl_inR B i q = bl_inR B2 i q := by
  cases q with
  | none => rfl
  | some m =>
    unfold bl_inR
    simp only
    rw [h i hi, h m (hq m rfl)]
theorem bl_reach_congr {B B2 : Nat → Nat → Int32} {n i : Nat} (hi : i < n) (h : ∀ b, b < n → B b = B2 b) : bl_reach B i n = bl_reach B2 i n := by
  unfold bl_reach
  rw [bl_nextA_congr hi h n (Nat.le_refl _), bl_nextB_congr hi h n (Nat.le_refl _), bl_inR_congr hi h (fun m q => bl_nextA_lt q), bl_inR_congr hi h (fun m q => bl_nextB_lt q)]
theorem bl_can_congr {B B2 : Nat → Nat → Int32} {n i j p : Nat} {x : Int32} (hi : i < n) (hj : j < n) (h : ∀ b, b < n → B b = B2 b) : bl_can B i j p n x ↔ bl_can B2 i j p n x := by
  unfold bl_can
  rw [bl_reach_congr hi h, h i hi, h j hj]
set_option maxHeartbeats 4000000 in
set_option maxRecDepth 100000 in
theorem c_X7_leastSand {d : Nat} {I : pm_I} {J : pm_J} {n : Nat} (hn : I 1 2 = nI n) (h6 : n ≤ 6) {t : Nat} (ht : I 1 3 = nI t) (ht96 : t ≤ 96) {b h : Nat} (hb : b < n) (hh : h ≤ 24) {S : Nat} (hS : bl_L I b 6 = nI S) (hS9 : S ≤ 999) : pm_M (d + 6) 0 0 yX7_leastSand cX7_leastSand 5 (some .int) [.ref 0, .int (nI b), .int (nI h)] SHP I J (fun r sh2 I2 J2 => r = some (.int (tr_sr (fun j => tr_CW I t (min h (96 - t)) n b 6 (nI S - nI j)) nI (-3) (S + 1) (S + 1))) ∧ sh2 = SHP ∧ J2 = J ∧ tr_off I I2) := by
  refine pm_start (own := RX7) (nm := "leastSand") (by decide) rfl rfl (L := [(0, .ref 0), (1, .int (nI b)), (2, .int (nI h))]) rfl (Nat.le_of_ble_eq_true rfl) (fun Γ C C2 => ?_)
  generalize hm : min h (96 - t) = m at C2
  have hm48 : m ≤ 48 := by omega
  have htm : t + m ≤ 96 := by omega
  have hloop : ∀ j, j ≤ (S + 1) → (tr_sr (fun j => tr_CW I t m n b 6 (nI S - nI j)) nI (-3) (S + 1) (S + 1) = tr_sr (fun j => tr_CW I t m n b 6 (nI S - nI j)) nI (-3) (S + 1) ((S + 1) - j)) → ∀ I9, tr_Ix I t m 0 n b I9 → pm_G Γ 0 0 51 [(0, .ref 0), (1, .int (nI b)), (2, .int (nI h)), (3, .int (nI S)), (4, .int (nI j))] [] SHP I9 J := by
    refine pm_up (fun j => (tr_sr (fun j => tr_CW I t m n b 6 (nI S - nI j)) nI (-3) (S + 1) (S + 1) = tr_sr (fun j => tr_CW I t m n b 6 (nI S - nI j)) nI (-3) (S + 1) ((S + 1) - j)) → ∀ I9, tr_Ix I t m 0 n b I9 → pm_G Γ 0 0 51 [(0, .ref 0), (1, .int (nI b)), (2, .int (nI h)), (3, .int (nI S)), (4, .int (nI j))] [] SHP I9 J) ((S + 1)) (fun j hj ih hR I9 hI9 => ?_)
    have f1 : I9 1 = I 1 := hI9.1 1 (by decide)
    have e9 : ∀ k v, tr_ti (bl_L I9) (tr_hw (tr_H I 0 t) b (tr_ev (I9 2) (I9 48 4) t (upd (bl_L I9 b) 6 v))) (I9 1 4) b (bl_L I9 b 2) k n = tr_ti (bl_L I) (tr_hw (tr_H I 0 t) b (tr_ev (I 2) 0 t (upd (bl_L I b) 6 v))) (I 1 4) b (bl_L I b 2) k n := fun k v => tr_Ix_CW hI9 h6 hb
    refine g_iload (pc := 51) (j := 4) C dX7_leastSand_51 rfl ?_
    refine g_iload_n (pc := 53) (i := 3) (j := 3) C dX7_leastSand_53 rfl rfl ?_
    refine g_icmp_gt (pc := 54) (tgt := 83) C dX7_leastSand_54 (by decide) (fun h54 => ?_) (fun h54 => ?_)
    · have ej : j = S + 1 := by have := (nI_ltI (a := S) (b := j) (by omega) (by omega)).mp h54; omega
      subst ej
      refine g_bipush (pc := 83) (v := (-3)) C dX7_leastSand_83 (by decide) ?_
      refine g_iret (pc := 85) C C2 dX7_leastSand_85 rfl (Nat.le_refl _) (Nat.le_refl _) ?_
      refine ⟨?_, rfl, rfl, hI9.1⟩
      rw [hR, Nat.sub_self]
      rfl
    · have hlt : j < S + 1 := Nat.lt_of_not_le (fun q => h54 ((nI_ltI (a := S) (b := j) (by omega) (by omega)).mpr (by omega)))
      refine g_aload_n (pc := 57) (i := 0) (j := 0) C dX7_leastSand_57 rfl rfl ?_
      refine g_getR (pc := 58) C dX7_leastSand_58 lfX7_38 (by first | rfl | assumption) rfl ?_
      refine g_iload_n (pc := 61) (i := 1) (j := 1) C dX7_leastSand_61 rfl rfl ?_
      refine g_bipush (pc := 62) (v := 6) C dX7_leastSand_62 (by decide) ?_
      refine g_iload_n (pc := 64) (i := 3) (j := 3) C dX7_leastSand_64 rfl rfl ?_
      refine g_iload (pc := 65) (j := 4) C dX7_leastSand_65 rfl ?_
      refine g_isub (pc := 67) C dX7_leastSand_67 ?_
      refine g_callV (pc := 68) C dX7_leastSand_68 lmX7_179 kcX6_isClearWith (by decide) (by first | rfl | assumption) (c_X6_isClearWith (p := 6) (t := t) (m := m) (Hf := tr_H I 0 t) (by rw [f1]; exact hn) h6 hb (by decide) (by rw [f1]; exact ht) hI9.2.2.1 htm hm48 hI9.2.2.2) rfl rfl (Nat.le_of_ble_eq_true rfl) ?_
      rintro r9 sh9 I10 J9 ⟨e1, e2, e3, hI10⟩
      try simp only [Option.toList_some, Option.toList_none, List.cons_append, List.nil_append]
      subst e1 e2
      obtain rfl := e3.symm
      simp only [Option.toList_some, List.cons_append, List.nil_append, e9]
      refine g_if_eqB (pc := 71) (tgt := 77) C dX7_leastSand_71 (by decide) (fun h71 => ?_) (fun h71 => ?_)
      · refine g_iinc (pc := 77) (j := 4) (v := _ + 1) (L2 := [(0, _), (1, _), (2, _), (3, _), (4, _)]) C dX7_leastSand_77 rfl rfl (by decide) rfl ?_
        refine g_goto (pc := 80) (tgt := 51) C dX7_leastSand_80 (by decide) ?_
        refine pm_Geq (ih hlt ?_ I10 (tr_Ix_cl hI9 hI10)) ?_ rfl rfl rfl
        · rw [hR, tr_sr_step hlt, if_neg h71]
        · simp only [nI_1]
      · refine g_iload (pc := 74) (j := 4) C dX7_leastSand_74 rfl ?_
        refine g_iret (pc := 76) C C2 dX7_leastSand_76 rfl (Nat.le_refl _) (Nat.le_refl _) ?_
        refine ⟨?_, rfl, rfl, tr_off_trans hI9.1 hI10.1⟩
        rw [hR, tr_sr_step hlt, if_pos h71]
  refine g_aload_n (pc := 0) (i := 0) (j := 0) C dX7_leastSand_0 rfl rfl ?_
  refine g_getR (pc := 1) C dX7_leastSand_1 lfX7_10 (by first | rfl | assumption) rfl ?_
  refine g_iload_n (pc := 4) (i := 1) (j := 1) C dX7_leastSand_4 rfl rfl ?_
  refine g_callV (pc := 5) C dX7_leastSand_5 lmX7_115 kcX5_has (by decide) (by first | rfl | assumption) (c_X5_has) rfl rfl (Nat.le_of_ble_eq_true rfl) ?_
  intro r9 sh9 I9 J9 hD9; obtain ⟨rfl, rfl, rfl, rfl⟩ := pm_Dq hD9
  try simp only [Option.toList_some, Option.toList_none, List.cons_append, List.nil_append]
  refine g_if_eqB (pc := 8) (tgt := 21) C dX7_leastSand_8 (by decide) (fun h8 => absurd ⟨by exact nI_pos' (by omega), by rw [hn]; exact pm_leP hb (by omega)⟩ h8) (fun h8 => ?_)
  refine g_iload_n (pc := 11) (i := 2) (j := 2) C dX7_leastSand_11 rfl rfl ?_
  refine g_iconst (pc := 12) (v := 0) C dX7_leastSand_12 (by decide) ?_
  refine g_bipush (pc := 13) (v := 24) C dX7_leastSand_13 (by decide) ?_
  refine g_callS (pc := 15) C dX7_leastSand_15 lmX7_72 kcX7_within (by decide) (c_X7_within) rfl rfl (Nat.le_of_ble_eq_true rfl) ?_
  intro r9 sh9 I9 J9 hD9; obtain ⟨rfl, rfl, rfl, rfl⟩ := pm_Dq hD9
  try simp only [Option.toList_some, Option.toList_none, List.cons_append, List.nil_append]
  refine g_if_neB (pc := 18) (tgt := 23) C dX7_leastSand_18 (by decide) (fun h18 => ?_) (fun h18 => absurd ⟨by exact nI_le (a := 0) (b := h) (by omega) (by omega), by exact nI_le (a := h) (b := 24) (by omega) (by decide)⟩ h18)
  refine g_aload_n (pc := 23) (i := 0) (j := 0) C dX7_leastSand_23 rfl rfl ?_
  refine g_getR (pc := 24) C dX7_leastSand_24 lfX7_38 (by first | rfl | assumption) rfl ?_
  refine g_iload_n (pc := 27) (i := 2) (j := 2) C dX7_leastSand_27 rfl rfl ?_
  refine g_iconst (pc := 28) (v := 0) C dX7_leastSand_28 (by decide) ?_
  refine g_callV (pc := 29) C dX7_leastSand_29 lmX7_163 kcX6_run (by decide) (by first | rfl | assumption) (c_X6_run (t := t) (h := h) hn h6 ht ht96 (by omega)) rfl rfl (Nat.le_of_ble_eq_true rfl) ?_
  rintro r9 sh9 I9 J9 ⟨e1, e2, e3, hI9⟩
  try simp only [Option.toList_some, Option.toList_none, List.cons_append, List.nil_append]
  subst e1 e2
  obtain rfl := e3.symm
  obtain ⟨f1, f2, f3, f4⟩ := tr_In_facts hI9 h6
  try simp only [Option.toList_none, List.nil_append]
  have sB := shB b (by omega)
  have sP := shP b (by omega)
  refine g_aload_n (pc := 32) (i := 0) (j := 0) C dX7_leastSand_32 rfl rfl ?_
  refine g_getR (pc := 33) C dX7_leastSand_33 lfX7_10 (by first | rfl | assumption) rfl ?_
  refine g_getR (pc := 36) C dX7_leastSand_36 lfX7_118 (by first | rfl | assumption) rfl ?_
  refine g_iload_n (pc := 39) (i := 1) (j := 1) C dX7_leastSand_39 rfl rfl ?_
  refine g_aald (pc := 40) C dX7_leastSand_40 (by first | rfl | assumption) (fun _ => rfl) rfl (by decide) (by first | rfl | assumption) (rsB b (by omega)) ?_
  refine g_getR (pc := 41) C dX7_leastSand_41 lfX7_138 (by first | rfl | assumption) rfl ?_
  refine g_bipush (pc := 44) (v := 6) C dX7_leastSand_44 (by decide) ?_
  refine g_iald (pc := 46) C dX7_leastSand_46 (by first | rfl | assumption) (by decide) (by first | rfl | assumption) (by first | assumption | decide | omega) ?_
  refine g_istore_n (pc := 47) (i := 3) (L2 := [(0, _), (1, _), (2, _), (3, _)]) C dX7_leastSand_47 rfl (by decide) rfl ?_
  refine g_iconst (pc := 48) (v := 0) C dX7_leastSand_48 (by decide) ?_
  refine g_istore (pc := 49) (L2 := [(0, _), (1, _), (2, _), (3, _), (4, _)]) C dX7_leastSand_49 (by decide) rfl ?_
  rw [hm] at hI9
  refine pm_Geq (hloop 0 (Nat.zero_le _) rfl I9 (tr_Ix_of hI9)) ?_ rfl rfl rfl
  rw [show I9 (5 + 2 * b) = bl_L I b from f3 b hb, hS]
  rfl

set_option maxHeartbeats 4000000 in
set_option maxRecDepth 100000 in
theorem c_X7_ropeFor {d : Nat} {I : pm_I} {J : pm_J} {n : Nat} (hn : I 1 2 = nI n) (h6 : n ≤ 6) {t : Nat} (ht : I 1 3 = nI t) (ht96 : t ≤ 96) {b h : Nat} (hb : b < n) (hh : h ≤ 24) : pm_M (d + 6) 0 0 yX7_ropeFor cX7_ropeFor 4 (some .int) [.ref 0, .int (nI b), .int (nI h)] SHP I J (fun r sh2 I2 J2 => r = some (.int (tr_sr (fun j => tr_CW I t (min h (96 - t)) n b 4 (nI (99 - j))) (fun j => nI (99 - j)) (-3) 99 99)) ∧ sh2 = SHP ∧ J2 = J ∧ tr_off I I2) := by
  refine pm_start (own := RX7) (nm := "ropeFor") (by decide) rfl rfl (L := [(0, .ref 0), (1, .int (nI b)), (2, .int (nI h))]) rfl (Nat.le_of_ble_eq_true rfl) (fun Γ C C2 => ?_)
  generalize hm : min h (96 - t) = m at C2
  have hm48 : m ≤ 48 := by omega
  have htm : t + m ≤ 96 := by omega
  have hloop : ∀ j, j ≤ 99 → (tr_sr (fun j => tr_CW I t m n b 4 (nI (99 - j))) (fun j => nI (99 - j)) (-3) 99 99 = tr_sr (fun j => tr_CW I t m n b 4 (nI (99 - j))) (fun j => nI (99 - j)) (-3) 99 (99 - j)) → ∀ I9, tr_Ix I t m 0 n b I9 → pm_G Γ 0 0 38 [(0, .ref 0), (1, .int (nI b)), (2, .int (nI h)), (3, .int (nI (99 - j)))] [] SHP I9 J := by
    refine pm_up (fun j => (tr_sr (fun j => tr_CW I t m n b 4 (nI (99 - j))) (fun j => nI (99 - j)) (-3) 99 99 = tr_sr (fun j => tr_CW I t m n b 4 (nI (99 - j))) (fun j => nI (99 - j)) (-3) 99 (99 - j)) → ∀ I9, tr_Ix I t m 0 n b I9 → pm_G Γ 0 0 38 [(0, .ref 0), (1, .int (nI b)), (2, .int (nI h)), (3, .int (nI (99 - j)))] [] SHP I9 J) (99) (fun j hj ih hR I9 hI9 => ?_)
    have f1 : I9 1 = I 1 := hI9.1 1 (by decide)
    have e9 : ∀ k v, tr_ti (bl_L I9) (tr_hw (tr_H I 0 t) b (tr_ev (I9 2) (I9 48 4) t (upd (bl_L I9 b) 4 v))) (I9 1 4) b (bl_L I9 b 2) k n = tr_ti (bl_L I) (tr_hw (tr_H I 0 t) b (tr_ev (I 2) 0 t (upd (bl_L I b) 4 v))) (I 1 4) b (bl_L I b 2) k n := fun k v => tr_Ix_CW hI9 h6 hb
    refine g_iload_n (pc := 38) (i := 3) (j := 3) C dX7_ropeFor_38 rfl rfl ?_
    refine g_gets (pc := 39) (j := 1) C dX7_ropeFor_39 (by decide) lsX7_182 ?_
    refine g_iconst (pc := 42) (v := 4) C dX7_ropeFor_42 (by decide) ?_
    refine g_tald (pc := 43) (j := 1) C dX7_ropeFor_43 (by decide) (by first | rfl | assumption) (by first | assumption | decide | omega) ?_
    refine g_icmp_lt (pc := 44) (tgt := 68) C dX7_ropeFor_44 (by decide) (fun h44 => ?_) (fun h44 => ?_)
    · have ej : j = 99 := by have := (nI_ltI (a := 99 - j) (b := 1) (by omega) (by decide)).mp h44; omega
      subst ej
      refine g_bipush (pc := 68) (v := (-3)) C dX7_ropeFor_68 (by decide) ?_
      refine g_iret (pc := 70) C C2 dX7_ropeFor_70 rfl (Nat.le_refl _) (Nat.le_refl _) ?_
      refine ⟨?_, rfl, rfl, hI9.1⟩
      rw [hR, Nat.sub_self]
      rfl
    · have hlt : j < 99 := by have : ¬ 99 - j < 1 := fun q => h44 ((nI_ltI (a := 99 - j) (b := 1) (by omega) (by decide)).mpr q); omega
      refine g_aload_n (pc := 47) (i := 0) (j := 0) C dX7_ropeFor_47 rfl rfl ?_
      refine g_getR (pc := 48) C dX7_ropeFor_48 lfX7_38 (by first | rfl | assumption) rfl ?_
      refine g_iload_n (pc := 51) (i := 1) (j := 1) C dX7_ropeFor_51 rfl rfl ?_
      refine g_iconst (pc := 52) (v := 4) C dX7_ropeFor_52 (by decide) ?_
      refine g_iload_n (pc := 53) (i := 3) (j := 3) C dX7_ropeFor_53 rfl rfl ?_
      refine g_callV (pc := 54) C dX7_ropeFor_54 lmX7_179 kcX6_isClearWith (by decide) (by first | rfl | assumption) (c_X6_isClearWith (p := 4) (t := t) (m := m) (Hf := tr_H I 0 t) (by rw [f1]; exact hn) h6 hb (by decide) (by rw [f1]; exact ht) hI9.2.2.1 htm hm48 hI9.2.2.2) rfl rfl (Nat.le_of_ble_eq_true rfl) ?_
      rintro r9 sh9 I10 J9 ⟨e1, e2, e3, hI10⟩
      try simp only [Option.toList_some, Option.toList_none, List.cons_append, List.nil_append]
      subst e1 e2
      obtain rfl := e3.symm
      simp only [Option.toList_some, List.cons_append, List.nil_append, e9]
      refine g_if_eqB (pc := 57) (tgt := 62) C dX7_ropeFor_57 (by decide) (fun h57 => ?_) (fun h57 => ?_)
      · refine g_iinc (pc := 62) (j := 3) (v := _ - 1) (L2 := [(0, _), (1, _), (2, _), (3, _)]) C dX7_ropeFor_62 rfl (pm_inc _) (by decide) rfl ?_
        refine g_goto (pc := 65) (tgt := 38) C dX7_ropeFor_65 (by decide) ?_
        refine pm_Geq (ih hlt ?_ I10 (tr_Ix_cl hI9 hI10)) ?_ rfl rfl rfl
        · rw [hR, tr_sr_step hlt, if_neg h57]
        · rw [show 99 - j = (99 - (j + 1)) + 1 by omega, nI_pred]
      · refine g_iload_n (pc := 60) (i := 3) (j := 3) C dX7_ropeFor_60 rfl rfl ?_
        refine g_iret (pc := 61) C C2 dX7_ropeFor_61 rfl (Nat.le_refl _) (Nat.le_refl _) ?_
        refine ⟨?_, rfl, rfl, tr_off_trans hI9.1 hI10.1⟩
        rw [hR, tr_sr_step hlt, if_pos h57]
  refine g_aload_n (pc := 0) (i := 0) (j := 0) C dX7_ropeFor_0 rfl rfl ?_
  refine g_getR (pc := 1) C dX7_ropeFor_1 lfX7_10 (by first | rfl | assumption) rfl ?_
  refine g_iload_n (pc := 4) (i := 1) (j := 1) C dX7_ropeFor_4 rfl rfl ?_
  refine g_callV (pc := 5) C dX7_ropeFor_5 lmX7_115 kcX5_has (by decide) (by first | rfl | assumption) (c_X5_has) rfl rfl (Nat.le_of_ble_eq_true rfl) ?_
  intro r9 sh9 I9 J9 hD9; obtain ⟨rfl, rfl, rfl, rfl⟩ := pm_Dq hD9
  try simp only [Option.toList_some, Option.toList_none, List.cons_append, List.nil_append]
  refine g_if_eqB (pc := 8) (tgt := 21) C dX7_ropeFor_8 (by decide) (fun h8 => absurd ⟨by exact nI_pos' (by omega), by rw [hn]; exact pm_leP hb (by omega)⟩ h8) (fun h8 => ?_)
  refine g_iload_n (pc := 11) (i := 2) (j := 2) C dX7_ropeFor_11 rfl rfl ?_
  refine g_iconst (pc := 12) (v := 0) C dX7_ropeFor_12 (by decide) ?_
  refine g_bipush (pc := 13) (v := 24) C dX7_ropeFor_13 (by decide) ?_
  refine g_callS (pc := 15) C dX7_ropeFor_15 lmX7_72 kcX7_within (by decide) (c_X7_within) rfl rfl (Nat.le_of_ble_eq_true rfl) ?_
  intro r9 sh9 I9 J9 hD9; obtain ⟨rfl, rfl, rfl, rfl⟩ := pm_Dq hD9
  try simp only [Option.toList_some, Option.toList_none, List.cons_append, List.nil_append]
  refine g_if_neB (pc := 18) (tgt := 23) C dX7_ropeFor_18 (by decide) (fun h18 => ?_) (fun h18 => absurd ⟨by exact nI_le (a := 0) (b := h) (by omega) (by omega), by exact nI_le (a := h) (b := 24) (by omega) (by decide)⟩ h18)
  refine g_aload_n (pc := 23) (i := 0) (j := 0) C dX7_ropeFor_23 rfl rfl ?_
  refine g_getR (pc := 24) C dX7_ropeFor_24 lfX7_38 (by first | rfl | assumption) rfl ?_
  refine g_iload_n (pc := 27) (i := 2) (j := 2) C dX7_ropeFor_27 rfl rfl ?_
  refine g_iconst (pc := 28) (v := 0) C dX7_ropeFor_28 (by decide) ?_
  refine g_callV (pc := 29) C dX7_ropeFor_29 lmX7_163 kcX6_run (by decide) (by first | rfl | assumption) (c_X6_run (t := t) (h := h) hn h6 ht ht96 (by omega)) rfl rfl (Nat.le_of_ble_eq_true rfl) ?_
  rintro r9 sh9 I9 J9 ⟨e1, e2, e3, hI9⟩
  try simp only [Option.toList_some, Option.toList_none, List.cons_append, List.nil_append]
  subst e1 e2
  obtain rfl := e3.symm
  obtain ⟨f1, f2, f3, f4⟩ := tr_In_facts hI9 h6
  try simp only [Option.toList_none, List.nil_append]
  have sB := shB b (by omega)
  have sP := shP b (by omega)
  refine g_gets (pc := 32) (j := 2) C dX7_ropeFor_32 (by decide) lsX7_141 ?_
  refine g_iconst (pc := 35) (v := 4) C dX7_ropeFor_35 (by decide) ?_
  refine g_tald (pc := 36) (j := 2) C dX7_ropeFor_36 (by decide) (by first | rfl | assumption) (by first | assumption | decide | omega) ?_
  refine g_istore_n (pc := 37) (i := 3) (L2 := [(0, _), (1, _), (2, _), (3, _)]) C dX7_ropeFor_37 rfl (by decide) rfl ?_
  rw [hm] at hI9
  exact hloop 0 (Nat.zero_le _) rfl I9 (tr_Ix_of hI9)

set_option maxHeartbeats 4000000 in
set_option maxRecDepth 100000 in
theorem c_X7_leastSand0 {d : Nat} {x y : Int32} {I : pm_I} {J : pm_J} (hv : ¬ ((0 ≤ x ∧ x ≤ I 1 2 - 1) ∧ 0 ≤ y ∧ y ≤ 24)) : pm_M (d + 2) 0 0 yX7_leastSand cX7_leastSand 5 (some .int) [.ref 0, .int x, .int y] SHP I J (fun r sh2 I2 J2 => r = some (.int (-1)) ∧ sh2 = SHP ∧ J2 = J ∧ tr_off I I2) := by
  refine pm_start (own := RX7) (nm := "leastSand") (by decide) rfl rfl (L := [(0, .ref 0), (1, .int x), (2, .int y)]) rfl (Nat.le_of_ble_eq_true rfl) (fun Γ C C2 => ?_)
  refine g_aload_n (pc := 0) (i := 0) (j := 0) C dX7_leastSand_0 rfl rfl ?_
  refine g_getR (pc := 1) C dX7_leastSand_1 lfX7_10 (by first | rfl | assumption) rfl ?_
  refine g_iload_n (pc := 4) (i := 1) (j := 1) C dX7_leastSand_4 rfl rfl ?_
  refine g_callV (pc := 5) C dX7_leastSand_5 lmX7_115 kcX5_has (by decide) (by first | rfl | assumption) (c_X5_has) rfl rfl (Nat.le_of_ble_eq_true rfl) ?_
  intro r9 sh9 I9 J9 hD9; obtain ⟨rfl, rfl, rfl, rfl⟩ := pm_Dq hD9
  try simp only [Option.toList_some, Option.toList_none, List.cons_append, List.nil_append]
  refine g_if_eqB (pc := 8) (tgt := 21) C dX7_leastSand_8 (by decide) (fun h8 => ?_) (fun h8 => ?_)
  · refine g_iconst (pc := 21) (v := (-1)) C dX7_leastSand_21 (by decide) ?_
    refine g_iret (pc := 22) C C2 dX7_leastSand_22 rfl (Nat.le_refl _) (Nat.le_refl _) ?_
    exact ⟨rfl, rfl, rfl, tr_off_rf _⟩
  · refine g_iload_n (pc := 11) (i := 2) (j := 2) C dX7_leastSand_11 rfl rfl ?_
    refine g_iconst (pc := 12) (v := 0) C dX7_leastSand_12 (by decide) ?_
    refine g_bipush (pc := 13) (v := 24) C dX7_leastSand_13 (by decide) ?_
    refine g_callS (pc := 15) C dX7_leastSand_15 lmX7_72 kcX7_within (by decide) (c_X7_within) rfl rfl (Nat.le_of_ble_eq_true rfl) ?_
    intro r9 sh9 I9 J9 hD9; obtain ⟨rfl, rfl, rfl, rfl⟩ := pm_Dq hD9
    try simp only [Option.toList_some, Option.toList_none, List.cons_append, List.nil_append]
    refine g_if_neB (pc := 18) (tgt := 23) C dX7_leastSand_18 (by decide) (fun h18 => ?_) (fun h18 => ?_)
    · exact absurd ⟨h8, h18⟩ hv
    · refine g_iconst (pc := 21) (v := (-1)) C dX7_leastSand_21 (by decide) ?_
      refine g_iret (pc := 22) C C2 dX7_leastSand_22 rfl (Nat.le_refl _) (Nat.le_refl _) ?_
      exact ⟨rfl, rfl, rfl, tr_off_rf _⟩

set_option maxHeartbeats 4000000 in
set_option maxRecDepth 100000 in
theorem c_X7_ropeFor0 {d : Nat} {x y : Int32} {I : pm_I} {J : pm_J} (hv : ¬ ((0 ≤ x ∧ x ≤ I 1 2 - 1) ∧ 0 ≤ y ∧ y ≤ 24)) : pm_M (d + 2) 0 0 yX7_ropeFor cX7_ropeFor 4 (some .int) [.ref 0, .int x, .int y] SHP I J (fun r sh2 I2 J2 => r = some (.int (-1)) ∧ sh2 = SHP ∧ J2 = J ∧ tr_off I I2) := by
  refine pm_start (own := RX7) (nm := "ropeFor") (by decide) rfl rfl (L := [(0, .ref 0), (1, .int x), (2, .int y)]) rfl (Nat.le_of_ble_eq_true rfl) (fun Γ C C2 => ?_)
  refine g_aload_n (pc := 0) (i := 0) (j := 0) C dX7_ropeFor_0 rfl rfl ?_
  refine g_getR (pc := 1) C dX7_ropeFor_1 lfX7_10 (by first | rfl | assumption) rfl ?_
  refine g_iload_n (pc := 4) (i := 1) (j := 1) C dX7_ropeFor_4 rfl rfl ?_
  refine g_callV (pc := 5) C dX7_ropeFor_5 lmX7_115 kcX5_has (by decide) (by first | rfl | assumption) (c_X5_has) rfl rfl (Nat.le_of_ble_eq_true rfl) ?_
  intro r9 sh9 I9 J9 hD9; obtain ⟨rfl, rfl, rfl, rfl⟩ := pm_Dq hD9
  try simp only [Option.toList_some, Option.toList_none, List.cons_append, List.nil_append]
  refine g_if_eqB (pc := 8) (tgt := 21) C dX7_ropeFor_8 (by decide) (fun h8 => ?_) (fun h8 => ?_)
  · refine g_iconst (pc := 21) (v := (-1)) C dX7_ropeFor_21 (by decide) ?_
    refine g_iret (pc := 22) C C2 dX7_ropeFor_22 rfl (Nat.le_refl _) (Nat.le_refl _) ?_
    exact ⟨rfl, rfl, rfl, tr_off_rf _⟩
  · refine g_iload_n (pc := 11) (i := 2) (j := 2) C dX7_ropeFor_11 rfl rfl ?_
    refine g_iconst (pc := 12) (v := 0) C dX7_ropeFor_12 (by decide) ?_
    refine g_bipush (pc := 13) (v := 24) C dX7_ropeFor_13 (by decide) ?_
    refine g_callS (pc := 15) C dX7_ropeFor_15 lmX7_72 kcX7_within (by decide) (c_X7_within) rfl rfl (Nat.le_of_ble_eq_true rfl) ?_
    intro r9 sh9 I9 J9 hD9; obtain ⟨rfl, rfl, rfl, rfl⟩ := pm_Dq hD9
    try simp only [Option.toList_some, Option.toList_none, List.cons_append, List.nil_append]
    refine g_if_neB (pc := 18) (tgt := 23) C dX7_ropeFor_18 (by decide) (fun h18 => ?_) (fun h18 => ?_)
    · exact absurd ⟨h8, h18⟩ hv
    · refine g_iconst (pc := 21) (v := (-1)) C dX7_ropeFor_21 (by decide) ?_
      refine g_iret (pc := 22) C C2 dX7_ropeFor_22 rfl (Nat.le_refl _) (Nat.le_refl _) ?_
      exact ⟨rfl, rfl, rfl, tr_off_rf _⟩

set_option maxHeartbeats 4000000 in
set_option maxRecDepth 100000 in
theorem c_X7_highest {d : Nat} {I : pm_I} {J : pm_J} {n : Nat} (hn : I 1 2 = nI n) (h6 : n ≤ 6) {t : Nat} (ht : I 1 3 = nI t) (ht96 : t ≤ 96) {h : Nat} (hh : h ≤ 48) : pm_M (d + 6) 0 0 yX7_highest cX7_highest 4 (some .int) [.ref 0, .int (nI h)] SHP I J (fun r sh2 I2 J2 => r = some (.int (bl_enc (tr_hi (fun b => tr_H I 0 t b (min h (96 - t))) n))) ∧ sh2 = SHP ∧ J2 = J ∧ tr_off I I2) := by
  refine pm_start (own := RX7) (nm := "highest") (by decide) rfl rfl (L := [(0, .ref 0), (1, .int (nI h))]) rfl (Nat.le_of_ble_eq_true rfl) (fun Γ C C2 => ?_)
  generalize hm : min h (96 - t) = m at C2
  have hloop : ∀ j, j ≤ n → ∀ I9, tr_In I t m 0 n I9 → pm_G Γ 0 0 26 [(0, .ref 0), (1, .int (nI h)), (2, .int (bl_enc (tr_hi (fun b => tr_H I 0 t b m) j))), (3, .int (nI j))] [] SHP I9 J := by
    refine pm_up (fun j => ∀ I9, tr_In I t m 0 n I9 → pm_G Γ 0 0 26 [(0, .ref 0), (1, .int (nI h)), (2, .int (bl_enc (tr_hi (fun b => tr_H I 0 t b m) j))), (3, .int (nI j))] [] SHP I9 J) n (fun j hj ih I9 hI9 => ?_)
    obtain ⟨f1, f2, f3, f4⟩ := tr_In_facts hI9 h6
    have hn9 : I9 1 2 = nI n := by rw [f1]; exact hn
    refine g_iload_n (pc := 26) (i := 3) (j := 3) C dX7_highest_26 rfl rfl ?_
    refine g_aload_n (pc := 27) (i := 0) (j := 0) C dX7_highest_27 rfl rfl ?_
    refine g_getR (pc := 28) C dX7_highest_28 lfX7_10 (by first | rfl | assumption) rfl ?_
    refine g_getI (pc := 31) C dX7_highest_31 lfX7_93 (by first | rfl | assumption) rfl ?_
    refine g_icmp_ge (pc := 34) (tgt := 88) C dX7_highest_34 (by decide) (fun h34 => ?_) (fun h34 => ?_)
    · have ej : j = n := by (try rw [hn9] at h34); have := (nI_leI (a := n) (b := j) (by omega) (by omega)).mp h34; omega
      subst ej
      refine g_iload_n (pc := 88) (i := 2) (j := 2) C dX7_highest_88 rfl rfl ?_
      refine g_iret (pc := 89) C C2 dX7_highest_89 rfl (Nat.le_refl _) (Nat.le_refl _) ?_
      exact ⟨rfl, rfl, rfl, hI9.1⟩
    · have hlt : j < n := by (try rw [hn9] at h34); exact Nat.lt_of_not_le (fun q => h34 ((nI_leI (a := n) (b := j) (by omega) (by omega)).mpr q))
      refine g_iload_n (pc := 37) (i := 2) (j := 2) C dX7_highest_37 rfl rfl ?_
      refine g_bipush (pc := 38) (v := (-3)) C dX7_highest_38 (by decide) ?_
      refine g_icmp_eq (pc := 40) (tgt := 80) C dX7_highest_40 (by decide) (fun h40 => ?_) (fun h40 => ?_)
      · refine g_iload_n (pc := 80) (i := 3) (j := 3) C dX7_highest_80 rfl rfl ?_
        refine g_istore_n (pc := 81) (i := 2) (L2 := [(0, _), (1, _), (2, _), (3, _)]) C dX7_highest_81 rfl (by decide) rfl ?_
        refine g_iinc (pc := 82) (j := 3) (v := _ + 1) (L2 := [(0, _), (1, _), (2, _), (3, _)]) C dX7_highest_82 rfl rfl (by decide) rfl ?_
        refine g_goto (pc := 85) (tgt := 26) C dX7_highest_85 (by decide) ?_
        refine pm_Geq (ih hlt I9 hI9) ?_ rfl rfl rfl
        have g1 := f4 j hlt m (Nat.le_refl _)
        have g2 := fun q (hq : q < n) => f4 q hq m (Nat.le_refl _)
        have e3 := fun q (h : tr_hi (fun b => tr_H I 0 t b m) j = some q) => nI_ne3 (m := q) (by have := tr_hi_lt h; omega)
        clear C C2 ih
        grind [tr_hi, bl_enc, nI_1]
      · obtain ⟨q, eq⟩ := bl_enc_some h40
        have hq := tr_hi_lt eq
        simp only [eq, bl_enc]
        refine g_aload_n (pc := 43) (i := 0) (j := 0) C dX7_highest_43 rfl rfl ?_
        refine g_getR (pc := 44) C dX7_highest_44 lfX7_38 (by first | rfl | assumption) rfl ?_
        refine g_getR (pc := 47) C dX7_highest_47 lfX7_167 (by first | rfl | assumption) rfl ?_
        refine g_iload_n (pc := 50) (i := 3) (j := 3) C dX7_highest_50 rfl rfl ?_
        refine g_aald (pc := 51) C dX7_highest_51 (by first | rfl | assumption) (fun _ => rfl) rfl (by decide) (by first | rfl | assumption) (rsH j (by omega)) ?_
        refine g_aload_n (pc := 52) (i := 0) (j := 0) C dX7_highest_52 rfl rfl ?_
        refine g_getR (pc := 53) C dX7_highest_53 lfX7_38 (by first | rfl | assumption) rfl ?_
        refine g_getI (pc := 56) C dX7_highest_56 lfX7_170 (by first | rfl | assumption) rfl ?_
        refine g_iald (pc := 59) (j := m) C dX7_highest_59 (shH j (by omega)) (by decide) hI9.2.2.1 (by omega) ?_
        refine g_aload_n (pc := 60) (i := 0) (j := 0) C dX7_highest_60 rfl rfl ?_
        refine g_getR (pc := 61) C dX7_highest_61 lfX7_38 (by first | rfl | assumption) rfl ?_
        refine g_getR (pc := 64) C dX7_highest_64 lfX7_167 (by first | rfl | assumption) rfl ?_
        refine g_iload_n (pc := 67) (i := 2) (j := 2) C dX7_highest_67 rfl rfl ?_
        refine g_aald (pc := 68) C dX7_highest_68 (by first | rfl | assumption) (fun _ => rfl) rfl (by decide) (by first | rfl | assumption) (rsH q (by omega)) ?_
        refine g_aload_n (pc := 69) (i := 0) (j := 0) C dX7_highest_69 rfl rfl ?_
        refine g_getR (pc := 70) C dX7_highest_70 lfX7_38 (by first | rfl | assumption) rfl ?_
        refine g_getI (pc := 73) C dX7_highest_73 lfX7_170 (by first | rfl | assumption) rfl ?_
        refine g_iald (pc := 76) (j := m) C dX7_highest_76 (shH q (by omega)) (by decide) hI9.2.2.1 (by omega) ?_
        refine g_icmp_le (pc := 77) (tgt := 82) C dX7_highest_77 (by decide) (fun h77 => ?_) (fun h77 => ?_)
        · refine g_iinc (pc := 82) (j := 3) (v := _ + 1) (L2 := [(0, _), (1, _), (2, _), (3, _)]) C dX7_highest_82 rfl rfl (by decide) rfl ?_
          refine g_goto (pc := 85) (tgt := 26) C dX7_highest_85 (by decide) ?_
          refine pm_Geq (ih hlt I9 hI9) ?_ rfl rfl rfl
          have g1 := f4 j hlt m (Nat.le_refl _)
          have g2 := fun q (hq : q < n) => f4 q hq m (Nat.le_refl _)
          have e3 := fun q (h : tr_hi (fun b => tr_H I 0 t b m) j = some q) => nI_ne3 (m := q) (by have := tr_hi_lt h; omega)
          clear C C2 ih
          grind [tr_hi, bl_enc, nI_1]
        · refine g_iload_n (pc := 80) (i := 3) (j := 3) C dX7_highest_80 rfl rfl ?_
          refine g_istore_n (pc := 81) (i := 2) (L2 := [(0, _), (1, _), (2, _), (3, _)]) C dX7_highest_81 rfl (by decide) rfl ?_
          refine g_iinc (pc := 82) (j := 3) (v := _ + 1) (L2 := [(0, _), (1, _), (2, _), (3, _)]) C dX7_highest_82 rfl rfl (by decide) rfl ?_
          refine g_goto (pc := 85) (tgt := 26) C dX7_highest_85 (by decide) ?_
          refine pm_Geq (ih hlt I9 hI9) ?_ rfl rfl rfl
          have g1 := f4 j hlt m (Nat.le_refl _)
          have g2 := fun q (hq : q < n) => f4 q hq m (Nat.le_refl _)
          have e3 := fun q (h : tr_hi (fun b => tr_H I 0 t b m) j = some q) => nI_ne3 (m := q) (by have := tr_hi_lt h; omega)
          clear C C2 ih
          grind [tr_hi, bl_enc, nI_1]
  refine g_iload_n (pc := 0) (i := 1) (j := 1) C dX7_highest_0 rfl rfl ?_
  refine g_iconst (pc := 1) (v := 0) C dX7_highest_1 (by decide) ?_
  refine g_bipush (pc := 2) (v := 48) C dX7_highest_2 (by decide) ?_
  refine g_callS (pc := 4) C dX7_highest_4 lmX7_72 kcX7_within (by decide) (c_X7_within) rfl rfl (Nat.le_of_ble_eq_true rfl) ?_
  intro r9 sh9 I9 J9 hD9; obtain ⟨rfl, rfl, rfl, rfl⟩ := pm_Dq hD9
  try simp only [Option.toList_some, Option.toList_none, List.cons_append, List.nil_append]
  refine g_if_neB (pc := 7) (tgt := 12) C dX7_highest_7 (by decide) (fun h7 => ?_) (fun h7 => absurd ⟨by exact nI_pos' (by omega), by exact nI_le (b := 48) hh (by decide)⟩ h7)
  refine g_aload_n (pc := 12) (i := 0) (j := 0) C dX7_highest_12 rfl rfl ?_
  refine g_getR (pc := 13) C dX7_highest_13 lfX7_38 (by first | rfl | assumption) rfl ?_
  refine g_iload_n (pc := 16) (i := 1) (j := 1) C dX7_highest_16 rfl rfl ?_
  refine g_iconst (pc := 17) (v := 0) C dX7_highest_17 (by decide) ?_
  refine g_callV (pc := 18) C dX7_highest_18 lmX7_163 kcX6_run (by decide) (by first | rfl | assumption) (c_X6_run (t := t) (h := h) hn h6 ht ht96 hh) rfl rfl (Nat.le_of_ble_eq_true rfl) ?_
  rintro r9 sh9 I9 J9 ⟨e1, e2, e3, hI9⟩
  try simp only [Option.toList_some, Option.toList_none, List.cons_append, List.nil_append]
  subst e1 e2
  obtain rfl := e3.symm
  obtain ⟨f1, f2, f3, f4⟩ := tr_In_facts hI9 h6
  try simp only [Option.toList_none, List.nil_append]
  refine g_bipush (pc := 21) (v := (-3)) C dX7_highest_21 (by decide) ?_
  refine g_istore_n (pc := 23) (i := 2) (L2 := [(0, _), (1, _), (2, _)]) C dX7_highest_23 rfl (by decide) rfl ?_
  refine g_iconst (pc := 24) (v := 0) C dX7_highest_24 (by decide) ?_
  refine g_istore_n (pc := 25) (i := 3) (L2 := [(0, _), (1, _), (2, _), (3, _)]) C dX7_highest_25 rfl (by decide) rfl ?_
  rw [hm] at hI9
  exact hloop 0 (Nat.zero_le _) I9 hI9

set_option maxHeartbeats 4000000 in
set_option maxRecDepth 100000 in
theorem c_X7_highest0 {d : Nat} {x : Int32} {I : pm_I} {J : pm_J} (hv : ¬ (0 ≤ x ∧ x ≤ 48)) : pm_M (d + 1) 0 0 yX7_highest cX7_highest 4 (some .int) [.ref 0, .int x] SHP I J (fun r sh2 I2 J2 => r = some (.int (-1)) ∧ sh2 = SHP ∧ J2 = J ∧ tr_off I I2) := by
  refine pm_start (own := RX7) (nm := "highest") (by decide) rfl rfl (L := [(0, .ref 0), (1, .int x)]) rfl (Nat.le_of_ble_eq_true rfl) (fun Γ C C2 => ?_)
  refine g_iload_n (pc := 0) (i := 1) (j := 1) C dX7_highest_0 rfl rfl ?_
  refine g_iconst (pc := 1) (v := 0) C dX7_highest_1 (by decide) ?_
  refine g_bipush (pc := 2) (v := 48) C dX7_highest_2 (by decide) ?_
  refine g_callS (pc := 4) C dX7_highest_4 lmX7_72 kcX7_within (by decide) (c_X7_within) rfl rfl (Nat.le_of_ble_eq_true rfl) ?_
  intro r9 sh9 I9 J9 hD9; obtain ⟨rfl, rfl, rfl, rfl⟩ := pm_Dq hD9
  try simp only [Option.toList_some, Option.toList_none, List.cons_append, List.nil_append]
  refine g_if_neB (pc := 7) (tgt := 12) C dX7_highest_7 (by decide) (fun h7 => ?_) (fun h7 => ?_)
  · exact absurd h7 hv
  · refine g_iconst (pc := 10) (v := (-1)) C dX7_highest_10 (by decide) ?_
    refine g_iret (pc := 11) C C2 dX7_highest_11 rfl (Nat.le_refl _) (Nat.le_refl _) ?_
    exact ⟨rfl, rfl, rfl, tr_off_rf _⟩

set_option maxHeartbeats 4000000 in
set_option maxRecDepth 100000 in
theorem c_X6_pairsWithGift {d : Nat} {I : pm_I} {J : pm_J} {I0 : pm_I} {n t m i j : Nat} {x : Int32} (hn : I0 1 2 = nI n) (h6 : n ≤ 6) (ht : I0 1 3 = nI t) (htm : t + m ≤ 96) (h48 : m ≤ 48) (hi : i < n) (hj : j < n) (hij : i ≠ j) (hI : tr_In I0 t m 0 n I) : pm_M (d + 5) 0 0 yX6_pairsWithGift cX6_pairsWithGift 7 (some .int) [.ref 48, .int (nI i), .int (nI j), .int x] SHP I J (fun r sh2 I2 J2 => r = some (.int (hp_Q I0 t m n i j x)) ∧ sh2 = SHP ∧ J2 = J ∧ tr_In I0 t m 0 n I2) := by
  refine pm_start (own := RX6) (nm := "pairsWithGift") (by decide) rfl rfl (L := [(0, .ref 48), (1, .int (nI i)), (2, .int (nI j)), (3, .int x)]) rfl (Nat.le_of_ble_eq_true rfl) (fun Γ C C2 => ?_)
  obtain ⟨f1, f2, f3, f4⟩ := tr_In_facts hI h6
  have sBi := shB i (by omega)
  have sPi := shP i (by omega)
  have sBj := shB j (by omega)
  have sPj := shP j (by omega)
  have s0 : tr_St I0 t m 0 n (bl_L I0) I := hI
  refine g_aload_n (pc := 0) (i := 0) (j := 0) C dX6_pairsWithGift_0 rfl rfl ?_
  refine g_getR (pc := 1) C dX6_pairsWithGift_1 lfX6_33 (by first | rfl | assumption) rfl ?_
  refine g_getR (pc := 4) C dX6_pairsWithGift_4 lfX6_51 (by first | rfl | assumption) rfl ?_
  refine g_iload_n (pc := 7) (i := 1) (j := 1) C dX6_pairsWithGift_7 rfl rfl ?_
  refine g_aald (pc := 8) C dX6_pairsWithGift_8 (by first | rfl | assumption) (fun _ => rfl) rfl (by decide) (by first | rfl | assumption) (rsB i (by omega)) ?_
  refine g_getR (pc := 9) C dX6_pairsWithGift_9 lfX6_55 (by first | rfl | assumption) rfl ?_
  refine g_bipush (pc := 12) (v := 6) C dX6_pairsWithGift_12 (by decide) ?_
  refine g_iald (pc := 14) C dX6_pairsWithGift_14 (by first | rfl | assumption) (by decide) (by first | rfl | assumption) (by first | assumption | decide | omega) ?_
  refine g_istore (pc := 15) (L2 := [(0, _), (1, _), (2, _), (3, _), (4, _)]) C dX6_pairsWithGift_15 (by decide) rfl ?_
  refine g_aload_n (pc := 17) (i := 0) (j := 0) C dX6_pairsWithGift_17 rfl rfl ?_
  refine g_getR (pc := 18) C dX6_pairsWithGift_18 lfX6_33 (by first | rfl | assumption) rfl ?_
  refine g_getR (pc := 21) C dX6_pairsWithGift_21 lfX6_51 (by first | rfl | assumption) rfl ?_
  refine g_iload_n (pc := 24) (i := 2) (j := 2) C dX6_pairsWithGift_24 rfl rfl ?_
  refine g_aald (pc := 25) C dX6_pairsWithGift_25 (by first | rfl | assumption) (fun _ => rfl) rfl (by decide) (by first | rfl | assumption) (rsB j (by omega)) ?_
  refine g_getR (pc := 26) C dX6_pairsWithGift_26 lfX6_55 (by first | rfl | assumption) rfl ?_
  refine g_bipush (pc := 29) (v := 6) C dX6_pairsWithGift_29 (by decide) ?_
  refine g_iald (pc := 31) C dX6_pairsWithGift_31 (by first | rfl | assumption) (by decide) (by first | rfl | assumption) (by first | assumption | decide | omega) ?_
  refine g_istore (pc := 32) (L2 := [(0, _), (1, _), (2, _), (3, _), (4, _), (5, _)]) C dX6_pairsWithGift_32 (by decide) rfl ?_
  refine g_aload_n (pc := 34) (i := 0) (j := 0) C dX6_pairsWithGift_34 rfl rfl ?_
  refine g_iload_n (pc := 35) (i := 1) (j := 1) C dX6_pairsWithGift_35 rfl rfl ?_
  refine g_bipush (pc := 36) (v := 6) C dX6_pairsWithGift_36 (by decide) ?_
  refine g_iload (pc := 38) (j := 4) C dX6_pairsWithGift_38 rfl ?_
  refine g_iload_n (pc := 40) (i := 3) (j := 3) C dX6_pairsWithGift_40 rfl rfl ?_
  refine g_isub (pc := 41) C dX6_pairsWithGift_41 ?_
  refine g_callV (pc := 42) C dX6_pairsWithGift_42 lmX6_59 kcX6_followWith (by decide) (by first | rfl | assumption) (c_X6_followWith (p := 6) (t := t) (m := m) (by omega) (by decide) (by rw [s0.1 1 (by decide)]; exact ht) s0.2.2.1 htm h48) rfl rfl (Nat.le_of_ble_eq_true rfl) ?_
  intro r9 sh9 I9 J9 hD9; obtain ⟨rfl, rfl, rfl, rfl⟩ := pm_Dq hD9
  try simp only [Option.toList_some, Option.toList_none, List.cons_append, List.nil_append]
  have s1 := tr_St_fw (i := i) (v := I (5 + 2 * i) 6 - x) (by omega) h6 s0
  generalize tr_fw I i (tr_ev (I 2) (I 48 4) t (upd (bl_cp (I 50) (bl_L I i) 9) 6 (I (5 + 2 * i) 6 - x))) m = Ia at s1 ⊢
  refine g_aload_n (pc := 45) (i := 0) (j := 0) C dX6_pairsWithGift_45 rfl rfl ?_
  refine g_iload_n (pc := 46) (i := 2) (j := 2) C dX6_pairsWithGift_46 rfl rfl ?_
  refine g_bipush (pc := 47) (v := 6) C dX6_pairsWithGift_47 (by decide) ?_
  refine g_iload (pc := 49) (j := 5) C dX6_pairsWithGift_49 rfl ?_
  refine g_iload_n (pc := 51) (i := 3) (j := 3) C dX6_pairsWithGift_51 rfl rfl ?_
  refine g_iadd (pc := 52) C dX6_pairsWithGift_52 ?_
  refine g_callV (pc := 53) C dX6_pairsWithGift_53 lmX6_59 kcX6_followWith (by decide) (by first | rfl | assumption) (c_X6_followWith (p := 6) (t := t) (m := m) (by omega) (by decide) (by rw [s1.1 1 (by decide)]; exact ht) s1.2.2.1 htm h48) rfl rfl (Nat.le_of_ble_eq_true rfl) ?_
  intro r9 sh9 I9 J9 hD9; obtain ⟨rfl, rfl, rfl, rfl⟩ := pm_Dq hD9
  try simp only [Option.toList_some, Option.toList_none, List.cons_append, List.nil_append]
  have s2 := tr_St_fw (i := j) (v := I (5 + 2 * j) 6 + x) (by omega) h6 s1
  generalize tr_fw Ia j (tr_ev (Ia 2) (Ia 48 4) t (upd (bl_cp (Ia 50) (bl_L Ia j) 9) 6 (I (5 + 2 * j) 6 + x))) m = Ib at s2 ⊢
  refine g_aload_n (pc := 56) (i := 0) (j := 0) C dX6_pairsWithGift_56 rfl rfl ?_
  refine g_callV (pc := 57) C dX6_pairsWithGift_57 lmX6_100 kcX6_pairsToCome (by decide) (by first | rfl | assumption) (c_X6_pairsToCome (m := m) (by rw [s2.1 1 (by decide)]; exact hn) h6 (fun b hb k hk => (s2.2.2.2 b hb k hk).1) s2.2.2.1 h48) rfl rfl (Nat.le_of_ble_eq_true rfl) ?_
  intro r9 sh9 I9 J9 hD9; obtain ⟨rfl, rfl, rfl, rfl⟩ := pm_Dq hD9
  try simp only [Option.toList_some, Option.toList_none, List.cons_append, List.nil_append]
  refine g_istore (pc := 60) (L2 := [(0, _), (1, _), (2, _), (3, _), (4, _), (5, _), (6, _)]) C dX6_pairsWithGift_60 (by decide) rfl ?_
  refine g_aload_n (pc := 62) (i := 0) (j := 0) C dX6_pairsWithGift_62 rfl rfl ?_
  refine g_iload_n (pc := 63) (i := 1) (j := 1) C dX6_pairsWithGift_63 rfl rfl ?_
  refine g_bipush (pc := 64) (v := 6) C dX6_pairsWithGift_64 (by decide) ?_
  refine g_iload (pc := 66) (j := 4) C dX6_pairsWithGift_66 rfl ?_
  refine g_callV (pc := 68) C dX6_pairsWithGift_68 lmX6_59 kcX6_followWith (by decide) (by first | rfl | assumption) (c_X6_followWith (p := 6) (t := t) (m := m) (by omega) (by decide) (by rw [s2.1 1 (by decide)]; exact ht) s2.2.2.1 htm h48) rfl rfl (Nat.le_of_ble_eq_true rfl) ?_
  intro r9 sh9 I9 J9 hD9; obtain ⟨rfl, rfl, rfl, rfl⟩ := pm_Dq hD9
  try simp only [Option.toList_some, Option.toList_none, List.cons_append, List.nil_append]
  have s3 := tr_St_fw (i := i) (v := I (5 + 2 * i) 6) (by omega) h6 s2
  generalize tr_fw Ib i (tr_ev (Ib 2) (Ib 48 4) t (upd (bl_cp (Ib 50) (bl_L Ib i) 9) 6 (I (5 + 2 * i) 6))) m = Ic at s3 ⊢
  refine g_aload_n (pc := 71) (i := 0) (j := 0) C dX6_pairsWithGift_71 rfl rfl ?_
  refine g_iload_n (pc := 72) (i := 2) (j := 2) C dX6_pairsWithGift_72 rfl rfl ?_
  refine g_bipush (pc := 73) (v := 6) C dX6_pairsWithGift_73 (by decide) ?_
  refine g_iload (pc := 75) (j := 5) C dX6_pairsWithGift_75 rfl ?_
  refine g_callV (pc := 77) C dX6_pairsWithGift_77 lmX6_59 kcX6_followWith (by decide) (by first | rfl | assumption) (c_X6_followWith (p := 6) (t := t) (m := m) (by omega) (by decide) (by rw [s3.1 1 (by decide)]; exact ht) s3.2.2.1 htm h48) rfl rfl (Nat.le_of_ble_eq_true rfl) ?_
  intro r9 sh9 I9 J9 hD9; obtain ⟨rfl, rfl, rfl, rfl⟩ := pm_Dq hD9
  try simp only [Option.toList_some, Option.toList_none, List.cons_append, List.nil_append]
  have s4 := tr_St_fw (i := j) (v := I (5 + 2 * j) 6) (by omega) h6 s3
  refine g_iload (pc := 80) (j := 6) C dX6_pairsWithGift_80 rfl ?_
  refine g_iret (pc := 82) C C2 dX6_pairsWithGift_82 rfl (Nat.le_refl _) (Nat.le_refl _) ?_
  have eLi : I (5 + 2 * i) = bl_L I0 i := f3 i hi
  have eLj : I (5 + 2 * j) = bl_L I0 j := f3 j hj
  refine ⟨?_, rfl, rfl, tr_St_same s4 (fun b hb p hp => ?_)⟩
  · congr 2
    unfold hp_Q
    congr 2
    rw [s2.1 1 (by decide)]
    refine tr_s2_congr (fun b hb => by show Ib (5 + 2 * b) 2 = _; rw [s2.1 (5 + 2 * b) (by omega)]) m (fun k hk b hb => ?_)
    unfold hp_F
    rw [eLi, eLj]
  · rw [eLi, eLj]
    unfold upd
    grind
