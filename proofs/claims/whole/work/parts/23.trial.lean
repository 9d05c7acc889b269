/-! The trial: how each balloon goes, hour by hour -/
/-- a balloon behind k hours: warmths w, so much colder, from the hour t on -/
def tr_ev (w : Nat → Int32) (c : Int32) (t : Nat) (f : Nat → Int32) : Nat → Nat → Int32
  | 0 => f
  | k + 1 => bl_pass (tr_ev w c t f k) (w ((t + k) % 24) - c) (nI ((t + k) % 24))
theorem upd_congr {f g : Nat → Int32} {x y : Int32} {k : Nat} (h : ∀ p, p < 9 → f p = g p) (hxy : x = y) : ∀ p, p < 9 → upd f k x p = upd g k y p := by
  intro p hp
  unfold upd
  split
  · exact hxy
  · exact h p hp
theorem bl_lift_congr {f g : Nat → Int32} {t : Int32} (h : ∀ p, p < 9 → f p = g p) : bl_lift f t = bl_lift g t := by
  unfold bl_lift
  rw [h 0 (by decide), h 5 (by decide)]
theorem bl_weight_congr {f g : Nat → Int32} (h : ∀ p, p < 9 → f p = g p) : bl_weight f = bl_weight g := by
  unfold bl_weight
  rw [h 6 (by decide), h 7 (by decide), h 8 (by decide), h 1 (by decide)]
theorem bl_target_congr {f g : Nat → Int32} {t : Int32} (h : ∀ p, p < 9 → f p = g p) : bl_target f t = bl_target g t := by
  unfold bl_target
  rw [bl_lift_congr h, bl_weight_congr h, h 0 (by decide), h 4 (by decide)]
theorem bl_leaks_congr {f g : Nat → Int32} {t : Int32} (h : ∀ p, p < 9 → f p = g p) : bl_leaks f t = bl_leaks g t := by
  unfold bl_leaks
  rw [h 0 (by decide)]
theorem bl_pass_congr {f g : Nat → Int32} {t h0 : Int32} (h : ∀ p, p < 9 → f p = g p) : ∀ p, p < 9 → bl_pass f t h0 p = bl_pass g t h0 p := by
  have h1 : ∀ p, p < 9 → bl_p1 f t p = bl_p1 g t p := upd_congr h (by rw [h 3 (by decide), bl_target_congr h])
  have h2 : ∀ p, p < 9 → bl_p2 (bl_p1 f t) h0 p = bl_p2 (bl_p1 g t) h0 p := upd_congr h1 (by rw [h1 5 (by decide), bl_leaks_congr h1])
  exact upd_congr h2 (by rw [h2 7 (by decide), h2 8 (by decide)])
theorem tr_ev_congr {w : Nat → Int32} {c : Int32} {t : Nat} {f g : Nat → Int32} (h : ∀ p, p < 9 → f p = g p) : ∀ k p, p < 9 → tr_ev w c t f k p = tr_ev w c t g k p
  | 0 => h
  | k + 1 => bl_pass_congr (tr_ev_congr h k)
/-- what lies outside the trial stays -/
def tr_off (I I2 : pm_I) : Prop := ∀ a, (a < 48 ∨ 65 ≤ a) → I2 a = I a
def tr_fw (I : pm_I) (i : Nat) (g : Nat → Nat → Int32) (m : Nat) : pm_I := pm_s (pm_s (pm_s I 50 (g m)) (52 + i) (fun k => if k ≤ m then g k 3 else I (52 + i) k)) (59 + i) (fun k => if k ≤ m then g k 5 else I (59 + i) k)
theorem tr_fw_off {I : pm_I} {i m a : Nat} {g : Nat → Nat → Int32} (h1 : a ≠ 50) (h2 : a ≠ 52 + i) (h3 : a ≠ 59 + i) : tr_fw I i g m a = I a := by
  unfold tr_fw
  rw [pm_s_off _ _ _ _ h3, pm_s_off _ _ _ _ h2, pm_s_off _ _ _ _ h1]
theorem tr_fw_50 {I : pm_I} {i m : Nat} {g : Nat → Nat → Int32} (hi : i < 6) : tr_fw I i g m 50 = g m := by
  unfold tr_fw
  rw [pm_s_off _ _ _ _ (by omega), pm_s_off _ _ _ _ (by omega), pm_s_at]
theorem tr_fw_h {I : pm_I} {i m k : Nat} {g : Nat → Nat → Int32} (hk : k ≤ m) : tr_fw I i g m (52 + i) k = g k 3 := by
  unfold tr_fw
  rw [pm_s_off _ _ _ _ (by omega), pm_s_at, if_pos hk]
theorem tr_fw_g {I : pm_I} {i m k : Nat} {g : Nat → Nat → Int32} (hk : k ≤ m) : tr_fw I i g m (59 + i) k = g k 5 := by
  unfold tr_fw
  rw [pm_s_at, if_pos hk]
theorem tr_fw_next {I : pm_I} {i j : Nat} {g : Nat → Nat → Int32} (hi : i < 6) : pm_u (pm_u (pm_s (tr_fw I i g j) 50 (g (j + 1))) (52 + i) (j + 1) (g (j + 1) 3)) (59 + i) (j + 1) (g (j + 1) 5) = tr_fw I i g (j + 1) := by
  funext a
  by_cases h3 : a = 59 + i
  · subst h3
    simp only [pm_u_s, pm_s_at, tr_fw]
    rw [pm_s_off _ _ _ _ (by omega), pm_s_off _ _ _ _ (by omega), pm_s_at]
    funext k
    unfold upd
    grind
  · by_cases h2 : a = 52 + i
    · subst h2
      simp only [pm_u_s, pm_s_at, tr_fw]
      rw [pm_s_off _ _ _ _ h3, pm_s_at, pm_s_off _ _ _ _ h3, pm_s_at, pm_s_off _ _ _ _ (by omega), pm_s_off _ _ _ _ h3, pm_s_at]
      funext k
      unfold upd
      grind
    · simp only [pm_u_s, tr_fw]
      rw [pm_s_off _ _ _ _ h3, pm_s_off _ _ _ _ h2, pm_s_off _ _ _ _ h3, pm_s_off _ _ _ _ h2]
      by_cases h1 : a = 50
      · subst h1
        rw [pm_s_at, pm_s_at]
      · rw [pm_s_off _ _ _ _ h1, pm_s_off _ _ _ _ h1, pm_s_off _ _ _ _ h3, pm_s_off _ _ _ _ h2, pm_s_off _ _ _ _ h1]
theorem tr_fw_0 {I : pm_I} {i : Nat} {f : Nat → Int32} {g : Nat → Nat → Int32} (hi : i < 6) (hf : g 0 = f) : pm_u (pm_u (pm_s I 50 f) (52 + i) 0 (f 3)) (59 + i) 0 (f 5) = tr_fw I i g 0 := by
  subst hf
  funext a
  by_cases h3 : a = 59 + i
  · subst h3
    simp only [pm_u_s, pm_s_at, tr_fw]
    rw [pm_s_off _ _ _ _ (by omega), pm_s_off _ _ _ _ (by omega)]
    funext k
    unfold upd
    grind
  · by_cases h2 : a = 52 + i
    · subst h2
      simp only [pm_u_s, pm_s_at, tr_fw]
      rw [pm_s_off _ _ _ _ h3, pm_s_at, pm_s_off _ _ _ _ h3, pm_s_at, pm_s_off _ _ _ _ (by omega)]
      funext k
      unfold upd
      grind
    · simp only [pm_u_s, tr_fw]
      rw [pm_s_off _ _ _ _ h3, pm_s_off _ _ _ _ h2, pm_s_off _ _ _ _ h3, pm_s_off _ _ _ _ h2]
theorem nI_add1 (a b : Nat) : nI a + nI (b + 1) - 1 = nI (a + b) := by
  rw [nI_add, show a + (b + 1) = (a + b) + 1 by omega, nI_pred]
/-- how many i touches behind k hours, in column c: heights Hf -/
def tr_ti (B Hf : Nat → Nat → Int32) (gap : Int32) (i : Nat) (c : Int32) (k : Nat) : Nat → Nat
  | 0 => 0
  | j + 1 => if j ≠ i ∧ B j 2 = c ∧ bl_near (Hf i k) (Hf j k) gap then tr_ti B Hf gap i c k j + 1 else tr_ti B Hf gap i c k j
theorem tr_ti_le {B Hf : Nat → Nat → Int32} {gap : Int32} {i : Nat} {c : Int32} {k : Nat} : ∀ n, tr_ti B Hf gap i c k n ≤ n
  | 0 => Nat.le_refl _
  | j + 1 => by
    have := tr_ti_le (B := B) (Hf := Hf) (gap := gap) (i := i) (c := c) (k := k) j
    unfold tr_ti
    split <;> omega
theorem nI_gt0 {n : Nat} (h : n < 2 ^ 31) : (nI n ≤ 0) ↔ n = 0 := by
  have h1 := nI_leI (a := n) (b := 0) h (by decide)
  have h2 : nI 0 = 0 := nI_0
  rw [h2] at h1
  rw [h1]
  omega
set_option maxHeartbeats 4000000 in
set_option maxRecDepth 100000 in
theorem c_X6_step {d : Nat} {I : pm_I} {J : pm_J} {t k : Nat} (ht : I 1 3 = nI t) (hk : t + k < 200)  : pm_M (d + 3) 0 0 yX6_step cX6_step 3 (none : Option Jvm.ClassFile.FieldType) [.ref 48, .int (nI (k + 1))] SHP I J (pm_D none SHP (pm_s I 50 (bl_pass (I 50) (I 2 ((t + k) % 24) - I 48 4) (nI ((t + k) % 24)))) J) := by
  refine pm_start (own := RX6) (nm := "step") (by decide) rfl rfl (L := [(0, .ref 48), (1, .int (nI (k + 1)))]) rfl (Nat.le_of_ble_eq_true rfl) (fun Γ C C2 => ?_)
  refine g_aload_n (pc := 0) (i := 0) (j := 0) C dX6_step_0 rfl rfl ?_
  refine g_getR (pc := 1) C dX6_step_1 lfX6_33 (by first | rfl | assumption) rfl ?_
  refine g_getI (pc := 4) C dX6_step_4 lfX6_37 (by first | rfl | assumption) rfl ?_
  refine g_iload_n (pc := 7) (i := 1) (j := 1) C dX6_step_7 rfl rfl ?_
  refine g_iadd (pc := 8) C dX6_step_8 ?_
  refine g_iconst (pc := 9) (v := 1) C dX6_step_9 (by decide) ?_
  refine g_isub (pc := 10) C dX6_step_10 ?_
  rw [ht, nI_add1]
  refine g_bipush (pc := 11) (v := 24) C dX6_step_11 (by decide) ?_
  refine g_irem (pc := 13) C dX6_step_13 (by first | decide | assumption) ?_
  rw [show nI (t + k) - nI (t + k) / 24 * 24 = nI ((t + k) % 24) from pk_rem (d := 24) (by omega) (by decide) (by decide)]
  refine g_istore_n (pc := 14) (i := 2) (L2 := [(0, _), (1, _), (2, _)]) C dX6_step_14 rfl (by decide) rfl ?_
  refine g_aload_n (pc := 15) (i := 0) (j := 0) C dX6_step_15 rfl rfl ?_
  refine g_getR (pc := 16) C dX6_step_16 lfX6_12 (by first | rfl | assumption) rfl ?_
  refine g_aload_n (pc := 19) (i := 0) (j := 0) C dX6_step_19 rfl rfl ?_
  refine g_getR (pc := 20) C dX6_step_20 lfX6_33 (by first | rfl | assumption) rfl ?_
  refine g_getR (pc := 23) C dX6_step_23 lfX6_75 (by first | rfl | assumption) rfl ?_
  refine g_iload_n (pc := 26) (i := 2) (j := 2) C dX6_step_26 rfl rfl ?_
  have e24 : (t + k) % 24 < 24 := Nat.mod_lt _ (by decide)
  refine g_iald (pc := 27) C dX6_step_27 (by first | rfl | assumption) (by decide) (by first | rfl | assumption) (by first | assumption | decide | omega) ?_
  refine g_aload_n (pc := 28) (i := 0) (j := 0) C dX6_step_28 rfl rfl ?_
  refine g_getI (pc := 29) C dX6_step_29 lfX6_26 (by first | rfl | assumption) rfl ?_
  refine g_isub (pc := 32) C dX6_step_32 ?_
  refine g_iload_n (pc := 33) (i := 2) (j := 2) C dX6_step_33 rfl rfl ?_
  refine g_callV (pc := 34) C dX6_step_34 lmX6_78 kcX1_passHour (by decide) (by first | rfl | assumption) (c_X1_passHour (a := 49) (q := 50) rfl rfl) rfl rfl (Nat.le_of_ble_eq_true rfl) ?_
  intro r9 sh9 I9 J9 hD9; obtain ⟨rfl, rfl, rfl, rfl⟩ := pm_Dq hD9
  try simp only [Option.toList_some, Option.toList_none, List.cons_append, List.nil_append]
  refine g_vret (pc := 37) C C2 dX6_step_37 (Nat.le_refl _) (Nat.le_refl _) ?_
  exact ⟨rfl, rfl, rfl, rfl⟩

set_option maxHeartbeats 4000000 in
set_option maxRecDepth 100000 in
theorem c_X6_note {d : Nat} {i k : Nat} (hi : i < 6) (hk : k < 49) {I : pm_I} {J : pm_J} : pm_M d 0 0 yX6_note cX6_note 3 (none : Option Jvm.ClassFile.FieldType) [.ref 48, .int (nI i), .int (nI k)] SHP I J (pm_D none SHP (pm_u (pm_u I (52 + i) k (I 50 3)) (59 + i) k (I 50 5)) J) := by
  refine pm_start (own := RX6) (nm := "note") (by decide) rfl rfl (L := [(0, .ref 48), (1, .int (nI i)), (2, .int (nI k))]) rfl (Nat.le_of_ble_eq_true rfl) (fun Γ C C2 => ?_)
  refine g_aload_n (pc := 0) (i := 0) (j := 0) C dX6_note_0 rfl rfl ?_
  refine g_getR (pc := 1) C dX6_note_1 lfX6_20 (by first | rfl | assumption) rfl ?_
  refine g_iload_n (pc := 4) (i := 1) (j := 1) C dX6_note_4 rfl rfl ?_
  refine g_aald (pc := 5) C dX6_note_5 (by first | rfl | assumption) (fun _ => rfl) rfl (by decide) (by first | rfl | assumption) (rsH i hi) ?_
  refine g_iload_n (pc := 6) (i := 2) (j := 2) C dX6_note_6 rfl rfl ?_
  refine g_aload_n (pc := 7) (i := 0) (j := 0) C dX6_note_7 rfl rfl ?_
  refine g_getR (pc := 8) C dX6_note_8 lfX6_12 (by first | rfl | assumption) rfl ?_
  refine g_getR (pc := 11) C dX6_note_11 lfX6_55 (by first | rfl | assumption) rfl ?_
  refine g_iconst (pc := 14) (v := 3) C dX6_note_14 (by decide) ?_
  refine g_iald (pc := 15) C dX6_note_15 (by first | rfl | assumption) (by decide) (by first | rfl | assumption) (by first | assumption | decide | omega) ?_
  refine g_iast (pc := 16) C dX6_note_16 (shH i hi) (by decide) (by first | rfl | assumption) (by first | assumption | decide | omega) ?_
  refine g_aload_n (pc := 17) (i := 0) (j := 0) C dX6_note_17 rfl rfl ?_
  refine g_getR (pc := 18) C dX6_note_18 lfX6_23 (by first | rfl | assumption) rfl ?_
  refine g_iload_n (pc := 21) (i := 1) (j := 1) C dX6_note_21 rfl rfl ?_
  refine g_aald (pc := 22) C dX6_note_22 (by first | rfl | assumption) (fun _ => rfl) rfl (by decide) (by first | rfl | assumption) (rsG i hi) ?_
  refine g_iload_n (pc := 23) (i := 2) (j := 2) C dX6_note_23 rfl rfl ?_
  refine g_aload_n (pc := 24) (i := 0) (j := 0) C dX6_note_24 rfl rfl ?_
  refine g_getR (pc := 25) C dX6_note_25 lfX6_12 (by first | rfl | assumption) rfl ?_
  refine g_getR (pc := 28) C dX6_note_28 lfX6_55 (by first | rfl | assumption) rfl ?_
  refine g_iconst (pc := 31) (v := 5) C dX6_note_31 (by decide) ?_
  refine g_iald (pc := 32) C dX6_note_32 (by first | rfl | assumption) (by decide) (by first | rfl | assumption) (by first | assumption | decide | omega) ?_
  refine g_iast (pc := 33) C dX6_note_33 (shG i hi) (by decide) (by first | rfl | assumption) (by first | assumption | decide | omega) ?_
  refine g_vret (pc := 34) C C2 dX6_note_34 (Nat.le_refl _) (Nat.le_refl _) ?_
  refine ⟨rfl, rfl, ?_, rfl⟩
  rw [show pm_u I (52 + i) k (I 50 3) 50 = I 50 from pm_u_off (by omega)]

set_option maxHeartbeats 4000000 in
set_option maxRecDepth 100000 in
theorem c_X6_followWith {d : Nat} {i p : Nat} {v : Int32} (hi : i < 6) (hp : p < 9) {I : pm_I} {J : pm_J} {t m : Nat} (ht : I 1 3 = nI t) (hm : I 48 5 = nI m) (htm : t + m ≤ 96) (h48 : m ≤ 48)  : pm_M (d + 4) 0 0 yX6_followWith cX6_followWith 5 (none : Option Jvm.ClassFile.FieldType) [.ref 48, .int (nI i), .int (nI p), .int v] SHP I J (pm_D none SHP (tr_fw I i (tr_ev (I 2) (I 48 4) t (upd (bl_cp (I 50) (bl_L I i) 9) p v)) m) J) := by
  refine pm_start (own := RX6) (nm := "followWith") (by decide) rfl rfl (L := [(0, .ref 48), (1, .int (nI i)), (2, .int (nI p)), (3, .int v)]) rfl (Nat.le_of_ble_eq_true rfl) (fun Γ C C2 => ?_)
  have hloop : ∀ j, j ≤ m → pm_G Γ 0 0 35 [(0, .ref 48), (1, .int (nI i)), (2, .int (nI p)), (3, .int v), (4, .int (nI (j + 1)))] [] SHP (tr_fw I i (tr_ev (I 2) (I 48 4) t (upd (bl_cp (I 50) (bl_L I i) 9) p v)) j) J := by
    refine pm_up (fun j => pm_G Γ 0 0 35 [(0, .ref 48), (1, .int (nI i)), (2, .int (nI p)), (3, .int v), (4, .int (nI (j + 1)))] [] SHP (tr_fw I i (tr_ev (I 2) (I 48 4) t (upd (bl_cp (I 50) (bl_L I i) 9) p v)) j) J) m (fun j hj ih => ?_)
    refine g_iload (pc := 35) (j := 4) C dX6_followWith_35 rfl ?_
    refine g_aload_n (pc := 37) (i := 0) (j := 0) C dX6_followWith_37 rfl rfl ?_
    refine g_getI (pc := 38) C dX6_followWith_38 lfX6_30 (by first | rfl | assumption) rfl ?_
    refine g_icmp_gt (pc := 41) (tgt := 63) C dX6_followWith_41 (by decide) (fun h41 => ?_) (fun h41 => ?_)
    · rw [show tr_fw I i (tr_ev (I 2) (I 48 4) t (upd (bl_cp (I 50) (bl_L I i) 9) p v)) j 48 = I 48 from tr_fw_off (by decide) (by omega) (by omega)] at h41
      have ej : j = m := by rw [hm] at h41; have := (nI_ltI (a := m) (b := j + 1) (by omega) (by omega)).mp h41; omega
      subst ej
      refine g_vret (pc := 63) C C2 dX6_followWith_63 (Nat.le_refl _) (Nat.le_refl _) ?_
      exact ⟨rfl, rfl, rfl, rfl⟩
    · rw [show tr_fw I i (tr_ev (I 2) (I 48 4) t (upd (bl_cp (I 50) (bl_L I i) 9) p v)) j 48 = I 48 from tr_fw_off (by decide) (by omega) (by omega)] at h41
      have hlt : j < m := by rw [hm] at h41; exact Nat.lt_of_not_le (fun q => h41 ((nI_ltI (a := m) (b := j + 1) (by omega) (by omega)).mpr (by omega)))
      refine g_aload_n (pc := 44) (i := 0) (j := 0) C dX6_followWith_44 rfl rfl ?_
      refine g_iload (pc := 45) (j := 4) C dX6_followWith_45 rfl ?_
      refine g_callV (pc := 47) C dX6_followWith_47 lmX6_71 kcX6_step (by decide) (by first | rfl | assumption) (c_X6_step (t := t) (k := j) (by rw [show tr_fw I i (tr_ev (I 2) (I 48 4) t (upd (bl_cp (I 50) (bl_L I i) 9) p v)) j 1 = I 1 from tr_fw_off (by decide) (by omega) (by omega)]; exact ht) (by omega)) rfl rfl (Nat.le_of_ble_eq_true rfl) ?_
      intro r9 sh9 I9 J9 hD9; obtain ⟨rfl, rfl, rfl, rfl⟩ := pm_Dq hD9
      try simp only [Option.toList_some, Option.toList_none, List.cons_append, List.nil_append]
      refine g_aload_n (pc := 50) (i := 0) (j := 0) C dX6_followWith_50 rfl rfl ?_
      refine g_iload_n (pc := 51) (i := 1) (j := 1) C dX6_followWith_51 rfl rfl ?_
      refine g_iload (pc := 52) (j := 4) C dX6_followWith_52 rfl ?_
      refine g_callV (pc := 54) C dX6_followWith_54 lmX6_67 kcX6_note (by decide) (by first | rfl | assumption) (c_X6_note (k := j + 1) hi (by omega)) rfl rfl (Nat.le_of_ble_eq_true rfl) ?_
      intro r9 sh9 I9 J9 hD9; obtain ⟨rfl, rfl, rfl, rfl⟩ := pm_Dq hD9
      try simp only [Option.toList_some, Option.toList_none, List.cons_append, List.nil_append]
      refine g_iinc (pc := 57) (j := 4) (v := _ + 1) (L2 := [(0, _), (1, _), (2, _), (3, _), (4, _)]) C dX6_followWith_57 rfl (by first | rfl | exact pm_inc _) (by decide) rfl ?_
      refine g_goto (pc := 60) (tgt := 35) C dX6_followWith_60 (by decide) ?_
      refine pm_Geq (ih hlt) ?_ rfl ?_ rfl
      · simp only [nI_1]
      · rw [← tr_fw_next hi, pm_s_at, tr_fw_50 hi, show tr_fw I i (tr_ev (I 2) (I 48 4) t (upd (bl_cp (I 50) (bl_L I i) 9) p v)) j 2 = I 2 from tr_fw_off (by decide) (by omega) (by omega), show tr_fw I i (tr_ev (I 2) (I 48 4) t (upd (bl_cp (I 50) (bl_L I i) 9) p v)) j 48 = I 48 from tr_fw_off (by decide) (by omega) (by omega)]; rfl
  refine g_aload_n (pc := 0) (i := 0) (j := 0) C dX6_followWith_0 rfl rfl ?_
  refine g_getR (pc := 1) C dX6_followWith_1 lfX6_12 (by first | rfl | assumption) rfl ?_
  refine g_aload_n (pc := 4) (i := 0) (j := 0) C dX6_followWith_4 rfl rfl ?_
  refine g_getR (pc := 5) C dX6_followWith_5 lfX6_33 (by first | rfl | assumption) rfl ?_
  refine g_getR (pc := 8) C dX6_followWith_8 lfX6_51 (by first | rfl | assumption) rfl ?_
  refine g_iload_n (pc := 11) (i := 1) (j := 1) C dX6_followWith_11 rfl rfl ?_
  refine g_aald (pc := 12) C dX6_followWith_12 (by first | rfl | assumption) (fun _ => rfl) rfl (by decide) (by first | rfl | assumption) (rsB i hi) ?_
  refine g_callV (pc := 13) C dX6_followWith_13 lmX6_63 kcX1_copyFrom (by decide) (by first | rfl | assumption) (c_X1_copyFrom (a := 49) (q := 50) rfl rfl (shB i hi) (shP i hi)) rfl rfl (Nat.le_of_ble_eq_true rfl) ?_
  intro r9 sh9 I9 J9 hD9; obtain ⟨rfl, rfl, rfl, rfl⟩ := pm_Dq hD9
  try simp only [Option.toList_some, Option.toList_none, List.cons_append, List.nil_append]
  refine g_aload_n (pc := 16) (i := 0) (j := 0) C dX6_followWith_16 rfl rfl ?_
  refine g_getR (pc := 17) C dX6_followWith_17 lfX6_12 (by first | rfl | assumption) rfl ?_
  refine g_getR (pc := 20) C dX6_followWith_20 lfX6_55 (by first | rfl | assumption) rfl ?_
  refine g_iload_n (pc := 23) (i := 2) (j := 2) C dX6_followWith_23 rfl rfl ?_
  refine g_iload_n (pc := 24) (i := 3) (j := 3) C dX6_followWith_24 rfl rfl ?_
  refine g_iast (pc := 25) C dX6_followWith_25 (by first | rfl | assumption) (by decide) (by first | rfl | assumption) (by first | assumption | decide | omega) ?_
  refine g_aload_n (pc := 26) (i := 0) (j := 0) C dX6_followWith_26 rfl rfl ?_
  refine g_iload_n (pc := 27) (i := 1) (j := 1) C dX6_followWith_27 rfl rfl ?_
  refine g_iconst (pc := 28) (v := 0) C dX6_followWith_28 (by decide) ?_
  refine g_callV (pc := 29) C dX6_followWith_29 lmX6_67 kcX6_note (by decide) (by first | rfl | assumption) (c_X6_note (k := 0) hi (by decide)) rfl rfl (Nat.le_of_ble_eq_true rfl) ?_
  intro r9 sh9 I9 J9 hD9; obtain ⟨rfl, rfl, rfl, rfl⟩ := pm_Dq hD9
  try simp only [Option.toList_some, Option.toList_none, List.cons_append, List.nil_append]
  refine g_iconst (pc := 32) (v := 1) C dX6_followWith_32 (by decide) ?_
  refine g_istore (pc := 33) (L2 := [(0, _), (1, _), (2, _), (3, _), (4, _)]) C dX6_followWith_33 (by decide) rfl ?_
  refine pm_Geq (hloop 0 (Nat.zero_le _)) rfl rfl ?_ rfl
  simp only [pm_u_s, pm_s_at, pm_s_s]
  exact tr_fw_0 hi rfl

set_option maxHeartbeats 4000000 in
set_option maxRecDepth 100000 in
theorem c_X6_near {d : Nat} {i j k : Nat} (hi : i < 6) (hj : j < 6) (hk : k < 49) {I : pm_I} {J : pm_J} : pm_M (d + 2) 0 0 yX6_near cX6_near 4 (some .boolean) [.ref 48, .int (nI i), .int (nI j), .int (nI k)] SHP I J (pm_D (some (.int (pm_b (bl_near (I (52 + i) k) (I (52 + j) k) (I 1 4))))) SHP I J) := by
  refine pm_start (own := RX6) (nm := "near") (by decide) rfl rfl (L := [(0, .ref 48), (1, .int (nI i)), (2, .int (nI j)), (3, .int (nI k))]) rfl (Nat.le_of_ble_eq_true rfl) (fun Γ C C2 => ?_)
  refine g_aload_n (pc := 0) (i := 0) (j := 0) C dX6_near_0 rfl rfl ?_
  refine g_getR (pc := 1) C dX6_near_1 lfX6_33 (by first | rfl | assumption) rfl ?_
  refine g_aload_n (pc := 4) (i := 0) (j := 0) C dX6_near_4 rfl rfl ?_
  refine g_getR (pc := 5) C dX6_near_5 lfX6_20 (by first | rfl | assumption) rfl ?_
  refine g_iload_n (pc := 8) (i := 1) (j := 1) C dX6_near_8 rfl rfl ?_
  refine g_aald (pc := 9) C dX6_near_9 (by first | rfl | assumption) (fun _ => rfl) rfl (by decide) (by first | rfl | assumption) (rsH i hi) ?_
  refine g_iload_n (pc := 10) (i := 3) (j := 3) C dX6_near_10 rfl rfl ?_
  refine g_iald (pc := 11) C dX6_near_11 (shH i hi) (by decide) (by first | rfl | assumption) (by first | assumption | decide | omega) ?_
  refine g_aload_n (pc := 12) (i := 0) (j := 0) C dX6_near_12 rfl rfl ?_
  refine g_getR (pc := 13) C dX6_near_13 lfX6_20 (by first | rfl | assumption) rfl ?_
  refine g_iload_n (pc := 16) (i := 2) (j := 2) C dX6_near_16 rfl rfl ?_
  refine g_aald (pc := 17) C dX6_near_17 (by first | rfl | assumption) (fun _ => rfl) rfl (by decide) (by first | rfl | assumption) (rsH j hj) ?_
  refine g_iload_n (pc := 18) (i := 3) (j := 3) C dX6_near_18 rfl rfl ?_
  refine g_iald (pc := 19) C dX6_near_19 (shH j hj) (by decide) (by first | rfl | assumption) (by first | assumption | decide | omega) ?_
  refine g_callV (pc := 20) C dX6_near_20 lmX6_81 kcX5_tooNear (by decide) (by first | rfl | assumption) (c_X5_tooNear) rfl rfl (Nat.le_of_ble_eq_true rfl) ?_
  intro r9 sh9 I9 J9 hD9; obtain ⟨rfl, rfl, rfl, rfl⟩ := pm_Dq hD9
  try simp only [Option.toList_some, Option.toList_none, List.cons_append, List.nil_append]
  refine g_iret (pc := 23) C C2 dX6_near_23 (by first | rfl | exact pm_nz) (Nat.le_refl _) (Nat.le_refl _) ?_
  exact ⟨rfl, rfl, rfl, rfl⟩

set_option maxHeartbeats 4000000 in
set_option maxRecDepth 100000 in
theorem c_X6_touchedIn {d : Nat} {i k m : Nat} {c : Int32} {I : pm_I} {J : pm_J} {n : Nat} (hn : I 1 2 = nI n) (h6 : n ≤ 6) {Hf : Nat → Nat → Int32} (hH : ∀ b, b < n → ∀ k, k ≤ m → I (52 + b) k = Hf b k) (hi : i < n) (hk : k ≤ m) (h48 : m ≤ 48)  : pm_M (d + 3) 0 0 yX6_touchedIn cX6_touchedIn 6 (some .int) [.ref 48, .int (nI i), .int c, .int (nI k)] SHP I J (pm_D (some (.int (nI (tr_ti (bl_L I) Hf (I 1 4) i c k n)))) SHP I J) := by
  refine pm_start (own := RX6) (nm := "touchedIn") (by decide) rfl rfl (L := [(0, .ref 48), (1, .int (nI i)), (2, .int c), (3, .int (nI k))]) rfl (Nat.le_of_ble_eq_true rfl) (fun Γ C C2 => ?_)
  have hloop : ∀ j, j ≤ n → pm_G Γ 0 0 6 [(0, .ref 48), (1, .int (nI i)), (2, .int c), (3, .int (nI k)), (4, .int (nI (tr_ti (bl_L I) Hf (I 1 4) i c k j))), (5, .int (nI j))] [] SHP I J := by
    refine pm_up (fun j => pm_G Γ 0 0 6 [(0, .ref 48), (1, .int (nI i)), (2, .int c), (3, .int (nI k)), (4, .int (nI (tr_ti (bl_L I) Hf (I 1 4) i c k j))), (5, .int (nI j))] [] SHP I J) n (fun j hj ih => ?_)
    refine g_iload (pc := 6) (j := 5) C dX6_touchedIn_6 rfl ?_
    refine g_aload_n (pc := 8) (i := 0) (j := 0) C dX6_touchedIn_8 rfl rfl ?_
    refine g_getR (pc := 9) C dX6_touchedIn_9 lfX6_33 (by first | rfl | assumption) rfl ?_
    refine g_getI (pc := 12) C dX6_touchedIn_12 lfX6_48 (by first | rfl | assumption) rfl ?_
    refine g_icmp_ge (pc := 15) (tgt := 63) C dX6_touchedIn_15 (by decide) (fun h15 => ?_) (fun h15 => ?_)
    · have ej : j = n := by (try rw [hn] at h15); have := (nI_leI (a := n) (b := j) (by omega) (by omega)).mp h15; omega
      subst ej
      refine g_iload (pc := 63) (j := 4) C dX6_touchedIn_63 rfl ?_
      refine g_iret (pc := 65) C C2 dX6_touchedIn_65 rfl (Nat.le_refl _) (Nat.le_refl _) ?_
      exact ⟨rfl, rfl, rfl, rfl⟩
    · have hlt : j < n := by (try rw [hn] at h15); exact Nat.lt_of_not_le (fun q => h15 ((nI_leI (a := n) (b := j) (by omega) (by omega)).mpr q))
      have hj6 : j < 6 := by omega
      have e1 := shB j hj6
      have e2 := shP j hj6
      refine g_iload (pc := 18) (j := 5) C dX6_touchedIn_18 rfl ?_
      refine g_iload_n (pc := 20) (i := 1) (j := 1) C dX6_touchedIn_20 rfl rfl ?_
      refine g_icmp_eq (pc := 21) (tgt := 57) C dX6_touchedIn_21 (by decide) (fun h21 => ?_) (fun h21 => ?_)
      · refine g_iinc (pc := 57) (j := 5) (v := _ + 1) (L2 := [(0, _), (1, _), (2, _), (3, _), (4, _), (5, _)]) C dX6_touchedIn_57 rfl (by first | rfl | exact pm_inc _) (by decide) rfl ?_
        refine g_goto (pc := 60) (tgt := 6) C dX6_touchedIn_60 (by decide) ?_
        refine pm_Geq (ih hlt) ?_ rfl rfl rfl
        clear C C2 ih e1 e2
        have e0 := nI_eq (a := j) (b := i) (by omega) (by omega)
        have e3 := hH i hi k hk
        have e4 := hH j hlt k hk
        simp only [tr_ti, nI_1]
        grind [nI_1]
      · refine g_aload_n (pc := 24) (i := 0) (j := 0) C dX6_touchedIn_24 rfl rfl ?_
        refine g_getR (pc := 25) C dX6_touchedIn_25 lfX6_33 (by first | rfl | assumption) rfl ?_
        refine g_getR (pc := 28) C dX6_touchedIn_28 lfX6_51 (by first | rfl | assumption) rfl ?_
        refine g_iload (pc := 31) (j := 5) C dX6_touchedIn_31 rfl ?_
        refine g_aald (pc := 33) C dX6_touchedIn_33 (by first | rfl | assumption) (fun _ => rfl) rfl (by decide) (by first | rfl | assumption) (rsB j hj6) ?_
        refine g_getR (pc := 34) C dX6_touchedIn_34 lfX6_55 (by first | rfl | assumption) rfl ?_
        refine g_iconst (pc := 37) (v := 2) C dX6_touchedIn_37 (by decide) ?_
        refine g_iald (pc := 38) C dX6_touchedIn_38 (by first | rfl | assumption) (by decide) (by first | rfl | assumption) (by first | assumption | decide | omega) ?_
        refine g_iload_n (pc := 39) (i := 2) (j := 2) C dX6_touchedIn_39 rfl rfl ?_
        refine g_icmp_ne (pc := 40) (tgt := 57) C dX6_touchedIn_40 (by decide) (fun h40 => ?_) (fun h40 => ?_)
        · refine g_iinc (pc := 57) (j := 5) (v := _ + 1) (L2 := [(0, _), (1, _), (2, _), (3, _), (4, _), (5, _)]) C dX6_touchedIn_57 rfl (by first | rfl | exact pm_inc _) (by decide) rfl ?_
          refine g_goto (pc := 60) (tgt := 6) C dX6_touchedIn_60 (by decide) ?_
          refine pm_Geq (ih hlt) ?_ rfl rfl rfl
          clear C C2 ih e1 e2
          have e0 := nI_eq (a := j) (b := i) (by omega) (by omega)
          have e3 := hH i hi k hk
          have e4 := hH j hlt k hk
          simp only [tr_ti, nI_1]
          grind [nI_1]
        · refine g_aload_n (pc := 43) (i := 0) (j := 0) C dX6_touchedIn_43 rfl rfl ?_
          refine g_iload_n (pc := 44) (i := 1) (j := 1) C dX6_touchedIn_44 rfl rfl ?_
          refine g_iload (pc := 45) (j := 5) C dX6_touchedIn_45 rfl ?_
          refine g_iload_n (pc := 47) (i := 3) (j := 3) C dX6_touchedIn_47 rfl rfl ?_
          refine g_callV (pc := 48) C dX6_touchedIn_48 lmX6_85 kcX6_near (by decide) (by first | rfl | assumption) (c_X6_near (by omega) hj6 (by omega)) rfl rfl (Nat.le_of_ble_eq_true rfl) ?_
          intro r9 sh9 I9 J9 hD9; obtain ⟨rfl, rfl, rfl, rfl⟩ := pm_Dq hD9
          try simp only [Option.toList_some, Option.toList_none, List.cons_append, List.nil_append]
          refine g_if_eqB (pc := 51) (tgt := 57) C dX6_touchedIn_51 (by decide) (fun h51 => ?_) (fun h51 => ?_)
          · refine g_iinc (pc := 57) (j := 5) (v := _ + 1) (L2 := [(0, _), (1, _), (2, _), (3, _), (4, _), (5, _)]) C dX6_touchedIn_57 rfl (by first | rfl | exact pm_inc _) (by decide) rfl ?_
            refine g_goto (pc := 60) (tgt := 6) C dX6_touchedIn_60 (by decide) ?_
            refine pm_Geq (ih hlt) ?_ rfl rfl rfl
            clear C C2 ih e1 e2
            have e0 := nI_eq (a := j) (b := i) (by omega) (by omega)
            have e3 := hH i hi k hk
            have e4 := hH j hlt k hk
            simp only [tr_ti, nI_1]
            grind [nI_1]
          · refine g_iinc (pc := 54) (j := 4) (v := _ + 1) (L2 := [(0, _), (1, _), (2, _), (3, _), (4, _), (5, _)]) C dX6_touchedIn_54 rfl (by first | rfl | exact pm_inc _) (by decide) rfl ?_
            refine g_iinc (pc := 57) (j := 5) (v := _ + 1) (L2 := [(0, _), (1, _), (2, _), (3, _), (4, _), (5, _)]) C dX6_touchedIn_57 rfl (by first | rfl | exact pm_inc _) (by decide) rfl ?_
            refine g_goto (pc := 60) (tgt := 6) C dX6_touchedIn_60 (by decide) ?_
            refine pm_Geq (ih hlt) ?_ rfl rfl rfl
            clear C C2 ih e1 e2
            have e0 := nI_eq (a := j) (b := i) (by omega) (by omega)
            have e3 := hH i hi k hk
            have e4 := hH j hlt k hk
            simp only [tr_ti, nI_1]
            grind [nI_1]
  refine g_iconst (pc := 0) (v := 0) C dX6_touchedIn_0 (by decide) ?_
  refine g_istore (pc := 1) (L2 := [(0, _), (1, _), (2, _), (3, _), (4, _)]) C dX6_touchedIn_1 (by decide) rfl ?_
  refine g_iconst (pc := 3) (v := 0) C dX6_touchedIn_3 (by decide) ?_
  refine g_istore (pc := 4) (L2 := [(0, _), (1, _), (2, _), (3, _), (4, _), (5, _)]) C dX6_touchedIn_4 (by decide) rfl ?_
  refine pm_Geq (hloop 0 (Nat.zero_le _)) ?_ rfl ?_ ?_ <;> first | rfl | grind
