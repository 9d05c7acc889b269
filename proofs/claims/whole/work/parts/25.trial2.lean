/-! The trial: more that is read off it; a changed balloon followed alone -/
theorem tr_ti_congr {B B2 Hf Hf2 : Nat → Nat → Int32} {gap : Int32} {i : Nat} {c : Int32} {k n : Nat} (hi : i < n) (hB : ∀ b, b < n → B b 2 = B2 b 2) (hH : ∀ b, b < n → Hf b k = Hf2 b k) : ∀ j, j ≤ n → tr_ti B Hf gap i c k j = tr_ti B2 Hf2 gap i c k j
  | 0, _ => rfl
  | j + 1, hj => by
    unfold tr_ti
    rw [tr_ti_congr hi hB hH j (by omega), hB j (by omega), hH j (by omega), hH i hi]
def tr_cw (I : pm_I) (i : Nat) (f : Nat → Int32) (g : Nat → Nat → Int32) : Nat → pm_I
  | 0 => pm_s I 50 f
  | j + 1 => tr_fw I i g j
theorem tr_cw_off {I : pm_I} {i a : Nat} {f : Nat → Int32} {g : Nat → Nat → Int32} (h1 : a ≠ 50) (h2 : a ≠ 52 + i) (h3 : a ≠ 59 + i) : ∀ j, tr_cw I i f g j a = I a
  | 0 => pm_s_off _ _ _ _ h1
  | j + 1 => tr_fw_off h1 h2 h3
/-- the heights, one balloon's otherwise -/
def tr_hw (Hf : Nat → Nat → Int32) (i : Nat) (g : Nat → Nat → Int32) (b k : Nat) : Int32 := if b = i then g k 3 else Hf b k
theorem tr_cpe {I : pm_I} {g : Nat → Int32} {i p : Nat} {v : Int32} : ∀ q, q < 9 → upd (bl_cp g (bl_L I i) 9) p v q = upd (bl_L I i) p v q := by
  intro q hq
  unfold upd bl_cp
  grind
/-- what a look at a changed balloon leaves: all but its own rows and the scratch one -/
def tr_Cl (I : pm_I) (n i : Nat) (I2 : pm_I) : Prop := tr_off I I2 ∧ I2 48 = I 48 ∧ ∀ b, b < n → b ≠ i → I2 (52 + b) = I (52 + b) ∧ I2 (59 + b) = I (59 + b)
theorem tr_Cl_fw {I : pm_I} {n i j : Nat} {g : Nat → Nat → Int32} (hi : i < 6) (h6 : n ≤ 6) : tr_Cl I n i (tr_fw I i g j) :=
  ⟨fun a ha => tr_fw_off (by omega) (by omega) (by omega), tr_fw_off (by omega) (by omega) (by omega), fun b hb hne => ⟨tr_fw_off (by omega) (by omega) (by omega), tr_fw_off (by omega) (by omega) (by omega)⟩⟩
theorem tr_Cl_cw {I : pm_I} {n i : Nat} {f : Nat → Int32} {g : Nat → Nat → Int32} (hi : i < 6) (h6 : n ≤ 6) : ∀ j, tr_Cl I n i (tr_cw I i f g j)
  | 0 => ⟨fun a ha => pm_s_off _ _ _ _ (by omega), pm_s_off _ _ _ _ (by omega), fun b hb hne => ⟨pm_s_off _ _ _ _ (by omega), pm_s_off _ _ _ _ (by omega)⟩⟩
  | j + 1 => tr_Cl_fw hi h6
set_option maxHeartbeats 4000000 in
set_option maxRecDepth 100000 in
theorem c_X6_isClearForAll {d : Nat} {I : pm_I} {J : pm_J} {m : Nat} {n : Nat} (hn : I 1 2 = nI n) (h6 : n ≤ 6) {Hf : Nat → Nat → Int32} (hH : ∀ b, b < n → ∀ k, k ≤ m → I (52 + b) k = Hf b k) (hm : I 48 5 = nI m) (h48 : m ≤ 48) : pm_M (d + 4) 0 0 yX6_isClearForAll cX6_isClearForAll 2 (some .boolean) [.ref 48] SHP I J (pm_D (some (.int (pm_b (∀ k, k < m → tr_si (bl_L I) Hf (I 1 4) (k + 1) n n = -3)))) SHP I J) := by
  refine pm_start (own := RX6) (nm := "isClearForAll") (by decide) rfl rfl (L := [(0, .ref 48)]) rfl (Nat.le_of_ble_eq_true rfl) (fun Γ C C2 => ?_)
  have hloop : ∀ j, j ≤ m → (∀ k, k < j → tr_si (bl_L I) Hf (I 1 4) (k + 1) n n = -3) → pm_G Γ 0 0 2 [(0, .ref 48), (1, .int (nI (j + 1)))] [] SHP I J := by
    refine pm_up (fun j => (∀ k, k < j → tr_si (bl_L I) Hf (I 1 4) (k + 1) n n = -3) → pm_G Γ 0 0 2 [(0, .ref 48), (1, .int (nI (j + 1)))] [] SHP I J) m (fun j hj ih hz => ?_)
    refine g_iload_n (pc := 2) (i := 1) (j := 1) C dX6_isClearForAll_2 rfl rfl ?_
    refine g_aload_n (pc := 3) (i := 0) (j := 0) C dX6_isClearForAll_3 rfl rfl ?_
    refine g_getI (pc := 4) C dX6_isClearForAll_4 lfX6_30 (by first | rfl | assumption) rfl ?_
    refine g_icmp_gt (pc := 7) (tgt := 28) C dX6_isClearForAll_7 (by decide) (fun h7 => ?_) (fun h7 => ?_)
    · have ej : m < j + 1 := by rw [hm] at h7; exact (nI_ltI (by omega) (by omega)).mp h7
      refine g_iconst (pc := 28) (v := 1) C dX6_isClearForAll_28 (by decide) ?_
      refine g_iret (pc := 29) C C2 dX6_isClearForAll_29 (by first | rfl | exact pm_nz) (Nat.le_refl _) (Nat.le_refl _) ?_
      refine ⟨?_, rfl, rfl, rfl⟩
      rw [pm_b, if_pos (fun k hk => hz k (by omega))]
    · have hjm : j < m := by rw [hm] at h7; exact Nat.lt_of_not_le (fun q => h7 ((nI_ltI (a := m) (b := j + 1) (by omega) (by omega)).mpr (by omega)))
      refine g_aload_n (pc := 10) (i := 0) (j := 0) C dX6_isClearForAll_10 rfl rfl ?_
      refine g_iload_n (pc := 11) (i := 1) (j := 1) C dX6_isClearForAll_11 rfl rfl ?_
      refine g_callV (pc := 12) C dX6_isClearForAll_12 lmX6_96 kcX6_leastPair (by decide) (by first | rfl | assumption) (c_X6_leastPair (k := j + 1) hn h6 hH (by omega) h48) rfl rfl (Nat.le_of_ble_eq_true rfl) ?_
      intro r9 sh9 I9 J9 hD9; obtain ⟨rfl, rfl, rfl, rfl⟩ := pm_Dq hD9
      try simp only [Option.toList_some, Option.toList_none, List.cons_append, List.nil_append]
      refine g_bipush (pc := 15) (v := (-3)) C dX6_isClearForAll_15 (by decide) ?_
      refine g_icmp_eq (pc := 17) (tgt := 22) C dX6_isClearForAll_17 (by decide) (fun h17 => ?_) (fun h17 => ?_)
      · refine g_iinc (pc := 22) (j := 1) (v := _ + 1) (L2 := [(0, _), (1, _)]) C dX6_isClearForAll_22 rfl (by first | rfl | exact pm_inc _) (by decide) rfl ?_
        refine g_goto (pc := 25) (tgt := 2) C dX6_isClearForAll_25 (by decide) ?_
        refine pm_Geq (ih (by omega) (fun k hk => ?_)) (by simp only [nI_1]) rfl rfl rfl
        by_cases e : k = j
        · subst e; exact h17
        · exact hz k (by omega)
      · refine g_iconst (pc := 20) (v := 0) C dX6_isClearForAll_20 (by decide) ?_
        refine g_iret (pc := 21) C C2 dX6_isClearForAll_21 (by first | rfl | exact pm_nz) (Nat.le_refl _) (Nat.le_refl _) ?_
        refine ⟨?_, rfl, rfl, rfl⟩
        rw [pm_b, if_neg (fun q => h17 (q j hjm))]
  refine g_iconst (pc := 0) (v := 1) C dX6_isClearForAll_0 (by decide) ?_
  refine g_istore_n (pc := 1) (i := 1) (L2 := [(0, _), (1, _)]) C dX6_isClearForAll_1 rfl (by decide) rfl ?_
  exact hloop 0 (Nat.zero_le _) (fun k hk => by omega)

set_option maxHeartbeats 4000000 in
set_option maxRecDepth 100000 in
theorem c_X6_pairsToCome {d : Nat} {I : pm_I} {J : pm_J} {m : Nat} {n : Nat} (hn : I 1 2 = nI n) (h6 : n ≤ 6) {Hf : Nat → Nat → Int32} (hH : ∀ b, b < n → ∀ k, k ≤ m → I (52 + b) k = Hf b k) (hm : I 48 5 = nI m) (h48 : m ≤ 48) : pm_M (d + 4) 0 0 yX6_pairsToCome cX6_pairsToCome 4 (some .int) [.ref 48] SHP I J (pm_D (some (.int (nI (tr_s2 (bl_L I) Hf (I 1 4) n m) / 2))) SHP I J) := by
  refine pm_start (own := RX6) (nm := "pairsToCome") (by decide) rfl rfl (L := [(0, .ref 48)]) rfl (Nat.le_of_ble_eq_true rfl) (fun Γ C C2 => ?_)
  have hloop : ∀ j, j ≤ m → pm_G Γ 0 0 4 [(0, .ref 48), (1, .int (nI (tr_s2 (bl_L I) Hf (I 1 4) n j))), (2, .int (nI (j + 1)))] [] SHP I J := by
    refine pm_up (fun j => pm_G Γ 0 0 4 [(0, .ref 48), (1, .int (nI (tr_s2 (bl_L I) Hf (I 1 4) n j))), (2, .int (nI (j + 1)))] [] SHP I J) m (fun j hj ih => ?_)
    refine g_iload_n (pc := 4) (i := 2) (j := 2) C dX6_pairsToCome_4 rfl rfl ?_
    refine g_aload_n (pc := 5) (i := 0) (j := 0) C dX6_pairsToCome_5 rfl rfl ?_
    refine g_getI (pc := 6) C dX6_pairsToCome_6 lfX6_30 (by first | rfl | assumption) rfl ?_
    refine g_icmp_gt (pc := 9) (tgt := 60) C dX6_pairsToCome_9 (by decide) (fun h9 => ?_) (fun h9 => ?_)
    · have ej : j = m := by rw [hm] at h9; have := (nI_ltI (a := m) (b := j + 1) (by omega) (by omega)).mp h9; omega
      subst ej
      refine g_iload_n (pc := 60) (i := 1) (j := 1) C dX6_pairsToCome_60 rfl rfl ?_
      refine g_iconst (pc := 61) (v := 2) C dX6_pairsToCome_61 (by decide) ?_
      refine g_idiv (pc := 62) C dX6_pairsToCome_62 (by first | decide | assumption) ?_
      refine g_iret (pc := 63) C C2 dX6_pairsToCome_63 rfl (Nat.le_refl _) (Nat.le_refl _) ?_
      exact ⟨rfl, rfl, rfl, rfl⟩
    · have hjm : j < m := by rw [hm] at h9; exact Nat.lt_of_not_le (fun q => h9 ((nI_ltI (a := m) (b := j + 1) (by omega) (by omega)).mpr (by omega)))
      refine g_iconst (pc := 12) (v := 0) C dX6_pairsToCome_12 (by decide) ?_
      refine g_istore_n (pc := 13) (i := 3) (L2 := [(0, _), (1, _), (2, _), (3, _)]) C dX6_pairsToCome_13 rfl (by decide) rfl ?_
      have hq : ∀ i, i ≤ n → pm_G Γ 0 0 14 [(0, .ref 48), (1, .int (nI (tr_s2 (bl_L I) Hf (I 1 4) n j + tr_s1 (bl_L I) Hf (I 1 4) n (j + 1) i))), (2, .int (nI (j + 1))), (3, .int (nI i))] [] SHP I J := by
        refine pm_up (fun i => pm_G Γ 0 0 14 [(0, .ref 48), (1, .int (nI (tr_s2 (bl_L I) Hf (I 1 4) n j + tr_s1 (bl_L I) Hf (I 1 4) n (j + 1) i))), (2, .int (nI (j + 1))), (3, .int (nI i))] [] SHP I J) n (fun i hi ih2 => ?_)
        refine g_iload_n (pc := 14) (i := 3) (j := 3) C dX6_pairsToCome_14 rfl rfl ?_
        refine g_aload_n (pc := 15) (i := 0) (j := 0) C dX6_pairsToCome_15 rfl rfl ?_
        refine g_getR (pc := 16) C dX6_pairsToCome_16 lfX6_33 (by first | rfl | assumption) rfl ?_
        refine g_getI (pc := 19) C dX6_pairsToCome_19 lfX6_48 (by first | rfl | assumption) rfl ?_
        refine g_icmp_ge (pc := 22) (tgt := 54) C dX6_pairsToCome_22 (by decide) (fun h22 => ?_) (fun h22 => ?_)
        · have ei : i = n := by rw [hn] at h22; have := (nI_leI (a := n) (b := i) (by omega) (by omega)).mp h22; omega
          subst ei
          refine g_iinc (pc := 54) (j := 2) (v := _ + 1) (L2 := [(0, _), (1, _), (2, _), (3, _)]) C dX6_pairsToCome_54 rfl (by first | rfl | exact pm_inc _) (by decide) rfl ?_
          refine g_goto (pc := 57) (tgt := 4) C dX6_pairsToCome_57 (by decide) ?_
          exact pm_drop (pm_Geq (ih hjm) (by simp only [nI_1, tr_s2]; rfl) rfl rfl rfl) [0, 1, 2] rfl
        · have hilt : i < n := by rw [hn] at h22; exact Nat.lt_of_not_le (fun q => h22 ((nI_leI (a := n) (b := i) (by omega) (by omega)).mpr q))
          have e3 := shB i (by omega)
          have e4 := shP i (by omega)
          refine g_iload_n (pc := 25) (i := 1) (j := 1) C dX6_pairsToCome_25 rfl rfl ?_
          refine g_aload_n (pc := 26) (i := 0) (j := 0) C dX6_pairsToCome_26 rfl rfl ?_
          refine g_iload_n (pc := 27) (i := 3) (j := 3) C dX6_pairsToCome_27 rfl rfl ?_
          refine g_aload_n (pc := 28) (i := 0) (j := 0) C dX6_pairsToCome_28 rfl rfl ?_
          refine g_getR (pc := 29) C dX6_pairsToCome_29 lfX6_33 (by first | rfl | assumption) rfl ?_
          refine g_getR (pc := 32) C dX6_pairsToCome_32 lfX6_51 (by first | rfl | assumption) rfl ?_
          refine g_iload_n (pc := 35) (i := 3) (j := 3) C dX6_pairsToCome_35 rfl rfl ?_
          refine g_aald (pc := 36) C dX6_pairsToCome_36 (by first | rfl | assumption) (fun _ => rfl) rfl (by decide) (by first | rfl | assumption) (rsB i (by omega)) ?_
          refine g_getR (pc := 37) C dX6_pairsToCome_37 lfX6_55 (by first | rfl | assumption) rfl ?_
          refine g_iconst (pc := 40) (v := 2) C dX6_pairsToCome_40 (by decide) ?_
          refine g_iald (pc := 41) C dX6_pairsToCome_41 (by first | rfl | assumption) (by decide) (by first | rfl | assumption) (by first | assumption | decide | omega) ?_
          refine g_iload_n (pc := 42) (i := 2) (j := 2) C dX6_pairsToCome_42 rfl rfl ?_
          refine g_callV (pc := 43) C dX6_pairsToCome_43 lmX6_89 kcX6_touchedIn (by decide) (by first | rfl | assumption) (c_X6_touchedIn (k := j + 1) hn h6 hH hilt (by omega) h48) rfl rfl (Nat.le_of_ble_eq_true rfl) ?_
          intro r9 sh9 I9 J9 hD9; obtain ⟨rfl, rfl, rfl, rfl⟩ := pm_Dq hD9
          try simp only [Option.toList_some, Option.toList_none, List.cons_append, List.nil_append]
          refine g_iadd (pc := 46) C dX6_pairsToCome_46 ?_
          refine g_istore_n (pc := 47) (i := 1) (L2 := [(0, _), (1, _), (2, _), (3, _)]) C dX6_pairsToCome_47 rfl (by decide) rfl ?_
          refine g_iinc (pc := 48) (j := 3) (v := _ + 1) (L2 := [(0, _), (1, _), (2, _), (3, _)]) C dX6_pairsToCome_48 rfl (by first | rfl | exact pm_inc _) (by decide) rfl ?_
          refine g_goto (pc := 51) (tgt := 14) C dX6_pairsToCome_51 (by decide) ?_
          refine pm_Geq (ih2 hilt) ?_ rfl rfl rfl
          simp only [nI_1, nI_add, tr_s1, Nat.add_assoc]
      exact hq 0 (Nat.zero_le _)
  refine g_iconst (pc := 0) (v := 0) C dX6_pairsToCome_0 (by decide) ?_
  refine g_istore_n (pc := 1) (i := 1) (L2 := [(0, _), (1, _)]) C dX6_pairsToCome_1 rfl (by decide) rfl ?_
  refine g_iconst (pc := 2) (v := 1) C dX6_pairsToCome_2 (by decide) ?_
  refine g_istore_n (pc := 3) (i := 2) (L2 := [(0, _), (1, _), (2, _)]) C dX6_pairsToCome_3 rfl (by decide) rfl ?_
  exact hloop 0 (Nat.zero_le _)

set_option maxHeartbeats 4000000 in
set_option maxRecDepth 100000 in
theorem c_X6_rowPart {d : Nat} {i k m w : Nat} (hw : w < 3) {I : pm_I} {J : pm_J} {n : Nat} (hn : I 1 2 = nI n) (h6 : n ≤ 6) {Hf : Nat → Nat → Int32} (hH : ∀ b, b < n → ∀ k, k ≤ m → I (52 + b) k = Hf b k) (hi : i < n) (hk : k ≤ m) (h48 : m ≤ 48) : pm_M (d + 4) 0 0 yX6_rowPart cX6_rowPart 4 (some .int) [.ref 48, .int (nI i), .int (nI k), .int (nI w)] SHP I J (pm_D (some (.int (if w = 0 then I (52 + i) k else if w = 1 then I (59 + i) k else nI (tr_ti (bl_L I) Hf (I 1 4) i (bl_L I i 2) k n)))) SHP I J) := by
  refine pm_start (own := RX6) (nm := "rowPart") (by decide) rfl rfl (L := [(0, .ref 48), (1, .int (nI i)), (2, .int (nI k)), (3, .int (nI w))]) rfl (Nat.le_of_ble_eq_true rfl) (fun Γ C C2 => ?_)
  have hi6 : i < 6 := by omega
  have e1 := shB i hi6
  have e2 := shP i hi6
  refine g_iload_n (pc := 0) (i := 3) (j := 3) C dX6_rowPart_0 rfl rfl ?_
  refine pm_sw (0) (fun h1_0 => ?_) (fun h1_0 => ?_)
  · refine g_ls (pc := 1) (off := 27) (tgt := 28) C dX6_rowPart_1 (by decide) (by show Op.lookupswitch.offset [(0, 27), (1, 36)] (45) _ = _; rw [h1_0]; decide) (by decide) ?_
    refine g_aload_n (pc := 28) (i := 0) (j := 0) C dX6_rowPart_28 rfl rfl ?_
    refine g_getR (pc := 29) C dX6_rowPart_29 lfX6_20 (by first | rfl | assumption) rfl ?_
    refine g_iload_n (pc := 32) (i := 1) (j := 1) C dX6_rowPart_32 rfl rfl ?_
    refine g_aald (pc := 33) C dX6_rowPart_33 (by first | rfl | assumption) (fun _ => rfl) rfl (by decide) (by first | rfl | assumption) (rsH i hi6) ?_
    refine g_iload_n (pc := 34) (i := 2) (j := 2) C dX6_rowPart_34 rfl rfl ?_
    refine g_iald (pc := 35) C dX6_rowPart_35 (shH i hi6) (by decide) (by first | rfl | assumption) (by first | assumption | decide | omega) ?_
    refine g_iret (pc := 36) C C2 dX6_rowPart_36 rfl (Nat.le_refl _) (Nat.le_refl _) ?_
    clear C C2 e1 e2
    have q0 : (nI w = 0) ↔ w = 0 := nI_eq (b := 0) (by omega) (by decide)
    have q1 : (nI w = 1) ↔ w = 1 := nI_eq (b := 1) (by omega) (by decide)
    exact ⟨by grind, rfl, rfl, rfl⟩
  refine pm_sw (1) (fun h1_1 => ?_) (fun h1_1 => ?_)
  · refine g_ls (pc := 1) (off := 36) (tgt := 37) C dX6_rowPart_1 (by decide) (by show Op.lookupswitch.offset [(0, 27), (1, 36)] (45) _ = _; rw [h1_1]; decide) (by decide) ?_
    refine g_aload_n (pc := 37) (i := 0) (j := 0) C dX6_rowPart_37 rfl rfl ?_
    refine g_getR (pc := 38) C dX6_rowPart_38 lfX6_23 (by first | rfl | assumption) rfl ?_
    refine g_iload_n (pc := 41) (i := 1) (j := 1) C dX6_rowPart_41 rfl rfl ?_
    refine g_aald (pc := 42) C dX6_rowPart_42 (by first | rfl | assumption) (fun _ => rfl) rfl (by decide) (by first | rfl | assumption) (rsG i hi6) ?_
    refine g_iload_n (pc := 43) (i := 2) (j := 2) C dX6_rowPart_43 rfl rfl ?_
    refine g_iald (pc := 44) C dX6_rowPart_44 (shG i hi6) (by decide) (by first | rfl | assumption) (by first | assumption | decide | omega) ?_
    refine g_iret (pc := 45) C C2 dX6_rowPart_45 rfl (Nat.le_refl _) (Nat.le_refl _) ?_
    clear C C2 e1 e2
    have q0 : (nI w = 0) ↔ w = 0 := nI_eq (b := 0) (by omega) (by decide)
    have q1 : (nI w = 1) ↔ w = 1 := nI_eq (b := 1) (by omega) (by decide)
    exact ⟨by grind, rfl, rfl, rfl⟩
  refine g_ls (pc := 1) (off := 45) (tgt := 46) C dX6_rowPart_1 (by decide) (by show Op.lookupswitch.offset [(0, 27), (1, 36)] (45) _ = _; rw [lv_osw (k := 0) h1_0 (by decide)]; rw [lv_osw (k := 1) h1_1 (by decide)]; rfl) (by decide) ?_
  refine g_aload_n (pc := 46) (i := 0) (j := 0) C dX6_rowPart_46 rfl rfl ?_
  refine g_iload_n (pc := 47) (i := 1) (j := 1) C dX6_rowPart_47 rfl rfl ?_
  refine g_aload_n (pc := 48) (i := 0) (j := 0) C dX6_rowPart_48 rfl rfl ?_
  refine g_getR (pc := 49) C dX6_rowPart_49 lfX6_33 (by first | rfl | assumption) rfl ?_
  refine g_getR (pc := 52) C dX6_rowPart_52 lfX6_51 (by first | rfl | assumption) rfl ?_
  refine g_iload_n (pc := 55) (i := 1) (j := 1) C dX6_rowPart_55 rfl rfl ?_
  refine g_aald (pc := 56) C dX6_rowPart_56 (by first | rfl | assumption) (fun _ => rfl) rfl (by decide) (by first | rfl | assumption) (rsB i hi6) ?_
  refine g_getR (pc := 57) C dX6_rowPart_57 lfX6_55 (by first | rfl | assumption) rfl ?_
  refine g_iconst (pc := 60) (v := 2) C dX6_rowPart_60 (by decide) ?_
  refine g_iald (pc := 61) C dX6_rowPart_61 (by first | rfl | assumption) (by decide) (by first | rfl | assumption) (by first | assumption | decide | omega) ?_
  refine g_iload_n (pc := 62) (i := 2) (j := 2) C dX6_rowPart_62 rfl rfl ?_
  refine g_callV (pc := 63) C dX6_rowPart_63 lmX6_89 kcX6_touchedIn (by decide) (by first | rfl | assumption) (c_X6_touchedIn hn h6 hH hi hk h48) rfl rfl (Nat.le_of_ble_eq_true rfl) ?_
  intro r9 sh9 I9 J9 hD9; obtain ⟨rfl, rfl, rfl, rfl⟩ := pm_Dq hD9
  try simp only [Option.toList_some, Option.toList_none, List.cons_append, List.nil_append]
  refine g_iret (pc := 66) C C2 dX6_rowPart_66 rfl (Nat.le_refl _) (Nat.le_refl _) ?_
  clear C C2 e1 e2
  have q0 : (nI w = 0) ↔ w = 0 := nI_eq (b := 0) (by omega) (by decide)
  have q1 : (nI w = 1) ↔ w = 1 := nI_eq (b := 1) (by omega) (by decide)
  exact ⟨by grind, rfl, rfl, rfl⟩

set_option maxHeartbeats 4000000 in
set_option maxRecDepth 100000 in
theorem c_X6_isClearWith {d : Nat} {I : pm_I} {J : pm_J} {i p : Nat} {v : Int32} {n : Nat} (hn : I 1 2 = nI n) (h6 : n ≤ 6) (hi : i < n) (hp : p < 9) {t m : Nat} (ht : I 1 3 = nI t) (hm : I 48 5 = nI m) (htm : t + m ≤ 96) (h48 : m ≤ 48) {Hf : Nat → Nat → Int32} (hH : ∀ b, b < n → b ≠ i → ∀ k, k ≤ m → I (52 + b) k = Hf b k)  : pm_M (d + 4) 0 0 yX6_isClearWith cX6_isClearWith 6 (some .boolean) [.ref 48, .int (nI i), .int (nI p), .int v] SHP I J (fun r sh2 I2 J2 => r = some (.int (pm_b (∀ k, k < m + 1 → tr_ti (bl_L I) (tr_hw Hf i (tr_ev (I 2) (I 48 4) t (upd (bl_L I i) p v))) (I 1 4) i (bl_L I i 2) k n = 0))) ∧ sh2 = SHP ∧ J2 = J ∧ tr_Cl I n i I2) := by
  refine pm_start (own := RX6) (nm := "isClearWith") (by decide) rfl rfl (L := [(0, .ref 48), (1, .int (nI i)), (2, .int (nI p)), (3, .int v)]) rfl (Nat.le_of_ble_eq_true rfl) (fun Γ C C2 => ?_)
  have hi6 : i < 6 := by omega
  have e1 := shB i hi6
  have e2 := shP i hi6
  have hG : ∀ k q, q < 9 → (tr_ev (I 2) (I 48 4) t (upd (bl_cp (I 50) (bl_L I i) 9) p v)) k q = (tr_ev (I 2) (I 48 4) t (upd (bl_L I i) p v)) k q := tr_ev_congr tr_cpe
  have hloop : ∀ j, j ≤ m + 1 → (∀ k, k < j → tr_ti (bl_L I) (tr_hw Hf i (tr_ev (I 2) (I 48 4) t (upd (bl_L I i) p v))) (I 1 4) i (bl_L I i 2) k n = 0) → pm_G Γ 0 0 45 [(0, .ref 48), (1, .int (nI i)), (2, .int (nI p)), (3, .int v), (4, .int (bl_L I i 2)), (5, .int (nI j))] [] SHP (tr_cw I i (upd (bl_cp (I 50) (bl_L I i) 9) p v) (tr_ev (I 2) (I 48 4) t (upd (bl_cp (I 50) (bl_L I i) 9) p v)) j) J := by
    refine pm_up (fun j => (∀ k, k < j → tr_ti (bl_L I) (tr_hw Hf i (tr_ev (I 2) (I 48 4) t (upd (bl_L I i) p v))) (I 1 4) i (bl_L I i 2) k n = 0) → pm_G Γ 0 0 45 [(0, .ref 48), (1, .int (nI i)), (2, .int (nI p)), (3, .int v), (4, .int (bl_L I i 2)), (5, .int (nI j))] [] SHP (tr_cw I i (upd (bl_cp (I 50) (bl_L I i) 9) p v) (tr_ev (I 2) (I 48 4) t (upd (bl_cp (I 50) (bl_L I i) 9) p v)) j) J) (m + 1) (fun j hj ih hz => ?_)
    refine g_iload (pc := 45) (j := 5) C dX6_isClearWith_45 rfl ?_
    refine g_aload_n (pc := 47) (i := 0) (j := 0) C dX6_isClearWith_47 rfl rfl ?_
    refine g_getI (pc := 48) C dX6_isClearWith_48 lfX6_30 (by first | rfl | assumption) rfl ?_
    refine g_icmp_gt (pc := 51) (tgt := 92) C dX6_isClearWith_51 (by decide) (fun h51 => ?_) (fun h51 => ?_)
    · have ej : m < j := by rw [(tr_cw_off (by decide) (by omega) (by omega) _ : (tr_cw I i (upd (bl_cp (I 50) (bl_L I i) 9) p v) (tr_ev (I 2) (I 48 4) t (upd (bl_cp (I 50) (bl_L I i) 9) p v)) j) 48 = I 48), hm] at h51; exact (nI_ltI (by omega) (by omega)).mp h51
      refine g_iconst (pc := 92) (v := 1) C dX6_isClearWith_92 (by decide) ?_
      refine g_iret (pc := 93) C C2 dX6_isClearWith_93 (by first | rfl | exact pm_nz) (Nat.le_refl _) (Nat.le_refl _) ?_
      refine ⟨?_, rfl, rfl, tr_Cl_cw hi6 h6 j⟩
      rw [pm_b, if_pos (fun k hk => hz k (by omega))]
    · have hjm : j ≤ m := by rw [(tr_cw_off (by decide) (by omega) (by omega) _ : (tr_cw I i (upd (bl_cp (I 50) (bl_L I i) 9) p v) (tr_ev (I 2) (I 48 4) t (upd (bl_cp (I 50) (bl_L I i) 9) p v)) j) 48 = I 48), hm] at h51; exact Nat.le_of_not_lt (fun q => h51 ((nI_ltI (a := m) (b := j) (by omega) (by omega)).mpr q))
      refine g_iload (pc := 54) (j := 5) C dX6_isClearWith_54 rfl ?_
      refine g_if_le (pc := 56) (tgt := 65) C dX6_isClearWith_56 (by decide) (fun h56 => ?_) (fun h56 => ?_)
      · have ej0 : j = 0 := (nI_gt0 (by omega)).mp h56
        subst ej0
        refine g_aload_n (pc := 65) (i := 0) (j := 0) C dX6_isClearWith_65 rfl rfl ?_
        refine g_iload_n (pc := 66) (i := 1) (j := 1) C dX6_isClearWith_66 rfl rfl ?_
        refine g_iload (pc := 67) (j := 5) C dX6_isClearWith_67 rfl ?_
        refine g_callV (pc := 69) C dX6_isClearWith_69 lmX6_67 kcX6_note (by decide) (by first | rfl | assumption) (c_X6_note (k := 0) hi6 (by omega)) rfl rfl (Nat.le_of_ble_eq_true rfl) ?_
        intro r9 sh9 I9 J9 hD9; obtain ⟨rfl, rfl, rfl, rfl⟩ := pm_Dq hD9
        try simp only [Option.toList_some, Option.toList_none, List.cons_append, List.nil_append]
        refine pm_Geq (I := (tr_fw I i (tr_ev (I 2) (I 48 4) t (upd (bl_cp (I 50) (bl_L I i) 9) p v)) 0)) ?_ rfl rfl (by simp only [tr_cw, pm_s_at]; exact tr_fw_0 hi6 rfl) rfl
        have hHj : ∀ b, b < n → ∀ k, k ≤ 0 → (tr_fw I i (tr_ev (I 2) (I 48 4) t (upd (bl_cp (I 50) (bl_L I i) 9) p v)) 0) (52 + b) k = tr_hw Hf i (tr_ev (I 2) (I 48 4) t (upd (bl_L I i) p v)) b k := by
          intro b hb k hk
          by_cases e : b = i
          · subst e; rw [tr_fw_h hk, hG k 3 (by decide), tr_hw, if_pos rfl]
          · rw [tr_fw_off (by omega) (by omega) (by omega), hH b hb e k (by omega), tr_hw, if_neg e]
        refine g_aload_n (pc := 72) (i := 0) (j := 0) C dX6_isClearWith_72 rfl rfl ?_
        refine g_iload_n (pc := 73) (i := 1) (j := 1) C dX6_isClearWith_73 rfl rfl ?_
        refine g_iload (pc := 74) (j := 4) C dX6_isClearWith_74 rfl ?_
        refine g_iload (pc := 76) (j := 5) C dX6_isClearWith_76 rfl ?_
        refine g_callV (pc := 78) C dX6_isClearWith_78 lmX6_89 kcX6_touchedIn (by decide) (by first | rfl | assumption) (c_X6_touchedIn (m := 0) (I := (tr_fw I i (tr_ev (I 2) (I 48 4) t (upd (bl_cp (I 50) (bl_L I i) 9) p v)) 0)) (Hf := tr_hw Hf i (tr_ev (I 2) (I 48 4) t (upd (bl_L I i) p v))) (by rw [tr_fw_off (by decide) (by omega) (by omega)]; exact hn) h6 hHj hi (Nat.le_refl _) (by omega)) rfl rfl (Nat.le_of_ble_eq_true rfl) ?_
        intro r9 sh9 I9 J9 hD9; obtain ⟨rfl, rfl, rfl, rfl⟩ := pm_Dq hD9
        try simp only [Option.toList_some, Option.toList_none, List.cons_append, List.nil_append]
        rw [show nI (tr_ti (bl_L (tr_fw I i (tr_ev (I 2) (I 48 4) t (upd (bl_cp (I 50) (bl_L I i) 9) p v)) 0)) (tr_hw Hf i (tr_ev (I 2) (I 48 4) t (upd (bl_L I i) p v))) ((tr_fw I i (tr_ev (I 2) (I 48 4) t (upd (bl_cp (I 50) (bl_L I i) 9) p v)) 0) 1 4) i (bl_L I i 2) 0 n) = nI (tr_ti (bl_L I) (tr_hw Hf i (tr_ev (I 2) (I 48 4) t (upd (bl_L I i) p v))) (I 1 4) i (bl_L I i 2) 0 n) from by rw [tr_fw_off (by decide) (by omega) (by omega), tr_ti_congr hi (fun b hb => by show (tr_fw I i (tr_ev (I 2) (I 48 4) t (upd (bl_cp (I 50) (bl_L I i) 9) p v)) 0) _ 2 = _; rw [tr_fw_off (by omega) (by omega) (by omega)]) (fun b hb => rfl) n (Nat.le_refl _)]]
        refine g_if_le (pc := 81) (tgt := 86) C dX6_isClearWith_81 (by decide) (fun h81 => ?_) (fun h81 => ?_)
        · refine g_iinc (pc := 86) (j := 5) (v := _ + 1) (L2 := [(0, _), (1, _), (2, _), (3, _), (4, _), (5, _)]) C dX6_isClearWith_86 rfl (by first | rfl | exact pm_inc _) (by decide) rfl ?_
          refine g_goto (pc := 89) (tgt := 45) C dX6_isClearWith_89 (by decide) ?_
          have e9 := tr_ti_le (B := bl_L I) (Hf := tr_hw Hf i (tr_ev (I 2) (I 48 4) t (upd (bl_L I i) p v))) (gap := I 1 4) (i := i) (c := bl_L I i 2) (k := 0) n
          refine pm_Geq (ih (by omega) (fun k hk => ?_)) (by simp only [nI_1]) rfl rfl rfl
          by_cases e : k = 0
          · rw [e]; exact (nI_gt0 (by omega)).mp h81
          · exact hz k (by omega)
        · have e9 := tr_ti_le (B := bl_L I) (Hf := tr_hw Hf i (tr_ev (I 2) (I 48 4) t (upd (bl_L I i) p v))) (gap := I 1 4) (i := i) (c := bl_L I i 2) (k := 0) n
          have hne : ¬ tr_ti (bl_L I) (tr_hw Hf i (tr_ev (I 2) (I 48 4) t (upd (bl_L I i) p v))) (I 1 4) i (bl_L I i 2) (0) n = 0 := fun q => h81 ((nI_gt0 (by omega)).mpr q)
          refine g_iconst (pc := 84) (v := 0) C dX6_isClearWith_84 (by decide) ?_
          refine g_iret (pc := 85) C C2 dX6_isClearWith_85 (by first | rfl | exact pm_nz) (Nat.le_refl _) (Nat.le_refl _) ?_
          refine ⟨?_, rfl, rfl, tr_Cl_fw hi6 h6⟩
          rw [pm_b, if_neg (fun q => hne (q (0) (by omega)))]
      · obtain ⟨j1, rfl⟩ : ∃ j1, j = j1 + 1 := ⟨j - 1, by have : ¬ j = 0 := fun q => h56 ((nI_gt0 (by omega)).mpr q); omega⟩
        refine g_aload_n (pc := 59) (i := 0) (j := 0) C dX6_isClearWith_59 rfl rfl ?_
        refine g_iload (pc := 60) (j := 5) C dX6_isClearWith_60 rfl ?_
        refine g_callV (pc := 62) C dX6_isClearWith_62 lmX6_71 kcX6_step (by decide) (by first | rfl | assumption) (c_X6_step (t := t) (k := j1) (by show tr_fw _ _ _ _ 1 3 = _; rw [tr_fw_off (by decide) (by omega) (by omega)]; exact ht) (by omega)) rfl rfl (Nat.le_of_ble_eq_true rfl) ?_
        intro r9 sh9 I9 J9 hD9; obtain ⟨rfl, rfl, rfl, rfl⟩ := pm_Dq hD9
        try simp only [Option.toList_some, Option.toList_none, List.cons_append, List.nil_append]
        refine g_aload_n (pc := 65) (i := 0) (j := 0) C dX6_isClearWith_65 rfl rfl ?_
        refine g_iload_n (pc := 66) (i := 1) (j := 1) C dX6_isClearWith_66 rfl rfl ?_
        refine g_iload (pc := 67) (j := 5) C dX6_isClearWith_67 rfl ?_
        refine g_callV (pc := 69) C dX6_isClearWith_69 lmX6_67 kcX6_note (by decide) (by first | rfl | assumption) (c_X6_note (k := (j1 + 1)) hi6 (by omega)) rfl rfl (Nat.le_of_ble_eq_true rfl) ?_
        intro r9 sh9 I9 J9 hD9; obtain ⟨rfl, rfl, rfl, rfl⟩ := pm_Dq hD9
        try simp only [Option.toList_some, Option.toList_none, List.cons_append, List.nil_append]
        refine pm_Geq (I := (tr_fw I i (tr_ev (I 2) (I 48 4) t (upd (bl_cp (I 50) (bl_L I i) 9) p v)) (j1 + 1))) ?_ rfl rfl (by simp only [tr_cw]; rw [← tr_fw_next hi6, pm_s_at, tr_fw_50 hi6, show tr_fw I i (tr_ev (I 2) (I 48 4) t (upd (bl_cp (I 50) (bl_L I i) 9) p v)) j1 2 = I 2 from tr_fw_off (by decide) (by omega) (by omega), show tr_fw I i (tr_ev (I 2) (I 48 4) t (upd (bl_cp (I 50) (bl_L I i) 9) p v)) j1 48 = I 48 from tr_fw_off (by decide) (by omega) (by omega)]; rfl) rfl
        have hHj : ∀ b, b < n → ∀ k, k ≤ (j1 + 1) → (tr_fw I i (tr_ev (I 2) (I 48 4) t (upd (bl_cp (I 50) (bl_L I i) 9) p v)) (j1 + 1)) (52 + b) k = tr_hw Hf i (tr_ev (I 2) (I 48 4) t (upd (bl_L I i) p v)) b k := by
          intro b hb k hk
          by_cases e : b = i
          · subst e; rw [tr_fw_h hk, hG k 3 (by decide), tr_hw, if_pos rfl]
          · rw [tr_fw_off (by omega) (by omega) (by omega), hH b hb e k (by omega), tr_hw, if_neg e]
        refine g_aload_n (pc := 72) (i := 0) (j := 0) C dX6_isClearWith_72 rfl rfl ?_
        refine g_iload_n (pc := 73) (i := 1) (j := 1) C dX6_isClearWith_73 rfl rfl ?_
        refine g_iload (pc := 74) (j := 4) C dX6_isClearWith_74 rfl ?_
        refine g_iload (pc := 76) (j := 5) C dX6_isClearWith_76 rfl ?_
        refine g_callV (pc := 78) C dX6_isClearWith_78 lmX6_89 kcX6_touchedIn (by decide) (by first | rfl | assumption) (c_X6_touchedIn (m := (j1 + 1)) (I := (tr_fw I i (tr_ev (I 2) (I 48 4) t (upd (bl_cp (I 50) (bl_L I i) 9) p v)) (j1 + 1))) (Hf := tr_hw Hf i (tr_ev (I 2) (I 48 4) t (upd (bl_L I i) p v))) (by rw [tr_fw_off (by decide) (by omega) (by omega)]; exact hn) h6 hHj hi (Nat.le_refl _) (by omega)) rfl rfl (Nat.le_of_ble_eq_true rfl) ?_
        intro r9 sh9 I9 J9 hD9; obtain ⟨rfl, rfl, rfl, rfl⟩ := pm_Dq hD9
        try simp only [Option.toList_some, Option.toList_none, List.cons_append, List.nil_append]
        rw [show nI (tr_ti (bl_L (tr_fw I i (tr_ev (I 2) (I 48 4) t (upd (bl_cp (I 50) (bl_L I i) 9) p v)) (j1 + 1))) (tr_hw Hf i (tr_ev (I 2) (I 48 4) t (upd (bl_L I i) p v))) ((tr_fw I i (tr_ev (I 2) (I 48 4) t (upd (bl_cp (I 50) (bl_L I i) 9) p v)) (j1 + 1)) 1 4) i (bl_L I i 2) (j1 + 1) n) = nI (tr_ti (bl_L I) (tr_hw Hf i (tr_ev (I 2) (I 48 4) t (upd (bl_L I i) p v))) (I 1 4) i (bl_L I i 2) (j1 + 1) n) from by rw [tr_fw_off (by decide) (by omega) (by omega), tr_ti_congr hi (fun b hb => by show (tr_fw I i (tr_ev (I 2) (I 48 4) t (upd (bl_cp (I 50) (bl_L I i) 9) p v)) (j1 + 1)) _ 2 = _; rw [tr_fw_off (by omega) (by omega) (by omega)]) (fun b hb => rfl) n (Nat.le_refl _)]]
        refine g_if_le (pc := 81) (tgt := 86) C dX6_isClearWith_81 (by decide) (fun h81 => ?_) (fun h81 => ?_)
        · refine g_iinc (pc := 86) (j := 5) (v := _ + 1) (L2 := [(0, _), (1, _), (2, _), (3, _), (4, _), (5, _)]) C dX6_isClearWith_86 rfl (by first | rfl | exact pm_inc _) (by decide) rfl ?_
          refine g_goto (pc := 89) (tgt := 45) C dX6_isClearWith_89 (by decide) ?_
          have e9 := tr_ti_le (B := bl_L I) (Hf := tr_hw Hf i (tr_ev (I 2) (I 48 4) t (upd (bl_L I i) p v))) (gap := I 1 4) (i := i) (c := bl_L I i 2) (k := (j1 + 1)) n
          refine pm_Geq (ih (by omega) (fun k hk => ?_)) (by simp only [nI_1]) rfl rfl rfl
          by_cases e : k = (j1 + 1)
          · rw [e]; exact (nI_gt0 (by omega)).mp h81
          · exact hz k (by omega)
        · have e9 := tr_ti_le (B := bl_L I) (Hf := tr_hw Hf i (tr_ev (I 2) (I 48 4) t (upd (bl_L I i) p v))) (gap := I 1 4) (i := i) (c := bl_L I i 2) (k := (j1 + 1)) n
          have hne : ¬ tr_ti (bl_L I) (tr_hw Hf i (tr_ev (I 2) (I 48 4) t (upd (bl_L I i) p v))) (I 1 4) i (bl_L I i 2) ((j1 + 1)) n = 0 := fun q => h81 ((nI_gt0 (by omega)).mpr q)
          refine g_iconst (pc := 84) (v := 0) C dX6_isClearWith_84 (by decide) ?_
          refine g_iret (pc := 85) C C2 dX6_isClearWith_85 (by first | rfl | exact pm_nz) (Nat.le_refl _) (Nat.le_refl _) ?_
          refine ⟨?_, rfl, rfl, tr_Cl_fw hi6 h6⟩
          rw [pm_b, if_neg (fun q => hne (q ((j1 + 1)) (by omega)))]
  refine g_aload_n (pc := 0) (i := 0) (j := 0) C dX6_isClearWith_0 rfl rfl ?_
  refine g_getR (pc := 1) C dX6_isClearWith_1 lfX6_33 (by first | rfl | assumption) rfl ?_
  refine g_getR (pc := 4) C dX6_isClearWith_4 lfX6_51 (by first | rfl | assumption) rfl ?_
  refine g_iload_n (pc := 7) (i := 1) (j := 1) C dX6_isClearWith_7 rfl rfl ?_
  refine g_aald (pc := 8) C dX6_isClearWith_8 (by first | rfl | assumption) (fun _ => rfl) rfl (by decide) (by first | rfl | assumption) (rsB i hi6) ?_
  refine g_getR (pc := 9) C dX6_isClearWith_9 lfX6_55 (by first | rfl | assumption) rfl ?_
  refine g_iconst (pc := 12) (v := 2) C dX6_isClearWith_12 (by decide) ?_
  refine g_iald (pc := 13) C dX6_isClearWith_13 (by first | rfl | assumption) (by decide) (by first | rfl | assumption) (by first | assumption | decide | omega) ?_
  refine g_istore (pc := 14) (L2 := [(0, _), (1, _), (2, _), (3, _), (4, _)]) C dX6_isClearWith_14 (by decide) rfl ?_
  refine g_aload_n (pc := 16) (i := 0) (j := 0) C dX6_isClearWith_16 rfl rfl ?_
  refine g_getR (pc := 17) C dX6_isClearWith_17 lfX6_12 (by first | rfl | assumption) rfl ?_
  refine g_aload_n (pc := 20) (i := 0) (j := 0) C dX6_isClearWith_20 rfl rfl ?_
  refine g_getR (pc := 21) C dX6_isClearWith_21 lfX6_33 (by first | rfl | assumption) rfl ?_
  refine g_getR (pc := 24) C dX6_isClearWith_24 lfX6_51 (by first | rfl | assumption) rfl ?_
  refine g_iload_n (pc := 27) (i := 1) (j := 1) C dX6_isClearWith_27 rfl rfl ?_
  refine g_aald (pc := 28) C dX6_isClearWith_28 (by first | rfl | assumption) (fun _ => rfl) rfl (by decide) (by first | rfl | assumption) (rsB i hi6) ?_
  refine g_callV (pc := 29) C dX6_isClearWith_29 lmX6_63 kcX1_copyFrom (by decide) (by first | rfl | assumption) (c_X1_copyFrom (a := 49) (q := 50) rfl rfl e1 e2) rfl rfl (Nat.le_of_ble_eq_true rfl) ?_
  intro r9 sh9 I9 J9 hD9; obtain ⟨rfl, rfl, rfl, rfl⟩ := pm_Dq hD9
  try simp only [Option.toList_some, Option.toList_none, List.cons_append, List.nil_append]
  refine g_aload_n (pc := 32) (i := 0) (j := 0) C dX6_isClearWith_32 rfl rfl ?_
  refine g_getR (pc := 33) C dX6_isClearWith_33 lfX6_12 (by first | rfl | assumption) rfl ?_
  refine g_getR (pc := 36) C dX6_isClearWith_36 lfX6_55 (by first | rfl | assumption) rfl ?_
  refine g_iload_n (pc := 39) (i := 2) (j := 2) C dX6_isClearWith_39 rfl rfl ?_
  refine g_iload_n (pc := 40) (i := 3) (j := 3) C dX6_isClearWith_40 rfl rfl ?_
  refine g_iast (pc := 41) C dX6_isClearWith_41 (by first | rfl | assumption) (by decide) (by first | rfl | assumption) (by first | assumption | decide | omega) ?_
  refine g_iconst (pc := 42) (v := 0) C dX6_isClearWith_42 (by decide) ?_
  refine g_istore (pc := 43) (L2 := [(0, _), (1, _), (2, _), (3, _), (4, _), (5, _)]) C dX6_isClearWith_43 (by decide) rfl ?_
  refine pm_Geq (hloop 0 (Nat.zero_le _) (fun k hk => by omega)) rfl rfl ?_ rfl
  simp only [pm_u_s, pm_s_at, pm_s_s]
  rfl
