/-! The trial run, and what is read off it -/
def tr_In (I : pm_I) (t m : Nat) (c : Int32) (j : Nat) (I2 : pm_I) : Prop := tr_off I I2 ∧ I2 48 4 = c ∧ I2 48 5 = nI m ∧ ∀ b, b < j → ∀ k, k ≤ m → I2 (52 + b) k = tr_ev (I 2) c t (bl_L I b) k 3 ∧ I2 (59 + b) k = tr_ev (I 2) c t (bl_L I b) k 5
theorem tr_In_0 {I : pm_I} {t m : Nat} {c : Int32} : tr_In I t m c 0 (pm_u (pm_u I 48 5 (nI m)) 48 4 c) := by
  refine ⟨fun a ha => ?_, ?_, ?_, fun b hb => by omega⟩
  · rw [pm_u_off (by omega), pm_u_off (by omega)]
  · rw [pm_u_at, pk_us]
  · rw [pm_u_at, pk_un (by decide), pm_u_at, pk_us]
theorem tr_same {I : pm_I} {g : Nat → Int32} {b : Nat} : ∀ p, p < 9 → upd (bl_cp g (bl_L I b) 9) 6 (bl_L I b 6) p = bl_L I b p := by
  intro p hp
  unfold upd bl_cp
  split
  · next h => rw [h]
  · first | rfl | rw [if_pos hp] | simp [hp]
theorem tr_In_next {I I2 : pm_I} {t m j : Nat} {c : Int32} (hj : j < 6) (h : tr_In I t m c j I2) : tr_In I t m c (j + 1) (tr_fw I2 j (tr_ev (I2 2) (I2 48 4) t (upd (bl_cp (I2 50) (bl_L I2 j) 9) 6 (bl_L I2 j 6))) m) := by
  obtain ⟨h1, h2, h3, h4⟩ := h
  have e2 : I2 2 = I 2 := h1 2 (by decide)
  have eL : bl_L I2 j = bl_L I j := h1 (5 + 2 * j) (by omega)
  have ev : ∀ k p, p < 9 → tr_ev (I2 2) (I2 48 4) t (upd (bl_cp (I2 50) (bl_L I2 j) 9) 6 (bl_L I2 j 6)) k p = tr_ev (I 2) c t (bl_L I j) k p := by
    rw [e2, h2, eL]
    exact tr_ev_congr tr_same
  refine ⟨fun a ha => ?_, ?_, ?_, fun b hb k hk => ?_⟩
  · rw [tr_fw_off (by omega) (by omega) (by omega)]
    exact h1 a ha
  · rw [tr_fw_off (by omega) (by omega) (by omega)]
    exact h2
  · rw [tr_fw_off (by omega) (by omega) (by omega)]
    exact h3
  · by_cases hb2 : b = j
    · subst hb2
      rw [tr_fw_h hk, tr_fw_g hk]
      exact ⟨ev k 3 (by decide), ev k 5 (by decide)⟩
    · rw [tr_fw_off (by omega) (by omega) (by omega), tr_fw_off (by omega) (by omega) (by omega)]
      exact h4 b (by omega) k hk
theorem nI_min (h t : Nat) (hh : h ≤ 48) (ht : t ≤ 96) : (if 96 - nI t < nI h then 96 - nI t else nI h) = nI (min h (96 - t)) := by
  have e : (96 : Int32) - nI t = nI (96 - t) := by
    have h1 : nI (96 - t) + nI t = nI 96 := by rw [nI_add]; congr 1; omega
    have h2 : nI 96 = 96 := rfl
    rw [← h2, ← h1]
    exact Int32.add_sub_cancel _ _
  rw [e]
  have h3 := nI_ltI (a := 96 - t) (b := h) (by omega) (by omega)
  split
  · next q => rw [Nat.min_eq_right (by have := h3.mp q; omega)]
  · next q => rw [Nat.min_eq_left (Nat.le_of_not_lt (fun z => q (h3.mpr z)))]
/-- the first j > i that i touches behind k hours: r are left to look at -/
def tr_sj (B Hf : Nat → Nat → Int32) (gap : Int32) (k n i : Nat) : Nat → Option Nat
  | 0 => none
  | r + 1 => if B i 2 = B (n - (r + 1)) 2 ∧ bl_near (Hf i k) (Hf (n - (r + 1)) k) gap then some (n - (r + 1)) else tr_sj B Hf gap k n i r
def tr_si (B Hf : Nat → Nat → Int32) (gap : Int32) (k n : Nat) : Nat → Int32
  | 0 => -3
  | r + 1 => match tr_sj B Hf gap k n (n - (r + 1)) r with
    | some j => nI (10 * (n - (r + 1)) + j)
    | none => tr_si B Hf gap k n r
theorem tr_sj_step {B Hf : Nat → Nat → Int32} {gap : Int32} {k n i j : Nat} (h : j < n) : tr_sj B Hf gap k n i (n - j) = if B i 2 = B j 2 ∧ bl_near (Hf i k) (Hf j k) gap then some j else tr_sj B Hf gap k n i (n - (j + 1)) := by
  have e : n - j = (n - (j + 1)) + 1 := by omega
  rw [e, tr_sj, show n - (n - (j + 1) + 1) = j by omega]
theorem tr_si_step {B Hf : Nat → Nat → Int32} {gap : Int32} {k n i : Nat} (h : i < n) : tr_si B Hf gap k n (n - i) = match tr_sj B Hf gap k n i (n - (i + 1)) with
    | some j => nI (10 * i + j)
    | none => tr_si B Hf gap k n (n - (i + 1)) := by
  have e : n - i = (n - (i + 1)) + 1 := by omega
  rw [e, tr_si, show n - (n - (i + 1) + 1) = i by omega]
/-- sums over the balloons of an hour, over the hours -/
def tr_s1 (B Hf : Nat → Nat → Int32) (gap : Int32) (n k : Nat) : Nat → Nat
  | 0 => 0
  | i + 1 => tr_s1 B Hf gap n k i + tr_ti B Hf gap i (B i 2) k n
def tr_s2 (B Hf : Nat → Nat → Int32) (gap : Int32) (n : Nat) : Nat → Nat
  | 0 => 0
  | k + 1 => tr_s2 B Hf gap n k + tr_s1 B Hf gap n (k + 1) n
theorem pm_drop {Γ : pm_T} {cells slots pc : Nat} {L L' : List (Nat × Value)} {st : List Value} {sh : List pm_S} {I : pm_I} {J : pm_J} (h : pm_G Γ cells slots pc L st sh I J) (ks : List Nat) (hL : ks.filterMap (fun k => L'[k]?) = L) : pm_G Γ cells slots pc L' st sh I J := by
  obtain ⟨p, l, e, R, s, m, args, below, meth, c, Q, u, nL⟩ := Γ
  intro H locs ls hW hS hl hc hs
  refine h H locs ls hW hS ⟨hl.1, hl.2.1, fun q hq => hl.2.2 q ?_⟩ hc hs
  obtain ⟨q0, hm, rfl⟩ := List.mem_map.mp hq
  rw [← hL] at hm
  obtain ⟨k, -, hk⟩ := List.mem_filterMap.mp hm
  exact List.mem_map.mpr ⟨q0, List.mem_of_getElem? hk, rfl⟩
set_option maxHeartbeats 4000000 in
set_option maxRecDepth 100000 in
theorem c_X6_run {d : Nat} {I : pm_I} {J : pm_J} {n : Nat} (hn : I 1 2 = nI n) (h6 : n ≤ 6) {t h : Nat} {c : Int32} (ht : I 1 3 = nI t) (ht96 : t ≤ 96) (hh : h ≤ 48) : pm_M (d + 5) 0 0 yX6_run cX6_run 4 (none : Option Jvm.ClassFile.FieldType) [.ref 48, .int (nI h), .int c] SHP I J (fun r sh2 I2 J2 => r = none ∧ sh2 = SHP ∧ J2 = J ∧ tr_In I t (min h (96 - t)) c n I2) := by
  refine pm_start (own := RX6) (nm := "run") (by decide) rfl rfl (L := [(0, .ref 48), (1, .int (nI h)), (2, .int c)]) rfl (Nat.le_of_ble_eq_true rfl) (fun Γ C C2 => ?_)
  generalize hm : min h (96 - t) = m at C2
  have hm1 : m ≤ 48 := by omega
  have hm2 : t + m ≤ 96 := by omega
  have hloop : ∀ j, j ≤ n → ∀ I2, tr_In I t m c j I2 → pm_G Γ 0 0 25 [(0, .ref 48), (1, .int (nI h)), (2, .int c), (3, .int (nI j))] [] SHP I2 J := by
    refine pm_up (fun j => ∀ I2, tr_In I t m c j I2 → pm_G Γ 0 0 25 [(0, .ref 48), (1, .int (nI h)), (2, .int c), (3, .int (nI j))] [] SHP I2 J) n (fun j hj ih I2 hI => ?_)
    have e1 : I2 1 = I 1 := hI.1 1 (by decide)
    have hn2 : I2 1 2 = nI n := by rw [e1]; exact hn
    have ht2 : I2 1 3 = nI t := by rw [e1]; exact ht
    refine g_iload_n (pc := 25) (i := 3) (j := 3) C dX6_run_25 rfl rfl ?_
    refine g_aload_n (pc := 26) (i := 0) (j := 0) C dX6_run_26 rfl rfl ?_
    refine g_getR (pc := 27) C dX6_run_27 lfX6_33 (by first | rfl | assumption) rfl ?_
    refine g_getI (pc := 30) C dX6_run_30 lfX6_48 (by first | rfl | assumption) rfl ?_
    refine g_icmp_ge (pc := 33) (tgt := 64) C dX6_run_33 (by decide) (fun h33 => ?_) (fun h33 => ?_)
    · have ej : j = n := by (try rw [hn2] at h33); have := (nI_leI (a := n) (b := j) (by omega) (by omega)).mp h33; omega
      subst ej
      refine g_vret (pc := 64) C C2 dX6_run_64 (Nat.le_refl _) (Nat.le_refl _) ?_
      exact ⟨rfl, rfl, rfl, hI⟩
    · have hlt : j < n := by (try rw [hn2] at h33); exact Nat.lt_of_not_le (fun q => h33 ((nI_leI (a := n) (b := j) (by omega) (by omega)).mpr q))
      have hj6 : j < 6 := by omega
      have e3 := shB j hj6
      have e4 := shP j hj6
      refine g_aload_n (pc := 36) (i := 0) (j := 0) C dX6_run_36 rfl rfl ?_
      refine g_iload_n (pc := 37) (i := 3) (j := 3) C dX6_run_37 rfl rfl ?_
      refine g_bipush (pc := 38) (v := 6) C dX6_run_38 (by decide) ?_
      refine g_aload_n (pc := 40) (i := 0) (j := 0) C dX6_run_40 rfl rfl ?_
      refine g_getR (pc := 41) C dX6_run_41 lfX6_33 (by first | rfl | assumption) rfl ?_
      refine g_getR (pc := 44) C dX6_run_44 lfX6_51 (by first | rfl | assumption) rfl ?_
      refine g_iload_n (pc := 47) (i := 3) (j := 3) C dX6_run_47 rfl rfl ?_
      refine g_aald (pc := 48) C dX6_run_48 (by first | rfl | assumption) (fun _ => rfl) rfl (by decide) (by first | rfl | assumption) (rsB j hj6) ?_
      refine g_getR (pc := 49) C dX6_run_49 lfX6_55 (by first | rfl | assumption) rfl ?_
      refine g_bipush (pc := 52) (v := 6) C dX6_run_52 (by decide) ?_
      refine g_iald (pc := 54) C dX6_run_54 (by first | rfl | assumption) (by decide) (by first | rfl | assumption) (by first | assumption | decide | omega) ?_
      refine g_callV (pc := 55) C dX6_run_55 lmX6_59 kcX6_followWith (by decide) (by first | rfl | assumption) (c_X6_followWith (p := 6) hj6 (by decide) ht2 hI.2.2.1 hm2 hm1) rfl rfl (Nat.le_of_ble_eq_true rfl) ?_
      intro r9 sh9 I9 J9 hD9; obtain ⟨rfl, rfl, rfl, rfl⟩ := pm_Dq hD9
      try simp only [Option.toList_some, Option.toList_none, List.cons_append, List.nil_append]
      refine g_iinc (pc := 58) (j := 3) (v := _ + 1) (L2 := [(0, _), (1, _), (2, _), (3, _)]) C dX6_run_58 rfl (by first | rfl | exact pm_inc _) (by decide) rfl ?_
      refine g_goto (pc := 61) (tgt := 25) C dX6_run_61 (by decide) ?_
      exact pm_Geq (ih hlt _ (tr_In_next hj6 hI)) (by simp only [nI_1]) rfl rfl rfl
  refine g_aload_n (pc := 0) (i := 0) (j := 0) C dX6_run_0 rfl rfl ?_
  refine g_iload_n (pc := 1) (i := 1) (j := 1) C dX6_run_1 rfl rfl ?_
  refine g_bipush (pc := 2) (v := 96) C dX6_run_2 (by decide) ?_
  refine g_aload_n (pc := 4) (i := 0) (j := 0) C dX6_run_4 rfl rfl ?_
  refine g_getR (pc := 5) C dX6_run_5 lfX6_33 (by first | rfl | assumption) rfl ?_
  refine g_getI (pc := 8) C dX6_run_8 lfX6_37 (by first | rfl | assumption) rfl ?_
  refine g_isub (pc := 11) C dX6_run_11 ?_
  refine g_mmin (pc := 12) C dX6_run_12 ljX6_42 lsM_min liM kcM_min (Nat.le_of_ble_eq_true rfl) ?_
  rw [ht, nI_min h t hh ht96, hm]
  refine g_putI (pc := 15) C dX6_run_15 lpX6_30 rfl rfl (by first | rfl | assumption) rfl ?_
  refine g_aload_n (pc := 18) (i := 0) (j := 0) C dX6_run_18 rfl rfl ?_
  refine g_iload_n (pc := 19) (i := 2) (j := 2) C dX6_run_19 rfl rfl ?_
  refine g_putI (pc := 20) C dX6_run_20 lpX6_26 rfl rfl (by first | rfl | assumption) rfl ?_
  refine g_iconst (pc := 23) (v := 0) C dX6_run_23 (by decide) ?_
  refine g_istore_n (pc := 24) (i := 3) (L2 := [(0, _), (1, _), (2, _), (3, _)]) C dX6_run_24 rfl (by decide) rfl ?_
  exact hloop 0 (Nat.zero_le _) _ tr_In_0

set_option maxHeartbeats 4000000 in
set_option maxRecDepth 100000 in
theorem c_X6_isClearIn {d : Nat} {I : pm_I} {J : pm_J} {i m : Nat} {c : Int32} {n : Nat} (hn : I 1 2 = nI n) (h6 : n ≤ 6) {Hf : Nat → Nat → Int32} (hH : ∀ b, b < n → ∀ k, k ≤ m → I (52 + b) k = Hf b k) (hm : I 48 5 = nI m) (hi : i < n) (h48 : m ≤ 48) : pm_M (d + 4) 0 0 yX6_isClearIn cX6_isClearIn 4 (some .boolean) [.ref 48, .int (nI i), .int c] SHP I J (pm_D (some (.int (pm_b (∀ k, k < m + 1 → tr_ti (bl_L I) Hf (I 1 4) i c k n = 0)))) SHP I J) := by
  refine pm_start (own := RX6) (nm := "isClearIn") (by decide) rfl rfl (L := [(0, .ref 48), (1, .int (nI i)), (2, .int c)]) rfl (Nat.le_of_ble_eq_true rfl) (fun Γ C C2 => ?_)
  have hloop : ∀ j, j ≤ m + 1 → (∀ k, k < j → tr_ti (bl_L I) Hf (I 1 4) i c k n = 0) → pm_G Γ 0 0 2 [(0, .ref 48), (1, .int (nI i)), (2, .int c), (3, .int (nI j))] [] SHP I J := by
    refine pm_up (fun j => (∀ k, k < j → tr_ti (bl_L I) Hf (I 1 4) i c k n = 0) → pm_G Γ 0 0 2 [(0, .ref 48), (1, .int (nI i)), (2, .int c), (3, .int (nI j))] [] SHP I J) (m + 1) (fun j hj ih hz => ?_)
    refine g_iload_n (pc := 2) (i := 3) (j := 3) C dX6_isClearIn_2 rfl rfl ?_
    refine g_aload_n (pc := 3) (i := 0) (j := 0) C dX6_isClearIn_3 rfl rfl ?_
    refine g_getI (pc := 4) C dX6_isClearIn_4 lfX6_30 (by first | rfl | assumption) rfl ?_
    refine g_icmp_gt (pc := 7) (tgt := 28) C dX6_isClearIn_7 (by decide) (fun h7 => ?_) (fun h7 => ?_)
    · have ej : m < j := by rw [hm] at h7; exact (nI_ltI (by omega) (by omega)).mp h7
      refine g_iconst (pc := 28) (v := 1) C dX6_isClearIn_28 (by decide) ?_
      refine g_iret (pc := 29) C C2 dX6_isClearIn_29 (by first | rfl | exact pm_nz) (Nat.le_refl _) (Nat.le_refl _) ?_
      refine ⟨?_, rfl, rfl, rfl⟩
      rw [pm_b, if_pos (fun k hk => hz k (by omega))]
    · have hjm : j ≤ m := by rw [hm] at h7; exact Nat.le_of_not_lt (fun q => h7 ((nI_ltI (a := m) (b := j) (by omega) (by omega)).mpr q))
      refine g_aload_n (pc := 10) (i := 0) (j := 0) C dX6_isClearIn_10 rfl rfl ?_
      refine g_iload_n (pc := 11) (i := 1) (j := 1) C dX6_isClearIn_11 rfl rfl ?_
      refine g_iload_n (pc := 12) (i := 2) (j := 2) C dX6_isClearIn_12 rfl rfl ?_
      refine g_iload_n (pc := 13) (i := 3) (j := 3) C dX6_isClearIn_13 rfl rfl ?_
      refine g_callV (pc := 14) C dX6_isClearIn_14 lmX6_89 kcX6_touchedIn (by decide) (by first | rfl | assumption) (c_X6_touchedIn hn h6 hH hi hjm h48) rfl rfl (Nat.le_of_ble_eq_true rfl) ?_
      intro r9 sh9 I9 J9 hD9; obtain ⟨rfl, rfl, rfl, rfl⟩ := pm_Dq hD9
      try simp only [Option.toList_some, Option.toList_none, List.cons_append, List.nil_append]
      refine g_if_le (pc := 17) (tgt := 22) C dX6_isClearIn_17 (by decide) (fun h17 => ?_) (fun h17 => ?_)
      · refine g_iinc (pc := 22) (j := 3) (v := _ + 1) (L2 := [(0, _), (1, _), (2, _), (3, _)]) C dX6_isClearIn_22 rfl (by first | rfl | exact pm_inc _) (by decide) rfl ?_
        refine g_goto (pc := 25) (tgt := 2) C dX6_isClearIn_25 (by decide) ?_
        have e9 := tr_ti_le (B := bl_L I) (Hf := Hf) (gap := I 1 4) (i := i) (c := c) (k := j) n
        refine pm_Geq (ih (by omega) (fun k hk => ?_)) (by simp only [nI_1]) rfl rfl rfl
        by_cases e : k = j
        · subst e; exact (nI_gt0 (by omega)).mp h17
        · exact hz k (by omega)
      · have e9 := tr_ti_le (B := bl_L I) (Hf := Hf) (gap := I 1 4) (i := i) (c := c) (k := j) n
        have hne : ¬ tr_ti (bl_L I) Hf (I 1 4) i c j n = 0 := fun q => h17 ((nI_gt0 (by omega)).mpr q)
        refine g_iconst (pc := 20) (v := 0) C dX6_isClearIn_20 (by decide) ?_
        refine g_iret (pc := 21) C C2 dX6_isClearIn_21 (by first | rfl | exact pm_nz) (Nat.le_refl _) (Nat.le_refl _) ?_
        refine ⟨?_, rfl, rfl, rfl⟩
        rw [pm_b, if_neg (fun q => hne (q j (by omega)))]
  refine g_iconst (pc := 0) (v := 0) C dX6_isClearIn_0 (by decide) ?_
  refine g_istore_n (pc := 1) (i := 3) (L2 := [(0, _), (1, _), (2, _), (3, _)]) C dX6_isClearIn_1 rfl (by decide) rfl ?_
  exact hloop 0 (Nat.zero_le _) (fun k hk => by omega)

set_option maxHeartbeats 4000000 in
set_option maxRecDepth 100000 in
theorem c_X6_leastPair {d : Nat} {I : pm_I} {J : pm_J} {k m : Nat} {n : Nat} (hn : I 1 2 = nI n) (h6 : n ≤ 6) {Hf : Nat → Nat → Int32} (hH : ∀ b, b < n → ∀ k, k ≤ m → I (52 + b) k = Hf b k) (hk : k ≤ m) (h48 : m ≤ 48) : pm_M (d + 3) 0 0 yX6_leastPair cX6_leastPair 4 (some .int) [.ref 48, .int (nI k)] SHP I J (pm_D (some (.int (tr_si (bl_L I) Hf (I 1 4) k n n))) SHP I J) := by
  refine pm_start (own := RX6) (nm := "leastPair") (by decide) rfl rfl (L := [(0, .ref 48), (1, .int (nI k))]) rfl (Nat.le_of_ble_eq_true rfl) (fun Γ C C2 => ?_)
  have drop : ∀ (x y : Int32), pm_G Γ 0 0 2 [(0, .ref 48), (1, .int (nI k)), (2, .int x)] [] SHP I J → pm_G Γ 0 0 2 [(0, .ref 48), (1, .int (nI k)), (2, .int x), (3, .int y)] [] SHP I J := fun x y h => pm_drop h [0, 1, 2] rfl
  have hloop : ∀ j, j ≤ n → tr_si (bl_L I) Hf (I 1 4) k n n = tr_si (bl_L I) Hf (I 1 4) k n (n - j) → pm_G Γ 0 0 2 [(0, .ref 48), (1, .int (nI k)), (2, .int (nI j))] [] SHP I J := by
    refine pm_up (fun j => tr_si (bl_L I) Hf (I 1 4) k n n = tr_si (bl_L I) Hf (I 1 4) k n (n - j) → pm_G Γ 0 0 2 [(0, .ref 48), (1, .int (nI k)), (2, .int (nI j))] [] SHP I J) n (fun j hj ih hR => ?_)
    refine g_iload_n (pc := 2) (i := 2) (j := 2) C dX6_leastPair_2 rfl rfl ?_
    refine g_aload_n (pc := 3) (i := 0) (j := 0) C dX6_leastPair_3 rfl rfl ?_
    refine g_getR (pc := 4) C dX6_leastPair_4 lfX6_33 (by first | rfl | assumption) rfl ?_
    refine g_getI (pc := 7) C dX6_leastPair_7 lfX6_48 (by first | rfl | assumption) rfl ?_
    refine g_icmp_ge (pc := 10) (tgt := 69) C dX6_leastPair_10 (by decide) (fun h10 => ?_) (fun h10 => ?_)
    · have ej : j = n := by (try rw [hn] at h10); have := (nI_leI (a := n) (b := j) (by omega) (by omega)).mp h10; omega
      subst ej
      refine g_bipush (pc := 69) (v := (-3)) C dX6_leastPair_69 (by decide) ?_
      refine g_iret (pc := 71) C C2 dX6_leastPair_71 rfl (Nat.le_refl _) (Nat.le_refl _) ?_
      refine ⟨?_, rfl, rfl, rfl⟩
      rw [hR, Nat.sub_self]
      rfl
    · have hlt : j < n := by (try rw [hn] at h10); exact Nat.lt_of_not_le (fun q => h10 ((nI_leI (a := n) (b := j) (by omega) (by omega)).mpr q))
      refine g_iload_n (pc := 13) (i := 2) (j := 2) C dX6_leastPair_13 rfl rfl ?_
      refine g_iconst (pc := 14) (v := 1) C dX6_leastPair_14 (by decide) ?_
      refine g_iadd (pc := 15) C dX6_leastPair_15 ?_
      refine g_istore_n (pc := 16) (i := 3) (L2 := [(0, _), (1, _), (2, _), (3, _)]) C dX6_leastPair_16 rfl (by decide) rfl ?_
      have hq : ∀ i, i ≤ n → (j < i → tr_si (bl_L I) Hf (I 1 4) k n n = (match tr_sj (bl_L I) Hf (I 1 4) k n j (n - i) with | some q => nI (10 * j + q) | none => tr_si (bl_L I) Hf (I 1 4) k n (n - (j + 1))) → pm_G Γ 0 0 17 [(0, .ref 48), (1, .int (nI k)), (2, .int (nI j)), (3, .int (nI i))] [] SHP I J) := by
        refine pm_up (fun i => j < i → tr_si (bl_L I) Hf (I 1 4) k n n = (match tr_sj (bl_L I) Hf (I 1 4) k n j (n - i) with | some q => nI (10 * j + q) | none => tr_si (bl_L I) Hf (I 1 4) k n (n - (j + 1))) → pm_G Γ 0 0 17 [(0, .ref 48), (1, .int (nI k)), (2, .int (nI j)), (3, .int (nI i))] [] SHP I J) n (fun i hi ih2 hji hR2 => ?_)
        refine g_iload_n (pc := 17) (i := 3) (j := 3) C dX6_leastPair_17 rfl rfl ?_
        refine g_aload_n (pc := 18) (i := 0) (j := 0) C dX6_leastPair_18 rfl rfl ?_
        refine g_getR (pc := 19) C dX6_leastPair_19 lfX6_33 (by first | rfl | assumption) rfl ?_
        refine g_getI (pc := 22) C dX6_leastPair_22 lfX6_48 (by first | rfl | assumption) rfl ?_
        refine g_icmp_ge (pc := 25) (tgt := 63) C dX6_leastPair_25 (by decide) (fun h25 => ?_) (fun h25 => ?_)
        · have ei : n ≤ i := by rw [hn] at h25; exact (nI_leI (by omega) (by omega)).mp h25
          refine g_iinc (pc := 63) (j := 2) (v := _ + 1) (L2 := [(0, _), (1, _), (2, _), (3, _)]) C dX6_leastPair_63 rfl (by first | rfl | exact pm_inc _) (by decide) rfl ?_
          refine g_goto (pc := 66) (tgt := 2) C dX6_leastPair_66 (by decide) ?_
          refine drop _ _ (pm_Geq (ih hlt ?_) (by simp only [nI_1]) rfl rfl rfl)
          rw [hR2, show n - i = 0 by omega]
          rfl
        · have hilt : i < n := by rw [hn] at h25; exact Nat.lt_of_not_le (fun q => h25 ((nI_leI (a := n) (b := i) (by omega) (by omega)).mpr q))
          refine g_aload_n (pc := 28) (i := 0) (j := 0) C dX6_leastPair_28 rfl rfl ?_
          refine g_getR (pc := 29) C dX6_leastPair_29 lfX6_33 (by first | rfl | assumption) rfl ?_
          refine g_iload_n (pc := 32) (i := 2) (j := 2) C dX6_leastPair_32 rfl rfl ?_
          refine g_iload_n (pc := 33) (i := 3) (j := 3) C dX6_leastPair_33 rfl rfl ?_
          refine g_callV (pc := 34) C dX6_leastPair_34 lmX6_93 kcX5_shareColumn (by decide) (by first | rfl | assumption) (c_X5_shareColumn (by omega) (by omega)) rfl rfl (Nat.le_of_ble_eq_true rfl) ?_
          intro r9 sh9 I9 J9 hD9; obtain ⟨rfl, rfl, rfl, rfl⟩ := pm_Dq hD9
          try simp only [Option.toList_some, Option.toList_none, List.cons_append, List.nil_append]
          refine g_if_eqB (pc := 37) (tgt := 57) C dX6_leastPair_37 (by decide) (fun h37 => ?_) (fun h37 => ?_)
          · refine g_iinc (pc := 57) (j := 3) (v := _ + 1) (L2 := [(0, _), (1, _), (2, _), (3, _)]) C dX6_leastPair_57 rfl (by first | rfl | exact pm_inc _) (by decide) rfl ?_
            refine g_goto (pc := 60) (tgt := 17) C dX6_leastPair_60 (by decide) ?_
            refine pm_Geq (ih2 hilt (by omega) ?_) (by simp only [nI_1]) rfl rfl rfl
            rw [hR2, tr_sj_step hilt, if_neg ?_]
            intro q
            have e1 := hH j hlt k hk
            have e2 := hH i hilt k hk
            first | exact h37 ⟨by omega, q.1⟩ | exact h47 (by rw [e1, e2]; exact q.2)
          · refine g_aload_n (pc := 40) (i := 0) (j := 0) C dX6_leastPair_40 rfl rfl ?_
            refine g_iload_n (pc := 41) (i := 2) (j := 2) C dX6_leastPair_41 rfl rfl ?_
            refine g_iload_n (pc := 42) (i := 3) (j := 3) C dX6_leastPair_42 rfl rfl ?_
            refine g_iload_n (pc := 43) (i := 1) (j := 1) C dX6_leastPair_43 rfl rfl ?_
            refine g_callV (pc := 44) C dX6_leastPair_44 lmX6_85 kcX6_near (by decide) (by first | rfl | assumption) (c_X6_near (by omega) (by omega) (by omega)) rfl rfl (Nat.le_of_ble_eq_true rfl) ?_
            intro r9 sh9 I9 J9 hD9; obtain ⟨rfl, rfl, rfl, rfl⟩ := pm_Dq hD9
            try simp only [Option.toList_some, Option.toList_none, List.cons_append, List.nil_append]
            refine g_if_eqB (pc := 47) (tgt := 57) C dX6_leastPair_47 (by decide) (fun h47 => ?_) (fun h47 => ?_)
            · refine g_iinc (pc := 57) (j := 3) (v := _ + 1) (L2 := [(0, _), (1, _), (2, _), (3, _)]) C dX6_leastPair_57 rfl (by first | rfl | exact pm_inc _) (by decide) rfl ?_
              refine g_goto (pc := 60) (tgt := 17) C dX6_leastPair_60 (by decide) ?_
              refine pm_Geq (ih2 hilt (by omega) ?_) (by simp only [nI_1]) rfl rfl rfl
              rw [hR2, tr_sj_step hilt, if_neg ?_]
              intro q
              have e1 := hH j hlt k hk
              have e2 := hH i hilt k hk
              first | exact h37 ⟨by omega, q.1⟩ | exact h47 (by rw [e1, e2]; exact q.2)
            · refine g_bipush (pc := 50) (v := 10) C dX6_leastPair_50 (by decide) ?_
              refine g_iload_n (pc := 52) (i := 2) (j := 2) C dX6_leastPair_52 rfl rfl ?_
              refine g_imul (pc := 53) C dX6_leastPair_53 ?_
              refine g_iload_n (pc := 54) (i := 3) (j := 3) C dX6_leastPair_54 rfl rfl ?_
              refine g_iadd (pc := 55) C dX6_leastPair_55 ?_
              refine g_iret (pc := 56) C C2 dX6_leastPair_56 rfl (Nat.le_refl _) (Nat.le_refl _) ?_
              refine ⟨?_, rfl, rfl, rfl⟩
              have e1 := hH j hlt k hk
              have e2 := hH i hilt k hk
              have e3 : tr_sj (bl_L I) Hf (I 1 4) k n j (n - i) = some i := by rw [tr_sj_step hilt, if_pos ⟨h37.2, by rw [← e1, ← e2]; exact h47⟩]
              rw [hR2, e3]
              show some (Value.int (nI 10 * nI j + nI i)) = _
              rw [pk_mul, nI_add]
      refine pm_Geq (hq (j + 1) (by omega) (by omega) ?_) (by simp only [nI_1]) rfl rfl rfl
      rw [hR, tr_si_step hlt]
  refine g_iconst (pc := 0) (v := 0) C dX6_leastPair_0 (by decide) ?_
  refine g_istore_n (pc := 1) (i := 2) (L2 := [(0, _), (1, _), (2, _)]) C dX6_leastPair_1 rfl (by decide) rfl ?_
  exact hloop 0 (Nat.zero_le _) rfl
