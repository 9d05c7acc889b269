/-! The model's words, numbers, clauses -/
theorem ok_t : ok_v true = 1 := rfl
theorem ok_f : ok_v false = 0 := rfl
theorem cs_kd_eq {g : Nat → Int32} {z b : Nat} : cs_kd g z b = if tk_nm g z b (pm_tx 0).2.2 then nI 0 else if tk_nm g z b (pm_tx 1).2.2 then nI 1 else if tk_nm g z b (pm_tx 2).2.2 then nI 2 else if tk_nm g z b (pm_tx 3).2.2 then nI 3 else if tk_nm g z b (pm_tx 4).2.2 then nI 4 else if tk_nm g z b (pm_tx 5).2.2 then nI 5 else -3 := rfl
def mt_kd (g : Nat → Int32) (z b : Nat) : Int32 := if tk_nm g z b (pm_tx 0).2.2 then 0 else if tk_nm g z b (pm_tx 1).2.2 then 1 else if tk_nm g z b (pm_tx 2).2.2 then 2 else if tk_nm g z b (pm_tx 3).2.2 then 3 else if tk_nm g z b (pm_tx 4).2.2 then 4 else if tk_nm g z b (pm_tx 5).2.2 then 5 else -1
theorem mts_off {I : pm_I} {z : Nat} {st : mt_T} {q : Nat} (h : q ≠ 102) : mts I z st q = I q := mtI_off h
theorem mts_10 {I : pm_I} {z : Nat} {st : mt_T} : mts I z st 102 10 = I 102 10 := rfl
theorem mts_11 {I : pm_I} {z : Nat} {st : mt_T} : mts I z st 102 11 = nI (tk_s (I 107) z st.1) := rfl
theorem mts_12 {I : pm_I} {z : Nat} {st : mt_T} : mts I z st 102 12 = nI st.1 := rfl
theorem mts_15 {I : pm_I} {z : Nat} {st : mt_T} : mts I z st 102 15 = tk_val (I 107) z st.1 := rfl
theorem mts_16 {I : pm_I} {z : Nat} {st : mt_T} : mts I z st 102 16 = ok_v st.2 := rfl
theorem mts_17 {I : pm_I} {z : Nat} {st : mt_T} : mts I z st 102 17 = I 102 17 := rfl
theorem mts_u {I : pm_I} {z q p : Nat} {st : mt_T} {x : Int32} (h1 : q ≠ 102) (h2 : q ≠ 107) : pm_u (mts I z st) q p x = mts (pm_u I q p x) z st := mtI_u h1 h2
theorem mts_uo {I : pm_I} {z k : Nat} {st : mt_T} {x : Int32} (h : k = 17 ∨ k = 18) : pm_u (mts I z st) 102 k x = mts (pm_u I 102 k x) z st := mtI_uo h
theorem ok_0 {ok : Bool} : ok_v ok = 0 ↔ ok = false := by cases ok <;> decide
theorem mt_num_f {g : Nat → Int32} {z b : Nat} {lo hi : Int32} : mt_num g z lo hi (b, false) = (b, false) := if_neg (fun q => absurd q.1 Bool.false_ne_true)
theorem mt_sg_f {g : Nat → Int32} {z b : Nat} : mt_sg g z (b, false) = (b, false) := if_neg (fun q => absurd q.1 Bool.false_ne_true)
theorem mt_pt_f {g : Nat → Int32} {z b : Nat} {t : List Int32} {lo hi : Int32} : mt_pt g z t lo hi (b, false) = (b, false) := if_neg (fun q => absurd q.1 Bool.false_ne_true)
theorem mt_pv_f {g : Nat → Int32} {z b : Nat} {t : List Int32} {d : Int32} : mt_pv g z t d (b, false) = d := if_neg (fun q => absurd q.1 Bool.false_ne_true)
def mb0 (g : Nat → Int32) (z n : Nat) (st : mt_T) : mt_T := if n < 6 then mt_x g z (st.1, true) else (st.1, false)
def mb1 (g : Nat → Int32) (z n : Nat) (st : mt_T) : mt_T := mt_num g z 0 9 (mb0 g z n st)
def mb2 (g : Nat → Int32) (z n : Nat) (st : mt_T) : mt_T := mt_nm g z (pm_tx 6).2.2 (mb1 g z n st)
def mb3 (g : Nat → Int32) (z n : Nat) (st : mt_T) : mt_T := mt_num g z 0 5 (mb2 g z n st)
def mb4 (g : Nat → Int32) (z n : Nat) (st : mt_T) : mt_T := mt_pt g z (pm_tx 7).2.2 0 999 (mb3 g z n st)
def mb5 (g : Nat → Int32) (z n : Nat) (st : mt_T) : mt_T := mt_pt g z (pm_tx 8).2.2 0 999 (mb4 g z n st)
def mb6 (g : Nat → Int32) (z n : Nat) (st : mt_T) : mt_T := mt_pt g z (pm_tx 9).2.2 1 99 (mb5 g z n st)
def mb7 (g : Nat → Int32) (z n : Nat) (st : mt_T) : mt_T := mt_pt g z (pm_tx 10).2.2 0 99 (mb6 g z n st)
def mb8 (g : Nat → Int32) (z n : Nat) (st : mt_T) : mt_T := mt_pt g z (pm_tx 11).2.2 0 9 (mb7 g z n st)
def mb9 (g : Nat → Int32) (z n : Nat) (st : mt_T) : mt_T := mt_sg g z (mb8 g z n st)
theorem mb0_le {g : Nat → Int32} {z n : Nat} {st : mt_T} (h : st.1 ≤ z) : (mb0 g z n st).1 ≤ z := by
  unfold mb0
  split
  · exact mt_x_le (st := (st.1, true)) h
  · exact h
theorem mb1_le {g : Nat → Int32} {z n : Nat} {st : mt_T} (h : st.1 ≤ z) : (mb1 g z n st).1 ≤ z := mt_num_le (mb0_le h)
theorem mb2_le {g : Nat → Int32} {z n : Nat} {st : mt_T} (h : st.1 ≤ z) : (mb2 g z n st).1 ≤ z := mt_nm_le (mb1_le h)
theorem mb3_le {g : Nat → Int32} {z n : Nat} {st : mt_T} (h : st.1 ≤ z) : (mb3 g z n st).1 ≤ z := mt_num_le (mb2_le h)
theorem mb4_le {g : Nat → Int32} {z n : Nat} {st : mt_T} (h : st.1 ≤ z) : (mb4 g z n st).1 ≤ z := mt_pt_le (mb3_le h)
theorem mb5_le {g : Nat → Int32} {z n : Nat} {st : mt_T} (h : st.1 ≤ z) : (mb5 g z n st).1 ≤ z := mt_pt_le (mb4_le h)
theorem mb6_le {g : Nat → Int32} {z n : Nat} {st : mt_T} (h : st.1 ≤ z) : (mb6 g z n st).1 ≤ z := mt_pt_le (mb5_le h)
theorem mb7_le {g : Nat → Int32} {z n : Nat} {st : mt_T} (h : st.1 ≤ z) : (mb7 g z n st).1 ≤ z := mt_pt_le (mb6_le h)
theorem mb8_le {g : Nat → Int32} {z n : Nat} {st : mt_T} (h : st.1 ≤ z) : (mb8 g z n st).1 ≤ z := mt_pt_le (mb7_le h)
theorem mb9_le {g : Nat → Int32} {z n : Nat} {st : mt_T} (h : st.1 ≤ z) : (mb9 g z n st).1 ≤ z := mt_sg_le (mb8_le h)
/-- good stays not good -/
theorem mt_num_ok {g : Nat → Int32} {z : Nat} {lo hi : Int32} {st : mt_T} (h : (mt_num g z lo hi st).2 = true) : st.2 = true ∧ tk_N g z st.1 lo hi := by
  unfold mt_num at h
  split at h
  · next q => exact q
  · exact absurd h Bool.false_ne_true
theorem mt_nm_ok {g : Nat → Int32} {z : Nat} {t : List Int32} {st : mt_T} (h : (mt_nm g z t st).2 = true) : st.2 = true ∧ tk_nm g z st.1 t := by
  unfold mt_nm at h
  split at h
  · next q => exact q
  · exact absurd h Bool.false_ne_true
theorem mt_sg_ok {g : Nat → Int32} {z : Nat} {st : mt_T} (h : (mt_sg g z st).2 = true) : st.2 = true ∧ tk_s g z st.1 = 3 ∧ g st.1 = 59 := by
  unfold mt_sg at h
  split at h
  · next q => exact q
  · exact absurd h Bool.false_ne_true
theorem mt_pt_ok {g : Nat → Int32} {z : Nat} {t : List Int32} {lo hi : Int32} {st : mt_T} (h : (mt_pt g z t lo hi st).2 = true) : st.2 = true := by
  unfold mt_pt at h
  split at h
  · next q => exact q.1
  · exact h
theorem mb9_ok {g : Nat → Int32} {z n : Nat} {st : mt_T} (h : (mb9 g z n st).2 = true) : n < 6 := by
  have h1 := (mt_num_ok (mt_nm_ok (mt_num_ok (mt_pt_ok (mt_pt_ok (mt_pt_ok (mt_pt_ok (mt_pt_ok (mt_sg_ok h).1))))) |>.1) |>.1)).1
  unfold mb0 at h1
  split at h1
  · assumption
  · exact absurd h1 Bool.false_ne_true
/-- the fresh town with one balloon more, if it is told right -/
def mb_W (W : pm_I) (g : Nat → Int32) (z n : Nat) (k : Int32) (st : mt_T) : pm_I := if (mb9 g z n st).2 = true then pm_u (pm_u (pm_u (pm_u (pm_u (pm_u (pm_u (pm_u (pm_u (pm_u W 108 n k) 109 n (tk_val g z (mb0 g z n st).1)) 110 (7 * n + 1) (tk_val g z (mb2 g z n st).1)) 110 (7 * n + 2) 0) 110 (7 * n + 3) (mt_pv g z (pm_tx 9).2.2 50 (mb5 g z n st))) 110 (7 * n + 4) (mt_pv g z (pm_tx 7).2.2 100 (mb3 g z n st))) 110 (7 * n + 5) (mt_pv g z (pm_tx 8).2.2 50 (mb4 g z n st))) 110 (7 * n + 6) (mt_pv g z (pm_tx 10).2.2 20 (mb6 g z n st))) 110 (7 * n + 7) (mt_pv g z (pm_tx 11).2.2 1 (mb7 g z n st))) 102 17 (nI (n + 1)) else W
def mw0 (g : Nat → Int32) (z : Nat) (st : mt_T) : mt_T := mt_x g z (st.1, true)
def mw1 (g : Nat → Int32) (z : Nat) (st : mt_T) : mt_T := mt_num g z 0 23 (mw0 g z st)
def mw2 (g : Nat → Int32) (z : Nat) (mo : Int32) (st : mt_T) : mt_T := mt_num g z 0 mo (mw1 g z st)
def mw3 (g : Nat → Int32) (z : Nat) (mo : Int32) (st : mt_T) : mt_T := mt_sg g z (mw2 g z mo st)
theorem mw0_le {g : Nat → Int32} {z : Nat} {st : mt_T} (h : st.1 ≤ z) : (mw0 g z st).1 ≤ z := mt_x_le (st := (st.1, true)) h
theorem mw1_le {g : Nat → Int32} {z : Nat} {st : mt_T} (h : st.1 ≤ z) : (mw1 g z st).1 ≤ z := mt_num_le (mw0_le h)
theorem mw2_le {g : Nat → Int32} {z : Nat} {mo : Int32} {st : mt_T} (h : st.1 ≤ z) : (mw2 g z mo st).1 ≤ z := mt_num_le (mw1_le h)
theorem mw3_le {g : Nat → Int32} {z : Nat} {mo : Int32} {st : mt_T} (h : st.1 ≤ z) : (mw3 g z mo st).1 ≤ z := mt_sg_le (mw2_le h)
def mw_W (W : pm_I) (g : Nat → Int32) (z : Nat) (mo : Int32) (cold : Bool) (st : mt_T) : pm_I := if (mw3 g z mo st).2 = true then pm_u W 111 (tk_val g z (mw0 g z st).1).toNatClampNeg (if cold then 0 - tk_val g z (mw1 g z st).1 else tk_val g z (mw1 g z st).1) else W
theorem mw3_h {g : Nat → Int32} {z : Nat} {mo : Int32} {st : mt_T} (h : (mw3 g z mo st).2 = true) : ∃ e, e < 24 ∧ tk_val g z (mw0 g z st).1 = nI e := by
  have h1 := (mt_num_ok (mt_num_ok (mt_sg_ok h).1).1).2
  rw [tk_val_v h1]
  exact pm_ix (N := 24) h1.2.2.1 h1.2.2.2 (by decide)
theorem mts_u16 {I : pm_I} {z b : Nat} {o o2 : Bool} : pm_u (mts I z (b, o)) 102 16 (ok_v o2) = mts I z (b, o2) := mtI_u16
theorem ok_nz {o : Bool} : narrow .boolean (.int (ok_v o)) = .int (ok_v o) := by cases o <;> rfl
theorem ok_n {o : Bool} (h : ¬ ok_v o = 0) : o = true := by
  cases o
  · exact absurd rfl h
  · rfl
theorem ok_ft {o : Bool} : fits .boolean (.int (ok_v o)) = true := by cases o <;> rfl
theorem w8_advance {d : Nat} {I : pm_I} {J : pm_J} {g : Nat → Int32} {z : Nat} {st : mt_T} (hg1 : I 107 = g) (hz : I 102 10 = nI z) (hz2 : z ≤ 240) (hg : ∀ k, k < z → 0 ≤ g k) (hb : st.1 ≤ z) : pm_M (d + 2) 0 0 yX8_advance cX8_advance 2 (none : Option Jvm.ClassFile.FieldType) [.ref 102] SHP (mts I z st) (mtJ J g z st.1) (pm_D none SHP (mts I z (mt_x g z st)) (mtJ J g z (mt_x g z st).1)) := by
  subst hg1
  have h := c_X8_advance (d := d) (I := mts I z st) (J := mtJ J (I 107) z st.1) (z := z) hz hz2 (by rw [mts_off (by decide)]; exact hg) (p := tk_e (I 107) z st.1) rfl (tk_e_le hb).2
  rw [mts_off (show (107 : Nat) ≠ 102 by decide), mtJ_mtJ, mtI_mtI] at h
  exact h

set_option maxHeartbeats 4000000 in
set_option maxRecDepth 100000 in
theorem c_X8_isWord {d : Nat} {I : pm_I} {J : pm_J} {g : Nat → Int32} {z : Nat} {st : mt_T} (hg1 : I 107 = g) (hz : I 102 10 = nI z) (hz2 : z ≤ 240) (hg : ∀ k, k < z → 0 ≤ g k) (hb : st.1 ≤ z) {i : Nat} (hi : i < 15)  : pm_M (d + 0) 0 0 yX8_isWord cX8_isWord 3 (some .boolean) [.ref 102, .long (mw i)] SHP (mts I z st) (mtJ J g z st.1) (pm_D (some (.int (pm_b (tk_nm g z st.1 (pm_tx i).2.2)))) SHP (mts I z (st)) (mtJ J g z (st).1)) := by
  refine pm_start (own := RX8) (nm := "isWord") (by decide) rfl rfl (L := [(0, .ref 102), (1, .long (mw i))]) rfl (Nat.le_of_ble_eq_true rfl) (fun Γ C C2 => ?_)
  subst hg1
  have s3 := tk_s_le (f := I 107) (z := z) (p := st.1)
  have e1 := nI_eq (a := tk_s (I 107) z st.1) (b := 1) (by omega) (by decide)
  have hw := tk_word (g := I 107) (z := z) (b := st.1) hi
  refine g_aload_n (pc := 0) (i := 0) (j := 0) C dX8_isWord_0 rfl rfl ?_
  refine g_getI (pc := 1) C dX8_isWord_1 lfX8_110 (by first | rfl | assumption) rfl ?_
  rw [mts_11]
  refine g_iconst (pc := 4) (v := 1) C dX8_isWord_4 (by decide) ?_
  refine g_icmp_ne (pc := 5) (tgt := 21) C dX8_isWord_5 (by decide) (fun h5 => ?_) (fun h5 => ?_)
  · refine g_iconst (pc := 21) (v := 0) C dX8_isWord_21 (by decide) ?_
    refine g_iret (pc := 22) C C2 dX8_isWord_22 (by first | rfl | exact pm_nz) (Nat.le_refl _) (Nat.le_refl _) ?_
    refine ⟨?_, rfl, rfl, rfl⟩
    by_cases q : tk_nm (I 107) z st.1 (pm_tx i).2.2
    · obtain ⟨q1, q2⟩ := hw.mpr q
      first | (exact absurd (e1.mpr q1) h5) | (exact absurd ((lg_cmp_eq _ _).mpr q2) h14) | (rw [pm_b, if_pos q])
    · first | (have q1 := e1.mp h5; have q2 := (lg_cmp_eq _ _).mp h14; exact absurd (hw.mp ⟨q1, q2⟩) q) | (rw [pm_b, if_neg q])
  · refine g_aload_n (pc := 8) (i := 0) (j := 0) C dX8_isWord_8 rfl rfl ?_
    refine g_getJ (pc := 9) C dX8_isWord_9 lfX8_113 (by first | rfl | assumption) rfl ?_
    rw [mtJ_14]
    refine g_lload_n (pc := 12) (i := 1) (j := 1) C dX8_isWord_12 rfl rfl ?_
    refine g_lcmp (pc := 13) C dX8_isWord_13 ?_
    refine g_if_ne (pc := 14) (tgt := 21) C dX8_isWord_14 (by decide) (fun h14 => ?_) (fun h14 => ?_)
    · refine g_iconst (pc := 21) (v := 0) C dX8_isWord_21 (by decide) ?_
      refine g_iret (pc := 22) C C2 dX8_isWord_22 (by first | rfl | exact pm_nz) (Nat.le_refl _) (Nat.le_refl _) ?_
      refine ⟨?_, rfl, rfl, rfl⟩
      by_cases q : tk_nm (I 107) z st.1 (pm_tx i).2.2
      · obtain ⟨q1, q2⟩ := hw.mpr q
        first | (exact absurd (e1.mpr q1) h5) | (exact absurd ((lg_cmp_eq _ _).mpr q2) h14) | (rw [pm_b, if_pos q])
      · first | (have q1 := e1.mp h5; have q2 := (lg_cmp_eq _ _).mp h14; exact absurd (hw.mp ⟨q1, q2⟩) q) | (rw [pm_b, if_neg q])
    · refine g_iconst (pc := 17) (v := 1) C dX8_isWord_17 (by decide) ?_
      refine g_goto (pc := 18) (tgt := 22) C dX8_isWord_18 (by decide) ?_
      refine g_iret (pc := 22) C C2 dX8_isWord_22 (by first | rfl | exact pm_nz) (Nat.le_refl _) (Nat.le_refl _) ?_
      refine ⟨?_, rfl, rfl, rfl⟩
      by_cases q : tk_nm (I 107) z st.1 (pm_tx i).2.2
      · obtain ⟨q1, q2⟩ := hw.mpr q
        first | (exact absurd (e1.mpr q1) h5) | (exact absurd ((lg_cmp_eq _ _).mpr q2) h14) | (rw [pm_b, if_pos q])
      · first | (have q1 := e1.mp h5; have q2 := (lg_cmp_eq _ _).mp h14; exact absurd (hw.mp ⟨q1, q2⟩) q) | (rw [pm_b, if_neg q])

set_option maxHeartbeats 4000000 in
set_option maxRecDepth 100000 in
theorem c_X8_isMark {d : Nat} {I : pm_I} {J : pm_J} {g : Nat → Int32} {z : Nat} {st : mt_T} (hg1 : I 107 = g) (hz : I 102 10 = nI z) (hz2 : z ≤ 240) (hg : ∀ k, k < z → 0 ≤ g k) (hb : st.1 ≤ z)  : pm_M (d + 0) 0 0 yX8_isMark cX8_isMark 2 (some .boolean) [.ref 102, .int 59] SHP (mts I z st) (mtJ J g z st.1) (pm_D (some (.int (pm_b (tk_s g z st.1 = 3 ∧ g st.1 = 59)))) SHP (mts I z (st)) (mtJ J g z (st).1)) := by
  refine pm_start (own := RX8) (nm := "isMark") (by decide) rfl rfl (L := [(0, .ref 102), (1, .int 59)]) rfl (Nat.le_of_ble_eq_true rfl) (fun Γ C C2 => ?_)
  subst hg1
  have s3 := tk_s_le (f := I 107) (z := z) (p := st.1)
  have e1 := nI_eq (a := tk_s (I 107) z st.1) (b := 3) (by omega) (by decide)
  have hv : tk_s (I 107) z st.1 = 3 → tk_val (I 107) z st.1 = I 107 st.1 := fun q => by
    unfold tk_val tk_by
    rw [if_neg (by omega), if_pos (tk_N_lt (f := I 107) (by omega))]
  refine g_aload_n (pc := 0) (i := 0) (j := 0) C dX8_isMark_0 rfl rfl ?_
  refine g_getI (pc := 1) C dX8_isMark_1 lfX8_110 (by first | rfl | assumption) rfl ?_
  rw [mts_11]
  refine g_iconst (pc := 4) (v := 3) C dX8_isMark_4 (by decide) ?_
  refine g_icmp_ne (pc := 5) (tgt := 20) C dX8_isMark_5 (by decide) (fun h5 => ?_) (fun h5 => ?_)
  · refine g_iconst (pc := 20) (v := 0) C dX8_isMark_20 (by decide) ?_
    refine g_iret (pc := 21) C C2 dX8_isMark_21 (by first | rfl | exact pm_nz) (Nat.le_refl _) (Nat.le_refl _) ?_
    refine ⟨?_, rfl, rfl, rfl⟩
    by_cases q : tk_s (I 107) z st.1 = 3 ∧ I 107 st.1 = 59
    · have q1 := (hv q.1).trans q.2
      first | (exact absurd (e1.mpr q.1) h5) | (exact absurd q1 h13) | (rw [pm_b, if_pos q])
    · first | (have q1 := e1.mp h5; have q2 := (hv q1).symm.trans h13; exact absurd ⟨q1, q2⟩ q) | (rw [pm_b, if_neg q])
  · refine g_aload_n (pc := 8) (i := 0) (j := 0) C dX8_isMark_8 rfl rfl ?_
    refine g_getI (pc := 9) C dX8_isMark_9 lfX8_117 (by first | rfl | assumption) rfl ?_
    rw [mts_15]
    refine g_iload_n (pc := 12) (i := 1) (j := 1) C dX8_isMark_12 rfl rfl ?_
    refine g_icmp_ne (pc := 13) (tgt := 20) C dX8_isMark_13 (by decide) (fun h13 => ?_) (fun h13 => ?_)
    · refine g_iconst (pc := 20) (v := 0) C dX8_isMark_20 (by decide) ?_
      refine g_iret (pc := 21) C C2 dX8_isMark_21 (by first | rfl | exact pm_nz) (Nat.le_refl _) (Nat.le_refl _) ?_
      refine ⟨?_, rfl, rfl, rfl⟩
      by_cases q : tk_s (I 107) z st.1 = 3 ∧ I 107 st.1 = 59
      · have q1 := (hv q.1).trans q.2
        first | (exact absurd (e1.mpr q.1) h5) | (exact absurd q1 h13) | (rw [pm_b, if_pos q])
      · first | (have q1 := e1.mp h5; have q2 := (hv q1).symm.trans h13; exact absurd ⟨q1, q2⟩ q) | (rw [pm_b, if_neg q])
    · refine g_iconst (pc := 16) (v := 1) C dX8_isMark_16 (by decide) ?_
      refine g_goto (pc := 17) (tgt := 21) C dX8_isMark_17 (by decide) ?_
      refine g_iret (pc := 21) C C2 dX8_isMark_21 (by first | rfl | exact pm_nz) (Nat.le_refl _) (Nat.le_refl _) ?_
      refine ⟨?_, rfl, rfl, rfl⟩
      by_cases q : tk_s (I 107) z st.1 = 3 ∧ I 107 st.1 = 59
      · have q1 := (hv q.1).trans q.2
        first | (exact absurd (e1.mpr q.1) h5) | (exact absurd q1 h13) | (rw [pm_b, if_pos q])
      · first | (have q1 := e1.mp h5; have q2 := (hv q1).symm.trans h13; exact absurd ⟨q1, q2⟩ q) | (rw [pm_b, if_neg q])

set_option maxHeartbeats 4000000 in
set_option maxRecDepth 100000 in
theorem c_X8_kindHere {d : Nat} {I : pm_I} {J : pm_J} {g : Nat → Int32} {z : Nat} {st : mt_T} (hg1 : I 107 = g) (hz : I 102 10 = nI z) (hz2 : z ≤ 240) (hg : ∀ k, k < z → 0 ≤ g k) (hb : st.1 ≤ z)  : pm_M (d + 1) 0 0 yX8_kindHere cX8_kindHere 1 (some .int) [.ref 102] SHP (mts I z st) (mtJ J g z st.1) (pm_D (some (.int (mt_kd g z st.1))) SHP (mts I z (st)) (mtJ J g z (st).1)) := by
  refine pm_start (own := RX8) (nm := "kindHere") (by decide) rfl rfl (L := [(0, .ref 102)]) rfl (Nat.le_of_ble_eq_true rfl) (fun Γ C C2 => ?_)
  refine g_aload_n (pc := 0) (i := 0) (j := 0) C dX8_kindHere_0 rfl rfl ?_
  refine g_ldc2 (pc := 1) C dX8_kindHere_1 lcX8_126 ?_
  refine g_callV (pc := 4) C dX8_kindHere_4 lmX8_128 kcX8_isWord (by decide) (by first | rfl | assumption) (c_X8_isWord (i := 0) hg1 hz hz2 hg hb (by decide)) rfl rfl (Nat.le_of_ble_eq_true rfl) ?_
  intro r9 sh9 I9 J9 hD9; obtain ⟨rfl, rfl, rfl, rfl⟩ := pm_Dq hD9; clear hD9
  try simp only [Option.toList_some, Option.toList_none, List.cons_append, List.nil_append]
  refine g_if_eqB (pc := 7) (tgt := 14) C dX8_kindHere_7 (by decide) (fun h7 => ?_) (fun h7 => ?_)
  · refine g_aload_n (pc := 14) (i := 0) (j := 0) C dX8_kindHere_14 rfl rfl ?_
    refine g_ldc2 (pc := 15) C dX8_kindHere_15 lcX8_132 ?_
    refine g_callV (pc := 18) C dX8_kindHere_18 lmX8_128 kcX8_isWord (by decide) (by first | rfl | assumption) (c_X8_isWord (i := 1) hg1 hz hz2 hg hb (by decide)) rfl rfl (Nat.le_of_ble_eq_true rfl) ?_
    intro r9 sh9 I9 J9 hD9; obtain ⟨rfl, rfl, rfl, rfl⟩ := pm_Dq hD9; clear hD9
    try simp only [Option.toList_some, Option.toList_none, List.cons_append, List.nil_append]
    refine g_if_eqB (pc := 21) (tgt := 28) C dX8_kindHere_21 (by decide) (fun h21 => ?_) (fun h21 => ?_)
    · refine g_aload_n (pc := 28) (i := 0) (j := 0) C dX8_kindHere_28 rfl rfl ?_
      refine g_ldc2 (pc := 29) C dX8_kindHere_29 lcX8_134 ?_
      refine g_callV (pc := 32) C dX8_kindHere_32 lmX8_128 kcX8_isWord (by decide) (by first | rfl | assumption) (c_X8_isWord (i := 2) hg1 hz hz2 hg hb (by decide)) rfl rfl (Nat.le_of_ble_eq_true rfl) ?_
      intro r9 sh9 I9 J9 hD9; obtain ⟨rfl, rfl, rfl, rfl⟩ := pm_Dq hD9; clear hD9
      try simp only [Option.toList_some, Option.toList_none, List.cons_append, List.nil_append]
      refine g_if_eqB (pc := 35) (tgt := 42) C dX8_kindHere_35 (by decide) (fun h35 => ?_) (fun h35 => ?_)
      · refine g_aload_n (pc := 42) (i := 0) (j := 0) C dX8_kindHere_42 rfl rfl ?_
        refine g_ldc2 (pc := 43) C dX8_kindHere_43 lcX8_136 ?_
        refine g_callV (pc := 46) C dX8_kindHere_46 lmX8_128 kcX8_isWord (by decide) (by first | rfl | assumption) (c_X8_isWord (i := 3) hg1 hz hz2 hg hb (by decide)) rfl rfl (Nat.le_of_ble_eq_true rfl) ?_
        intro r9 sh9 I9 J9 hD9; obtain ⟨rfl, rfl, rfl, rfl⟩ := pm_Dq hD9; clear hD9
        try simp only [Option.toList_some, Option.toList_none, List.cons_append, List.nil_append]
        refine g_if_eqB (pc := 49) (tgt := 56) C dX8_kindHere_49 (by decide) (fun h49 => ?_) (fun h49 => ?_)
        · refine g_aload_n (pc := 56) (i := 0) (j := 0) C dX8_kindHere_56 rfl rfl ?_
          refine g_ldc2 (pc := 57) C dX8_kindHere_57 lcX8_138 ?_
          refine g_callV (pc := 60) C dX8_kindHere_60 lmX8_128 kcX8_isWord (by decide) (by first | rfl | assumption) (c_X8_isWord (i := 4) hg1 hz hz2 hg hb (by decide)) rfl rfl (Nat.le_of_ble_eq_true rfl) ?_
          intro r9 sh9 I9 J9 hD9; obtain ⟨rfl, rfl, rfl, rfl⟩ := pm_Dq hD9; clear hD9
          try simp only [Option.toList_some, Option.toList_none, List.cons_append, List.nil_append]
          refine g_if_eqB (pc := 63) (tgt := 70) C dX8_kindHere_63 (by decide) (fun h63 => ?_) (fun h63 => ?_)
          · refine g_aload_n (pc := 70) (i := 0) (j := 0) C dX8_kindHere_70 rfl rfl ?_
            refine g_ldc2 (pc := 71) C dX8_kindHere_71 lcX8_140 ?_
            refine g_callV (pc := 74) C dX8_kindHere_74 lmX8_128 kcX8_isWord (by decide) (by first | rfl | assumption) (c_X8_isWord (i := 5) hg1 hz hz2 hg hb (by decide)) rfl rfl (Nat.le_of_ble_eq_true rfl) ?_
            intro r9 sh9 I9 J9 hD9; obtain ⟨rfl, rfl, rfl, rfl⟩ := pm_Dq hD9; clear hD9
            try simp only [Option.toList_some, Option.toList_none, List.cons_append, List.nil_append]
            refine g_if_eqB (pc := 77) (tgt := 84) C dX8_kindHere_77 (by decide) (fun h77 => ?_) (fun h77 => ?_)
            · refine g_iconst (pc := 84) (v := (-1)) C dX8_kindHere_84 (by decide) ?_
              refine g_iret (pc := 85) C C2 dX8_kindHere_85 rfl (Nat.le_refl _) (Nat.le_refl _) ?_
              refine ⟨?_, rfl, rfl, rfl⟩
              unfold mt_kd
              first
                | rw [if_neg h7, if_neg h21, if_neg h35, if_neg h49, if_neg h63, if_neg h77]
                | rw [if_neg h7, if_neg h21, if_neg h35, if_neg h49, if_neg h63, if_pos h77]
                | rw [if_neg h7, if_neg h21, if_neg h35, if_neg h49, if_pos h63]
                | rw [if_neg h7, if_neg h21, if_neg h35, if_pos h49]
                | rw [if_neg h7, if_neg h21, if_pos h35]
                | rw [if_neg h7, if_pos h21]
                | rw [if_pos h7]
            · refine g_iconst (pc := 80) (v := 5) C dX8_kindHere_80 (by decide) ?_
              refine g_goto (pc := 81) (tgt := 85) C dX8_kindHere_81 (by decide) ?_
              refine g_iret (pc := 85) C C2 dX8_kindHere_85 rfl (Nat.le_refl _) (Nat.le_refl _) ?_
              refine ⟨?_, rfl, rfl, rfl⟩
              unfold mt_kd
              first
                | rw [if_neg h7, if_neg h21, if_neg h35, if_neg h49, if_neg h63, if_neg h77]
                | rw [if_neg h7, if_neg h21, if_neg h35, if_neg h49, if_neg h63, if_pos h77]
                | rw [if_neg h7, if_neg h21, if_neg h35, if_neg h49, if_pos h63]
                | rw [if_neg h7, if_neg h21, if_neg h35, if_pos h49]
                | rw [if_neg h7, if_neg h21, if_pos h35]
                | rw [if_neg h7, if_pos h21]
                | rw [if_pos h7]
          · refine g_iconst (pc := 66) (v := 4) C dX8_kindHere_66 (by decide) ?_
            refine g_goto (pc := 67) (tgt := 85) C dX8_kindHere_67 (by decide) ?_
            refine g_iret (pc := 85) C C2 dX8_kindHere_85 rfl (Nat.le_refl _) (Nat.le_refl _) ?_
            refine ⟨?_, rfl, rfl, rfl⟩
            unfold mt_kd
            first
              | rw [if_neg h7, if_neg h21, if_neg h35, if_neg h49, if_neg h63, if_neg h77]
              | rw [if_neg h7, if_neg h21, if_neg h35, if_neg h49, if_neg h63, if_pos h77]
              | rw [if_neg h7, if_neg h21, if_neg h35, if_neg h49, if_pos h63]
              | rw [if_neg h7, if_neg h21, if_neg h35, if_pos h49]
              | rw [if_neg h7, if_neg h21, if_pos h35]
              | rw [if_neg h7, if_pos h21]
              | rw [if_pos h7]
        · refine g_iconst (pc := 52) (v := 3) C dX8_kindHere_52 (by decide) ?_
          refine g_goto (pc := 53) (tgt := 85) C dX8_kindHere_53 (by decide) ?_
          refine g_iret (pc := 85) C C2 dX8_kindHere_85 rfl (Nat.le_refl _) (Nat.le_refl _) ?_
          refine ⟨?_, rfl, rfl, rfl⟩
          unfold mt_kd
          first
            | rw [if_neg h7, if_neg h21, if_neg h35, if_neg h49, if_neg h63, if_neg h77]
            | rw [if_neg h7, if_neg h21, if_neg h35, if_neg h49, if_neg h63, if_pos h77]
            | rw [if_neg h7, if_neg h21, if_neg h35, if_neg h49, if_pos h63]
            | rw [if_neg h7, if_neg h21, if_neg h35, if_pos h49]
            | rw [if_neg h7, if_neg h21, if_pos h35]
            | rw [if_neg h7, if_pos h21]
            | rw [if_pos h7]
      · refine g_iconst (pc := 38) (v := 2) C dX8_kindHere_38 (by decide) ?_
        refine g_goto (pc := 39) (tgt := 85) C dX8_kindHere_39 (by decide) ?_
        refine g_iret (pc := 85) C C2 dX8_kindHere_85 rfl (Nat.le_refl _) (Nat.le_refl _) ?_
        refine ⟨?_, rfl, rfl, rfl⟩
        unfold mt_kd
        first
          | rw [if_neg h7, if_neg h21, if_neg h35, if_neg h49, if_neg h63, if_neg h77]
          | rw [if_neg h7, if_neg h21, if_neg h35, if_neg h49, if_neg h63, if_pos h77]
          | rw [if_neg h7, if_neg h21, if_neg h35, if_neg h49, if_pos h63]
          | rw [if_neg h7, if_neg h21, if_neg h35, if_pos h49]
          | rw [if_neg h7, if_neg h21, if_pos h35]
          | rw [if_neg h7, if_pos h21]
          | rw [if_pos h7]
    · refine g_iconst (pc := 24) (v := 1) C dX8_kindHere_24 (by decide) ?_
      refine g_goto (pc := 25) (tgt := 85) C dX8_kindHere_25 (by decide) ?_
      refine g_iret (pc := 85) C C2 dX8_kindHere_85 rfl (Nat.le_refl _) (Nat.le_refl _) ?_
      refine ⟨?_, rfl, rfl, rfl⟩
      unfold mt_kd
      first
        | rw [if_neg h7, if_neg h21, if_neg h35, if_neg h49, if_neg h63, if_neg h77]
        | rw [if_neg h7, if_neg h21, if_neg h35, if_neg h49, if_neg h63, if_pos h77]
        | rw [if_neg h7, if_neg h21, if_neg h35, if_neg h49, if_pos h63]
        | rw [if_neg h7, if_neg h21, if_neg h35, if_pos h49]
        | rw [if_neg h7, if_neg h21, if_pos h35]
        | rw [if_neg h7, if_pos h21]
        | rw [if_pos h7]
  · refine g_iconst (pc := 10) (v := 0) C dX8_kindHere_10 (by decide) ?_
    refine g_goto (pc := 11) (tgt := 85) C dX8_kindHere_11 (by decide) ?_
    refine g_iret (pc := 85) C C2 dX8_kindHere_85 rfl (Nat.le_refl _) (Nat.le_refl _) ?_
    refine ⟨?_, rfl, rfl, rfl⟩
    unfold mt_kd
    first
      | rw [if_neg h7, if_neg h21, if_neg h35, if_neg h49, if_neg h63, if_neg h77]
      | rw [if_neg h7, if_neg h21, if_neg h35, if_neg h49, if_neg h63, if_pos h77]
      | rw [if_neg h7, if_neg h21, if_neg h35, if_neg h49, if_pos h63]
      | rw [if_neg h7, if_neg h21, if_neg h35, if_pos h49]
      | rw [if_neg h7, if_neg h21, if_pos h35]
      | rw [if_neg h7, if_pos h21]
      | rw [if_pos h7]

set_option maxHeartbeats 4000000 in
set_option maxRecDepth 100000 in
theorem c_X8_wantNumber {d : Nat} {I : pm_I} {J : pm_J} {g : Nat → Int32} {z : Nat} {st : mt_T} (hg1 : I 107 = g) (hz : I 102 10 = nI z) (hz2 : z ≤ 240) (hg : ∀ k, k < z → 0 ≤ g k) (hb : st.1 ≤ z) {lo hi : Int32} (hlo : 0 ≤ lo) : pm_M (d + 3) 0 0 yX8_wantNumber cX8_wantNumber 4 (some .int) [.ref 102, .int lo, .int hi] SHP (mts I z st) (mtJ J g z st.1) (pm_D (some (.int (tk_val g z st.1))) SHP (mts I z (mt_num g z lo hi st)) (mtJ J g z (mt_num g z lo hi st).1)) := by
  refine pm_start (own := RX8) (nm := "wantNumber") (by decide) rfl rfl (L := [(0, .ref 102), (1, .int lo), (2, .int hi)]) rfl (Nat.le_of_ble_eq_true rfl) (fun Γ C C2 => ?_)
  have s3 := tk_s_le (f := g) (z := z) (p := st.1)
  have e1 := nI_eq (a := tk_s g z st.1) (b := 2) (by omega) (by decide)
  have hv := tk_val_N (g := g) (z := z) (b := st.1) (hi := hi) hlo
  obtain ⟨b, ok⟩ := st
  dsimp only at hb s3 e1 hv C2 ⊢
  have key : ∀ o2 : Bool, mt_num g z lo hi (b, ok) = (if o2 = true then (tk_x g z b, true) else (b, false)) → pm_G Γ 0 0 35 [(0, .ref 102), (1, .int lo), (2, .int hi), (3, .int (tk_val g z b))] [.int (ok_v o2), .ref 102] SHP (mts I z (b, ok)) (mtJ J g z b) := by
    intro o2 e8
    have hnz := ok_nz (o := o2)
    refine g_putI (pc := 35) C dX8_wantNumber_35 lpX8_142 ok_nz ok_ft (by first | rfl | assumption) rfl ?_
    rw [mts_u16]
    refine g_aload_n (pc := 38) (i := 0) (j := 0) C dX8_wantNumber_38 rfl rfl ?_
    refine g_getI (pc := 39) C dX8_wantNumber_39 lfX8_142 (by first | rfl | assumption) rfl ?_
    rw [mts_16]
    refine g_if_eq (pc := 42) (tgt := 49) C dX8_wantNumber_42 (by decide) (fun h42 => ?_) (fun h42 => ?_)
    · refine g_iload_n (pc := 49) (i := 3) (j := 3) C dX8_wantNumber_49 rfl rfl ?_
      refine g_iret (pc := 50) C C2 dX8_wantNumber_50 rfl (Nat.le_refl _) (Nat.le_refl _) ?_
      cases o2
      · first
          | (exact absurd ok_f h42)
          | (rw [if_neg Bool.false_ne_true] at e8; exact ⟨rfl, rfl, by rw [e8], by rw [e8]⟩)
      · first
          | (exact absurd h42 (show ¬ ok_v true = 0 by decide))
          | (rw [if_pos rfl] at e8; exact ⟨rfl, rfl, by rw [e8]; rfl, by rw [e8]; rfl⟩)
    · refine g_aload_n (pc := 45) (i := 0) (j := 0) C dX8_wantNumber_45 rfl rfl ?_
      refine g_callV (pc := 46) C dX8_wantNumber_46 lmX8_146 kcX8_advance (by decide) (by first | rfl | assumption) (w8_advance hg1 hz hz2 hg (st := (b, o2)) hb) rfl rfl (Nat.le_of_ble_eq_true rfl) ?_
      intro r9 sh9 I9 J9 hD9; obtain ⟨rfl, rfl, rfl, rfl⟩ := pm_Dq hD9; clear hD9
      try simp only [Option.toList_some, Option.toList_none, List.cons_append, List.nil_append]
      refine g_iload_n (pc := 49) (i := 3) (j := 3) C dX8_wantNumber_49 rfl rfl ?_
      refine g_iret (pc := 50) C C2 dX8_wantNumber_50 rfl (Nat.le_refl _) (Nat.le_refl _) ?_
      cases o2
      · first
          | (exact absurd ok_f h42)
          | (rw [if_neg Bool.false_ne_true] at e8; exact ⟨rfl, rfl, by rw [e8], by rw [e8]⟩)
      · first
          | (exact absurd h42 (show ¬ ok_v true = 0 by decide))
          | (rw [if_pos rfl] at e8; exact ⟨rfl, rfl, by rw [e8]; rfl, by rw [e8]; rfl⟩)
  refine g_aload_n (pc := 0) (i := 0) (j := 0) C dX8_wantNumber_0 rfl rfl ?_
  refine g_getI (pc := 1) C dX8_wantNumber_1 lfX8_117 (by first | rfl | assumption) rfl ?_
  rw [mts_15, hg1]
  refine g_istore_n (pc := 4) (i := 3) (L2 := [(0, _), (1, _), (2, _), (3, _)]) C dX8_wantNumber_4 rfl (by decide) rfl ?_
  refine g_aload_n (pc := 5) (i := 0) (j := 0) C dX8_wantNumber_5 rfl rfl ?_
  refine g_aload_n (pc := 6) (i := 0) (j := 0) C dX8_wantNumber_6 rfl rfl ?_
  refine g_getI (pc := 7) C dX8_wantNumber_7 lfX8_142 (by first | rfl | assumption) rfl ?_
  rw [mts_16]
  refine g_if_eq (pc := 10) (tgt := 34) C dX8_wantNumber_10 (by decide) (fun h10 => ?_) (fun h10 => ?_)
  · refine g_iconst (pc := 34) (v := 0) C dX8_wantNumber_34 (by decide) ?_
    by_cases q : ok = true ∧ tk_N g z b lo hi
    · have e8 : mt_num g z lo hi (b, ok) = (tk_x g z b, true) := by unfold mt_num mt_x; rw [if_pos q, q.1]
      have q1 := hv.mpr q.2
      have q2 : ¬ ok_v ok = 0 := by rw [q.1]; decide
      first
        | (exact absurd (e1.mpr q1.1) h18)
        | (exact absurd q1.2 h27)
        | (exact absurd h10 q2)
        | (exact key true (e8.trans (if_pos rfl).symm))
    · have e8 : mt_num g z lo hi (b, ok) = (b, false) := if_neg q
      first
        | (have q1 : tk_s g z b = 2 := e1.mp h18; have q4 : lo ≤ tk_val g z b ∧ tk_val g z b ≤ hi := h27; have q2 := hv.mp ⟨q1, q4⟩; have q3 : ok = true := ok_n h10; exact absurd ⟨q3, q2⟩ q)
        | (exact key false (e8.trans (if_neg Bool.false_ne_true).symm))
  · refine g_aload_n (pc := 13) (i := 0) (j := 0) C dX8_wantNumber_13 rfl rfl ?_
    refine g_getI (pc := 14) C dX8_wantNumber_14 lfX8_110 (by first | rfl | assumption) rfl ?_
    rw [mts_11, hg1]
    refine g_iconst (pc := 17) (v := 2) C dX8_wantNumber_17 (by decide) ?_
    refine g_icmp_ne (pc := 18) (tgt := 34) C dX8_wantNumber_18 (by decide) (fun h18 => ?_) (fun h18 => ?_)
    · refine g_iconst (pc := 34) (v := 0) C dX8_wantNumber_34 (by decide) ?_
      by_cases q : ok = true ∧ tk_N g z b lo hi
      · have e8 : mt_num g z lo hi (b, ok) = (tk_x g z b, true) := by unfold mt_num mt_x; rw [if_pos q, q.1]
        have q1 := hv.mpr q.2
        have q2 : ¬ ok_v ok = 0 := by rw [q.1]; decide
        first
          | (exact absurd (e1.mpr q1.1) h18)
          | (exact absurd q1.2 h27)
          | (exact absurd h10 q2)
          | (exact key true (e8.trans (if_pos rfl).symm))
      · have e8 : mt_num g z lo hi (b, ok) = (b, false) := if_neg q
        first
          | (have q1 : tk_s g z b = 2 := e1.mp h18; have q4 : lo ≤ tk_val g z b ∧ tk_val g z b ≤ hi := h27; have q2 := hv.mp ⟨q1, q4⟩; have q3 : ok = true := ok_n h10; exact absurd ⟨q3, q2⟩ q)
          | (exact key false (e8.trans (if_neg Bool.false_ne_true).symm))
    · refine g_iload_n (pc := 21) (i := 3) (j := 3) C dX8_wantNumber_21 rfl rfl ?_
      refine g_iload_n (pc := 22) (i := 1) (j := 1) C dX8_wantNumber_22 rfl rfl ?_
      refine g_iload_n (pc := 23) (i := 2) (j := 2) C dX8_wantNumber_23 rfl rfl ?_
      refine g_callS (pc := 24) C dX8_wantNumber_24 lmX8_78 kcX8_in (by decide) (c_X8_in) rfl rfl (Nat.le_of_ble_eq_true rfl) ?_
      intro r9 sh9 I9 J9 hD9; obtain ⟨rfl, rfl, rfl, rfl⟩ := pm_Dq hD9; clear hD9
      try simp only [Option.toList_some, Option.toList_none, List.cons_append, List.nil_append]
      refine g_if_eqB (pc := 27) (tgt := 34) C dX8_wantNumber_27 (by decide) (fun h27 => ?_) (fun h27 => ?_)
      · refine g_iconst (pc := 34) (v := 0) C dX8_wantNumber_34 (by decide) ?_
        by_cases q : ok = true ∧ tk_N g z b lo hi
        · have e8 : mt_num g z lo hi (b, ok) = (tk_x g z b, true) := by unfold mt_num mt_x; rw [if_pos q, q.1]
          have q1 := hv.mpr q.2
          have q2 : ¬ ok_v ok = 0 := by rw [q.1]; decide
          first
            | (exact absurd (e1.mpr q1.1) h18)
            | (exact absurd q1.2 h27)
            | (exact absurd h10 q2)
            | (exact key true (e8.trans (if_pos rfl).symm))
        · have e8 : mt_num g z lo hi (b, ok) = (b, false) := if_neg q
          first
            | (have q1 : tk_s g z b = 2 := e1.mp h18; have q4 : lo ≤ tk_val g z b ∧ tk_val g z b ≤ hi := h27; have q2 := hv.mp ⟨q1, q4⟩; have q3 : ok = true := ok_n h10; exact absurd ⟨q3, q2⟩ q)
            | (exact key false (e8.trans (if_neg Bool.false_ne_true).symm))
      · refine g_iconst (pc := 30) (v := 1) C dX8_wantNumber_30 (by decide) ?_
        refine g_goto (pc := 31) (tgt := 35) C dX8_wantNumber_31 (by decide) ?_
        by_cases q : ok = true ∧ tk_N g z b lo hi
        · have e8 : mt_num g z lo hi (b, ok) = (tk_x g z b, true) := by unfold mt_num mt_x; rw [if_pos q, q.1]
          have q1 := hv.mpr q.2
          have q2 : ¬ ok_v ok = 0 := by rw [q.1]; decide
          first
            | (exact absurd (e1.mpr q1.1) h18)
            | (exact absurd q1.2 h27)
            | (exact absurd h10 q2)
            | (exact key true (e8.trans (if_pos rfl).symm))
        · have e8 : mt_num g z lo hi (b, ok) = (b, false) := if_neg q
          first
            | (have q1 : tk_s g z b = 2 := e1.mp h18; have q4 : lo ≤ tk_val g z b ∧ tk_val g z b ≤ hi := h27; have q2 := hv.mp ⟨q1, q4⟩; have q3 : ok = true := ok_n h10; exact absurd ⟨q3, q2⟩ q)
            | (exact key false (e8.trans (if_neg Bool.false_ne_true).symm))

set_option maxHeartbeats 4000000 in
set_option maxRecDepth 100000 in
theorem c_X8_wantEnd {d : Nat} {I : pm_I} {J : pm_J} {g : Nat → Int32} {z : Nat} {st : mt_T} (hg1 : I 107 = g) (hz : I 102 10 = nI z) (hz2 : z ≤ 240) (hg : ∀ k, k < z → 0 ≤ g k) (hb : st.1 ≤ z)  : pm_M (d + 3) 0 0 yX8_wantEnd cX8_wantEnd 1 (none : Option Jvm.ClassFile.FieldType) [.ref 102] SHP (mts I z st) (mtJ J g z st.1) (pm_D none SHP (mts I z (mt_sg g z st)) (mtJ J g z (mt_sg g z st).1)) := by
  refine pm_start (own := RX8) (nm := "wantEnd") (by decide) rfl rfl (L := [(0, .ref 102)]) rfl (Nat.le_of_ble_eq_true rfl) (fun Γ C C2 => ?_)
  obtain ⟨b, ok⟩ := st
  dsimp only at hb C2 ⊢
  have key : ∀ o2 : Bool, mt_sg g z (b, ok) = (if o2 = true then (tk_x g z b, true) else (b, false)) → pm_G Γ 0 0 22 [(0, .ref 102)] [.int (ok_v o2), .ref 102] SHP (mts I z (b, ok)) (mtJ J g z b) := by
    intro o2 e8
    have hnz := ok_nz (o := o2)
    refine g_putI (pc := 22) C dX8_wantEnd_22 lpX8_142 ok_nz ok_ft (by first | rfl | assumption) rfl ?_
    rw [mts_u16]
    refine g_aload_n (pc := 25) (i := 0) (j := 0) C dX8_wantEnd_25 rfl rfl ?_
    refine g_getI (pc := 26) C dX8_wantEnd_26 lfX8_142 (by first | rfl | assumption) rfl ?_
    rw [mts_16]
    refine g_if_eq (pc := 29) (tgt := 36) C dX8_wantEnd_29 (by decide) (fun h29 => ?_) (fun h29 => ?_)
    · refine g_vret (pc := 36) C C2 dX8_wantEnd_36 (Nat.le_refl _) (Nat.le_refl _) ?_
      cases o2
      · first
          | (exact absurd ok_f h29)
          | (rw [if_neg Bool.false_ne_true] at e8; exact ⟨rfl, rfl, by rw [e8], by rw [e8]⟩)
      · first
          | (exact absurd h29 (show ¬ ok_v true = 0 by decide))
          | (rw [if_pos rfl] at e8; exact ⟨rfl, rfl, by rw [e8]; rfl, by rw [e8]; rfl⟩)
    · refine g_aload_n (pc := 32) (i := 0) (j := 0) C dX8_wantEnd_32 rfl rfl ?_
      refine g_callV (pc := 33) C dX8_wantEnd_33 lmX8_146 kcX8_advance (by decide) (by first | rfl | assumption) (w8_advance hg1 hz hz2 hg (st := (b, o2)) hb) rfl rfl (Nat.le_of_ble_eq_true rfl) ?_
      intro r9 sh9 I9 J9 hD9; obtain ⟨rfl, rfl, rfl, rfl⟩ := pm_Dq hD9; clear hD9
      try simp only [Option.toList_some, Option.toList_none, List.cons_append, List.nil_append]
      refine g_vret (pc := 36) C C2 dX8_wantEnd_36 (Nat.le_refl _) (Nat.le_refl _) ?_
      cases o2
      · first
          | (exact absurd ok_f h29)
          | (rw [if_neg Bool.false_ne_true] at e8; exact ⟨rfl, rfl, by rw [e8], by rw [e8]⟩)
      · first
          | (exact absurd h29 (show ¬ ok_v true = 0 by decide))
          | (rw [if_pos rfl] at e8; exact ⟨rfl, rfl, by rw [e8]; rfl, by rw [e8]; rfl⟩)
  refine g_aload_n (pc := 0) (i := 0) (j := 0) C dX8_wantEnd_0 rfl rfl ?_
  refine g_aload_n (pc := 1) (i := 0) (j := 0) C dX8_wantEnd_1 rfl rfl ?_
  refine g_getI (pc := 2) C dX8_wantEnd_2 lfX8_142 (by first | rfl | assumption) rfl ?_
  rw [mts_16]
  refine g_if_eq (pc := 5) (tgt := 21) C dX8_wantEnd_5 (by decide) (fun h5 => ?_) (fun h5 => ?_)
  · refine g_iconst (pc := 21) (v := 0) C dX8_wantEnd_21 (by decide) ?_
    by_cases q : ok = true ∧ tk_s g z b = 3 ∧ g b = 59
    · have e8 : mt_sg g z (b, ok) = (tk_x g z b, true) := by unfold mt_sg mt_x; rw [if_pos q, q.1]
      have q2 : ¬ ok_v ok = 0 := by rw [q.1]; decide
      first
        | (exact absurd q.2 h14)
        | (exact absurd h5 q2)
        | (exact key true (e8.trans (if_pos rfl).symm))
    · have e8 : mt_sg g z (b, ok) = (b, false) := if_neg q
      first
        | (have q4 : tk_s g z b = 3 ∧ g b = 59 := h14; have q3 : ok = true := ok_n h5; exact absurd ⟨q3, q4⟩ q)
        | (exact key false (e8.trans (if_neg Bool.false_ne_true).symm))
  · refine g_aload_n (pc := 8) (i := 0) (j := 0) C dX8_wantEnd_8 rfl rfl ?_
    refine g_bipush (pc := 9) (v := 59) C dX8_wantEnd_9 (by decide) ?_
    refine g_callV (pc := 11) C dX8_wantEnd_11 lmX8_149 kcX8_isMark (by decide) (by first | rfl | assumption) (c_X8_isMark hg1 hz hz2 hg (st := (b, ok)) hb) rfl rfl (Nat.le_of_ble_eq_true rfl) ?_
    intro r9 sh9 I9 J9 hD9; obtain ⟨rfl, rfl, rfl, rfl⟩ := pm_Dq hD9; clear hD9
    try simp only [Option.toList_some, Option.toList_none, List.cons_append, List.nil_append]
    refine g_if_eqB (pc := 14) (tgt := 21) C dX8_wantEnd_14 (by decide) (fun h14 => ?_) (fun h14 => ?_)
    · refine g_iconst (pc := 21) (v := 0) C dX8_wantEnd_21 (by decide) ?_
      by_cases q : ok = true ∧ tk_s g z b = 3 ∧ g b = 59
      · have e8 : mt_sg g z (b, ok) = (tk_x g z b, true) := by unfold mt_sg mt_x; rw [if_pos q, q.1]
        have q2 : ¬ ok_v ok = 0 := by rw [q.1]; decide
        first
          | (exact absurd q.2 h14)
          | (exact absurd h5 q2)
          | (exact key true (e8.trans (if_pos rfl).symm))
      · have e8 : mt_sg g z (b, ok) = (b, false) := if_neg q
        first
          | (have q4 : tk_s g z b = 3 ∧ g b = 59 := h14; have q3 : ok = true := ok_n h5; exact absurd ⟨q3, q4⟩ q)
          | (exact key false (e8.trans (if_neg Bool.false_ne_true).symm))
    · refine g_iconst (pc := 17) (v := 1) C dX8_wantEnd_17 (by decide) ?_
      refine g_goto (pc := 18) (tgt := 22) C dX8_wantEnd_18 (by decide) ?_
      by_cases q : ok = true ∧ tk_s g z b = 3 ∧ g b = 59
      · have e8 : mt_sg g z (b, ok) = (tk_x g z b, true) := by unfold mt_sg mt_x; rw [if_pos q, q.1]
        have q2 : ¬ ok_v ok = 0 := by rw [q.1]; decide
        first
          | (exact absurd q.2 h14)
          | (exact absurd h5 q2)
          | (exact key true (e8.trans (if_pos rfl).symm))
      · have e8 : mt_sg g z (b, ok) = (b, false) := if_neg q
        first
          | (have q4 : tk_s g z b = 3 ∧ g b = 59 := h14; have q3 : ok = true := ok_n h5; exact absurd ⟨q3, q4⟩ q)
          | (exact key false (e8.trans (if_neg Bool.false_ne_true).symm))

set_option maxHeartbeats 4000000 in
set_option maxRecDepth 100000 in
theorem c_X8_mayWant {d : Nat} {I : pm_I} {J : pm_J} {g : Nat → Int32} {z : Nat} {st : mt_T} (hg1 : I 107 = g) (hz : I 102 10 = nI z) (hz2 : z ≤ 240) (hg : ∀ k, k < z → 0 ≤ g k) (hb : st.1 ≤ z) {i : Nat} (hi9 : i < 15) {lo hi dd : Int32} (hlo : 0 ≤ lo) : pm_M (d + 4) 0 0 yX8_mayWant cX8_mayWant 6 (some .int) [.ref 102, .long (mw i), .int lo, .int hi, .int dd] SHP (mts I z st) (mtJ J g z st.1) (pm_D (some (.int (mt_pv g z (pm_tx i).2.2 dd st))) SHP (mts I z (mt_pt g z (pm_tx i).2.2 lo hi st)) (mtJ J g z (mt_pt g z (pm_tx i).2.2 lo hi st).1)) := by
  refine pm_start (own := RX8) (nm := "mayWant") (by decide) rfl rfl (L := [(0, .ref 102), (1, .long (mw i)), (3, .int lo), (4, .int hi), (5, .int dd)]) rfl (Nat.le_of_ble_eq_true rfl) (fun Γ C C2 => ?_)
  obtain ⟨b, ok⟩ := st
  dsimp only at hb C2 ⊢
  have yes : ok = true ∧ tk_nm g z b (pm_tx i).2.2 → mt_pt g z (pm_tx i).2.2 lo hi (b, ok) = mt_num g z lo hi (mt_x g z (b, ok)) ∧ mt_pv g z (pm_tx i).2.2 dd (b, ok) = tk_val g z (mt_x g z (b, ok)).1 := fun q => ⟨if_pos q, if_pos q⟩
  have no : ¬ (ok = true ∧ tk_nm g z b (pm_tx i).2.2) → mt_pt g z (pm_tx i).2.2 lo hi (b, ok) = (b, ok) ∧ mt_pv g z (pm_tx i).2.2 dd (b, ok) = dd := fun q => ⟨if_neg q, if_neg q⟩
  refine g_aload_n (pc := 0) (i := 0) (j := 0) C dX8_mayWant_0 rfl rfl ?_
  refine g_getI (pc := 1) C dX8_mayWant_1 lfX8_142 (by first | rfl | assumption) rfl ?_
  rw [mts_16]
  refine g_if_eq (pc := 4) (tgt := 15) C dX8_mayWant_4 (by decide) (fun h4 => ?_) (fun h4 => ?_)
  · refine g_iload (pc := 15) (j := 4) C dX8_mayWant_15 rfl ?_
    refine g_iret (pc := 17) C C2 dX8_mayWant_17 rfl (Nat.le_refl _) (Nat.le_refl _) ?_
    have q : ¬ (ok = true ∧ tk_nm g z b (pm_tx i).2.2) := by
      first
        | (have q3 : ok_v ok = 0 := h4; rw [ok_0.mp q3]; exact fun q9 => Bool.false_ne_true q9.1)
        | (have q4 : ¬ tk_nm g z b (pm_tx i).2.2 := h12; exact fun q9 => q4 q9.2)
    obtain ⟨e1, e2⟩ := no q
    exact ⟨by rw [e2], rfl, by rw [e1], by rw [e1]⟩
  · refine g_aload_n (pc := 7) (i := 0) (j := 0) C dX8_mayWant_7 rfl rfl ?_
    refine g_lload_n (pc := 8) (i := 1) (j := 1) C dX8_mayWant_8 rfl rfl ?_
    refine g_callV (pc := 9) C dX8_mayWant_9 lmX8_128 kcX8_isWord (by decide) (by first | rfl | assumption) (c_X8_isWord (i := i) hg1 hz hz2 hg (st := (b, ok)) hb hi9) rfl rfl (Nat.le_of_ble_eq_true rfl) ?_
    intro r9 sh9 I9 J9 hD9; obtain ⟨rfl, rfl, rfl, rfl⟩ := pm_Dq hD9; clear hD9
    try simp only [Option.toList_some, Option.toList_none, List.cons_append, List.nil_append]
    refine g_if_neB (pc := 12) (tgt := 18) C dX8_mayWant_12 (by decide) (fun h12 => ?_) (fun h12 => ?_)
    · refine g_aload_n (pc := 18) (i := 0) (j := 0) C dX8_mayWant_18 rfl rfl ?_
      refine g_callV (pc := 19) C dX8_mayWant_19 lmX8_146 kcX8_advance (by decide) (by first | rfl | assumption) (w8_advance hg1 hz hz2 hg (st := (b, ok)) hb) rfl rfl (Nat.le_of_ble_eq_true rfl) ?_
      intro r9 sh9 I9 J9 hD9; obtain ⟨rfl, rfl, rfl, rfl⟩ := pm_Dq hD9; clear hD9
      try simp only [Option.toList_some, Option.toList_none, List.cons_append, List.nil_append]
      refine g_aload_n (pc := 22) (i := 0) (j := 0) C dX8_mayWant_22 rfl rfl ?_
      refine g_iload_n (pc := 23) (i := 3) (j := 2) C dX8_mayWant_23 rfl rfl ?_
      refine g_iload (pc := 24) (j := 3) C dX8_mayWant_24 rfl ?_
      refine g_callV (pc := 26) C dX8_mayWant_26 lmX8_152 kcX8_wantNumber (by decide) (by first | rfl | assumption) (c_X8_wantNumber hg1 hz hz2 hg (st := mt_x g z (b, ok)) (mt_x_le hb) hlo) rfl rfl (Nat.le_of_ble_eq_true rfl) ?_
      intro r9 sh9 I9 J9 hD9; obtain ⟨rfl, rfl, rfl, rfl⟩ := pm_Dq hD9; clear hD9
      try simp only [Option.toList_some, Option.toList_none, List.cons_append, List.nil_append]
      refine g_iret (pc := 29) C C2 dX8_mayWant_29 rfl (Nat.le_refl _) (Nat.le_refl _) ?_
      have q4 : tk_nm g z b (pm_tx i).2.2 := h12
      have q3 : ok = true := ok_n h4
      obtain ⟨e1, e2⟩ := yes ⟨q3, q4⟩
      exact ⟨by rw [e2], rfl, by rw [e1], by rw [e1]⟩
    · refine g_iload (pc := 15) (j := 4) C dX8_mayWant_15 rfl ?_
      refine g_iret (pc := 17) C C2 dX8_mayWant_17 rfl (Nat.le_refl _) (Nat.le_refl _) ?_
      have q : ¬ (ok = true ∧ tk_nm g z b (pm_tx i).2.2) := by
        first
          | (have q3 : ok_v ok = 0 := h4; rw [ok_0.mp q3]; exact fun q9 => Bool.false_ne_true q9.1)
          | (have q4 : ¬ tk_nm g z b (pm_tx i).2.2 := h12; exact fun q9 => q4 q9.2)
      obtain ⟨e1, e2⟩ := no q
      exact ⟨by rw [e2], rfl, by rw [e1], by rw [e1]⟩
