/-! The model's advance, words, numbers -/
theorem tk_by_in {g : Nat → Int32} {z k : Nat} (h : k < z) : tk_by g z k = g k := if_pos h
theorem tk_e_1 {g : Nat → Int32} {z b : Nat} (h : tk_s g z b = 1 ∨ tk_s g z b = 2) : tk_e g z b = tk_r g z (tk_s g z b) b := by
  have hb : b < z := tk_N_lt (f := g) (by omega)
  unfold tk_e
  rw [if_neg (by omega), if_neg (by omega), tk_r_in hb, if_pos (show tk_sort (g b) = tk_s g z b from (if_pos hb).symm)]
abbrev mt_T : Type := Nat × Bool
def ok_v (ok : Bool) : Int32 := if ok then 1 else 0
abbrev mts (I : pm_I) (z : Nat) (st : mt_T) : pm_I := mtI I z st.1 (ok_v st.2)
def mt_x (g : Nat → Int32) (z : Nat) (st : mt_T) : mt_T := (tk_x g z st.1, st.2)
def mt_num (g : Nat → Int32) (z : Nat) (lo hi : Int32) (st : mt_T) : mt_T := if st.2 = true ∧ tk_N g z st.1 lo hi then mt_x g z st else (st.1, false)
def mt_nm (g : Nat → Int32) (z : Nat) (t : List Int32) (st : mt_T) : mt_T := if st.2 = true ∧ tk_nm g z st.1 t then mt_x g z st else (st.1, false)
def mt_sg (g : Nat → Int32) (z : Nat) (st : mt_T) : mt_T := if st.2 = true ∧ tk_s g z st.1 = 3 ∧ g st.1 = 59 then mt_x g z st else (st.1, false)
def mt_pt (g : Nat → Int32) (z : Nat) (t : List Int32) (lo hi : Int32) (st : mt_T) : mt_T := if st.2 = true ∧ tk_nm g z st.1 t then mt_num g z lo hi (mt_x g z st) else st
def mt_pv (g : Nat → Int32) (z : Nat) (t : List Int32) (d : Int32) (st : mt_T) : Int32 := if st.2 = true ∧ tk_nm g z st.1 t then tk_val g z (tk_x g z st.1) else d
theorem mt_x_le {g : Nat → Int32} {z : Nat} {st : mt_T} (h : st.1 ≤ z) : (mt_x g z st).1 ≤ z := tk_x_le h
theorem mt_num_le {g : Nat → Int32} {z : Nat} {lo hi : Int32} {st : mt_T} (h : st.1 ≤ z) : (mt_num g z lo hi st).1 ≤ z := by
  unfold mt_num
  split
  · exact mt_x_le h
  · exact h
theorem mt_nm_le {g : Nat → Int32} {z : Nat} {t : List Int32} {st : mt_T} (h : st.1 ≤ z) : (mt_nm g z t st).1 ≤ z := by
  unfold mt_nm
  split
  · exact mt_x_le h
  · exact h
theorem mt_sg_le {g : Nat → Int32} {z : Nat} {st : mt_T} (h : st.1 ≤ z) : (mt_sg g z st).1 ≤ z := by
  unfold mt_sg
  split
  · exact mt_x_le h
  · exact h
theorem mt_pt_le {g : Nat → Int32} {z : Nat} {t : List Int32} {lo hi : Int32} {st : mt_T} (h : st.1 ≤ z) : (mt_pt g z t lo hi st).1 ≤ z := by
  unfold mt_pt
  split
  · exact mt_num_le (mt_x_le h)
  · exact h
theorem tk_val_N {g : Nat → Int32} {z b : Nat} {lo hi : Int32} (hlo : 0 ≤ lo) : (tk_s g z b = 2 ∧ lo ≤ tk_val g z b ∧ tk_val g z b ≤ hi) ↔ tk_N g z b lo hi := by
  unfold tk_N tk_val tk_nv
  constructor
  · rintro ⟨h1, h2, h3⟩
    rw [if_pos h1] at h2 h3
    by_cases h : tk_e g z b - b ≤ 3
    · rw [if_pos h] at h2 h3
      exact ⟨h1, h, h2, h3⟩
    · rw [if_neg h] at h2
      exact absurd (Int32.le_trans hlo h2) (by decide)
  · rintro ⟨h1, h, h2, h3⟩
    rw [if_pos h1, if_pos h]
    exact ⟨h1, h2, h3⟩
theorem tk_val_v {g : Nat → Int32} {z b : Nat} {lo hi : Int32} (h : tk_N g z b lo hi) : tk_val g z b = tk_n g b (tk_e g z b - b) := by
  unfold tk_val tk_nv
  rw [if_pos h.1, if_pos h.2.1]
theorem mrow_of {R : Nat → Int32} {s b e : Int32} : upd (upd (upd R 12 b) 13 e) 11 s = mrow R s b e (R 15) := by
  funext k
  unfold upd mrow
  grind
set_option maxHeartbeats 4000000 in
set_option maxRecDepth 100000 in
theorem c_X8_byteAt {d : Nat} {I : pm_I} {J : pm_J} {z : Nat} (hz : I 102 10 = nI z) (hz2 : z ≤ 240) {k : Nat} (hk : k < 1000) : pm_M d 0 0 yX8_byteAt cX8_byteAt 2 (some .int) [.ref 102, .int (nI k)] SHP I J (pm_D (some (.int (tk_by (I 107) z k))) SHP I J) := by
  refine pm_start (own := RX8) (nm := "byteAt") (by decide) rfl rfl (L := [(0, .ref 102), (1, .int (nI k))]) rfl (Nat.le_of_ble_eq_true rfl) (fun Γ C C2 => ?_)
  refine g_iload_n (pc := 0) (i := 1) (j := 1) C dX8_byteAt_0 rfl rfl ?_
  refine g_aload_n (pc := 1) (i := 0) (j := 0) C dX8_byteAt_1 rfl rfl ?_
  refine g_getI (pc := 2) C dX8_byteAt_2 lfX8_88 (by first | rfl | assumption) rfl ?_
  refine g_icmp_ge (pc := 5) (tgt := 17) C dX8_byteAt_5 (by decide) (fun h5 => ?_) (fun h5 => ?_)
  · refine g_iconst (pc := 17) (v := (-1)) C dX8_byteAt_17 (by decide) ?_
    refine g_iret (pc := 18) C C2 dX8_byteAt_18 rfl (Nat.le_refl _) (Nat.le_refl _) ?_
    refine ⟨?_, rfl, rfl, rfl⟩
    unfold tk_by
    first | rw [if_pos hlt] | (rw [hz] at h5; rw [if_neg (fun q => nI_ge q (by omega) h5)])
  · have hlt : k < z := Nat.lt_of_not_le (fun q => h5 (by rw [hz]; exact nI_le q (by omega)))
    refine g_aload_n (pc := 8) (i := 0) (j := 0) C dX8_byteAt_8 rfl rfl ?_
    refine g_getR (pc := 9) C dX8_byteAt_9 lfX8_29 (by first | rfl | assumption) rfl ?_
    refine g_iload_n (pc := 12) (i := 1) (j := 1) C dX8_byteAt_12 rfl rfl ?_
    refine g_iald (pc := 13) (j := k) C dX8_byteAt_13 (by first | rfl | assumption) (by decide) (by first | rfl | assumption) (by omega) ?_
    refine g_goto (pc := 14) (tgt := 18) C dX8_byteAt_14 (by decide) ?_
    refine g_iret (pc := 18) C C2 dX8_byteAt_18 rfl (Nat.le_refl _) (Nat.le_refl _) ?_
    refine ⟨?_, rfl, rfl, rfl⟩
    unfold tk_by
    first | rw [if_pos hlt] | (rw [hz] at h5; rw [if_neg (fun q => nI_ge q (by omega) h5)])

set_option maxHeartbeats 4000000 in
set_option maxRecDepth 100000 in
theorem c_X8_isLetter {d : Nat} {x : Int32} {sh : List pm_S} {I : pm_I} {J : pm_J} : pm_M (d + 1) 0 0 yX8_isLetter cX8_isLetter 1 (some .boolean) [.int x] sh I J (pm_D (some (.int (pm_b (97 ≤ x ∧ x ≤ 122)))) sh I J) := by
  refine pm_start (own := RX8) (nm := "isLetter") (by decide) rfl rfl (L := [(0, .int x)]) rfl (Nat.le_of_ble_eq_true rfl) (fun Γ C C2 => ?_)
  refine g_iload_n (pc := 0) (i := 0) (j := 0) C dX8_isLetter_0 rfl rfl ?_
  refine g_bipush (pc := 1) (v := 97) C dX8_isLetter_1 (by decide) ?_
  refine g_bipush (pc := 3) (v := 122) C dX8_isLetter_3 (by decide) ?_
  refine g_callS (pc := 5) C dX8_isLetter_5 lmX8_78 kcX8_in (by decide) (c_X8_in) rfl rfl (Nat.le_of_ble_eq_true rfl) ?_
  intro r9 sh9 I9 J9 hD9; obtain ⟨rfl, rfl, rfl, rfl⟩ := pm_Dq hD9; clear hD9
  try simp only [Option.toList_some, Option.toList_none, List.cons_append, List.nil_append]
  refine g_iret (pc := 8) C C2 dX8_isLetter_8 (by first | rfl | exact pm_nz) (Nat.le_refl _) (Nat.le_refl _) ?_
  exact ⟨rfl, rfl, rfl, rfl⟩

set_option maxHeartbeats 4000000 in
set_option maxRecDepth 100000 in
theorem c_X8_isDigit {d : Nat} {x : Int32} {sh : List pm_S} {I : pm_I} {J : pm_J} : pm_M (d + 1) 0 0 yX8_isDigit cX8_isDigit 1 (some .boolean) [.int x] sh I J (pm_D (some (.int (pm_b (48 ≤ x ∧ x ≤ 57)))) sh I J) := by
  refine pm_start (own := RX8) (nm := "isDigit") (by decide) rfl rfl (L := [(0, .int x)]) rfl (Nat.le_of_ble_eq_true rfl) (fun Γ C C2 => ?_)
  refine g_iload_n (pc := 0) (i := 0) (j := 0) C dX8_isDigit_0 rfl rfl ?_
  refine g_bipush (pc := 1) (v := 48) C dX8_isDigit_1 (by decide) ?_
  refine g_bipush (pc := 3) (v := 57) C dX8_isDigit_3 (by decide) ?_
  refine g_callS (pc := 5) C dX8_isDigit_5 lmX8_78 kcX8_in (by decide) (c_X8_in) rfl rfl (Nat.le_of_ble_eq_true rfl) ?_
  intro r9 sh9 I9 J9 hD9; obtain ⟨rfl, rfl, rfl, rfl⟩ := pm_Dq hD9; clear hD9
  try simp only [Option.toList_some, Option.toList_none, List.cons_append, List.nil_append]
  refine g_iret (pc := 8) C C2 dX8_isDigit_8 (by first | rfl | exact pm_nz) (Nat.le_refl _) (Nat.le_refl _) ?_
  exact ⟨rfl, rfl, rfl, rfl⟩

set_option maxHeartbeats 4000000 in
set_option maxRecDepth 100000 in
theorem c_X8_advance {d : Nat} {I : pm_I} {J : pm_J} {z : Nat} (hz : I 102 10 = nI z) (hz2 : z ≤ 240) (hg : ∀ k, k < z → 0 ≤ I 107 k) {p : Nat} (hp : I 102 13 = nI p) (hpz : p ≤ z) : pm_M (d + 2) 0 0 yX8_advance cX8_advance 2 (none : Option Jvm.ClassFile.FieldType) [.ref 102] SHP I J (pm_D none SHP (mtI I z (tk_b (I 107) z p) (I 102 16)) (mtJ J (I 107) z (tk_b (I 107) z p))) := by
  refine pm_start (own := RX8) (nm := "advance") (by decide) rfl rfl (L := [(0, .ref 102)]) rfl (Nat.le_of_ble_eq_true rfl) (fun Γ C C2 => ?_)
  obtain ⟨b, hb⟩ : ∃ b, tk_b (I 107) z p = b := ⟨_, rfl⟩
  have hbz := (tk_b_le (f := I 107) hpz).2
  rw [hb] at hbz
  rw [hb] at C2
  have hee := tk_e_le (f := I 107) hbz
  have s3 := tk_s_le (f := I 107) (z := z) (p := b)
  obtain ⟨y, hy⟩ : ∃ y, tk_by (I 107) z b = y := ⟨_, rfl⟩
  have e1 := nI_eq (a := tk_s (I 107) z b) (b := 1) (by omega) (by decide)
  have e2 := nI_eq (a := tk_s (I 107) z b) (b := 2) (by omega) (by decide)
  have e3 := nI_eq (a := tk_s (I 107) z b) (b := 3) (by omega) (by decide)
  have hl2 : tk_s (I 107) z b = 2 → ∀ j, j ≤ tk_e (I 107) z b - b → tk_r (I 107) z 2 (b + j) = tk_e (I 107) z b → pm_G Γ 0 0 207 [(0, .ref 102), (1, .int y)] [] SHP (pm_s I 102 (mrow (I 102) (nI (tk_s (I 107) z b)) (nI b) (nI (b + j)) (tk_nv (I 107) b j))) (mtJ J (I 107) z b) := by
    intro q2
    refine pm_up (fun j => tk_r (I 107) z 2 (b + j) = tk_e (I 107) z b → pm_G Γ 0 0 207 [(0, .ref 102), (1, .int y)] [] SHP (pm_s I 102 (mrow (I 102) (nI (tk_s (I 107) z b)) (nI b) (nI (b + j)) (tk_nv (I 107) b j))) (mtJ J (I 107) z b)) (tk_e (I 107) z b - b) (fun j hj ih q => ?_)
    have g10 : (pm_s I 102 (mrow (I 102) (nI (tk_s (I 107) z b)) (nI b) (nI (b + j)) (tk_nv (I 107) b j))) 102 10 = nI z := by rw [pm_s_at]; exact hz
    have g11 : (pm_s I 102 (mrow (I 102) (nI (tk_s (I 107) z b)) (nI b) (nI (b + j)) (tk_nv (I 107) b j))) 102 11 = nI (tk_s (I 107) z b) := by rw [pm_s_at]; rfl
    have g12 : (pm_s I 102 (mrow (I 102) (nI (tk_s (I 107) z b)) (nI b) (nI (b + j)) (tk_nv (I 107) b j))) 102 12 = nI b := by rw [pm_s_at]; rfl
    have g107 : (pm_s I 102 (mrow (I 102) (nI (tk_s (I 107) z b)) (nI b) (nI (b + j)) (tk_nv (I 107) b j))) 107 = I 107 := pm_s_off _ _ _ _ (by decide)
    have g13 : (pm_s I 102 (mrow (I 102) (nI (tk_s (I 107) z b)) (nI b) (nI (b + j)) (tk_nv (I 107) b j))) 102 13 = nI (b + j) := by rw [pm_s_at]; rfl
    have g15 : (pm_s I 102 (mrow (I 102) (nI (tk_s (I 107) z b)) (nI b) (nI (b + j)) (tk_nv (I 107) b j))) 102 15 = tk_nv (I 107) b j := by rw [pm_s_at]; rfl
    refine g_aload_n (pc := 207) (i := 0) (j := 0) C dX8_advance_207 rfl rfl ?_
    refine g_getI (pc := 208) C dX8_advance_208 lfX8_110 (by first | rfl | assumption) rfl ?_
    rw [g11]
    refine g_iconst (pc := 211) (v := 2) C dX8_advance_211 (by decide) ?_
    refine g_icmp_ne (pc := 212) (tgt := 282) C dX8_advance_212 (by decide) (fun h212 => absurd (e2.mpr q2) h212) (fun h212 => ?_)
    refine g_aload_n (pc := 215) (i := 0) (j := 0) C dX8_advance_215 rfl rfl ?_
    refine g_aload_n (pc := 216) (i := 0) (j := 0) C dX8_advance_216 rfl rfl ?_
    refine g_getI (pc := 217) C dX8_advance_217 lfX8_93 (by first | rfl | assumption) rfl ?_
    rw [g13]
    refine g_callV (pc := 220) C dX8_advance_220 lmX8_99 kcX8_byteAt (by decide) (by first | rfl | assumption) (c_X8_byteAt (k := b + j) g10 hz2 (by omega)) rfl rfl (Nat.le_of_ble_eq_true rfl) ?_
    intro r9 sh9 I9 J9 hD9; obtain ⟨rfl, rfl, rfl, rfl⟩ := pm_Dq hD9; clear hD9
    try simp only [Option.toList_some, Option.toList_none, List.cons_append, List.nil_append]
    rw [g107]
    refine g_callS (pc := 223) C dX8_advance_223 lmX8_107 kcX8_isDigit (by decide) (c_X8_isDigit) rfl rfl (Nat.le_of_ble_eq_true rfl) ?_
    intro r9 sh9 I9 J9 hD9; obtain ⟨rfl, rfl, rfl, rfl⟩ := pm_Dq hD9; clear hD9
    try simp only [Option.toList_some, Option.toList_none, List.cons_append, List.nil_append]
    refine g_if_eqB (pc := 226) (tgt := 282) C dX8_advance_226 (by decide) (fun h226 => ?_) (fun h226 => ?_)
    · refine g_vret (pc := 282) C C2 dX8_advance_282 (Nat.le_refl _) (Nat.le_refl _) ?_
      have hn : ¬ tk_s (I 107) z (b + j) = 2 := fun z9 => h226 (tk_by_d.mpr z9)
      have ej : b + j = tk_e (I 107) z b := by
        rw [← q]
        by_cases hlt : b + j < z
        · rw [tk_r_in hlt, if_neg (fun z9 => hn (by rw [← z9]; exact if_pos hlt))]
        · rw [tk_r_out (by omega)]
      refine ⟨rfl, rfl, ?_, rfl⟩
      rw [← mtI_end, show tk_val (I 107) z b = tk_nv (I 107) b j by unfold tk_val; rw [if_pos q2, ← ej, show b + j - b = j by omega], ← ej]
    · have hs : tk_s (I 107) z (b + j) = 2 := tk_by_d.mp h226
      have hlt : b + j < z := tk_N_lt (f := I 107) (by omega)
      have hso : tk_sort (I 107 (b + j)) = 2 := by rw [← hs]; exact (if_pos hlt).symm
      have hr : tk_r (I 107) z 2 (b + (j + 1)) = tk_e (I 107) z b := by rw [← q, tk_r_in hlt, if_pos hso]; rfl
      have hje : j < tk_e (I 107) z b - b := by have h9 := (tk_r_le (f := I 107) (s := 2) (show b + (j + 1) ≤ z by omega)).1; omega
      refine g_aload_n (pc := 229) (i := 0) (j := 0) C dX8_advance_229 rfl rfl ?_
      refine g_aload_n (pc := 230) (i := 0) (j := 0) C dX8_advance_230 rfl rfl ?_
      refine g_getI (pc := 231) C dX8_advance_231 lfX8_93 (by first | rfl | assumption) rfl ?_
      rw [g13]
      refine g_aload_n (pc := 234) (i := 0) (j := 0) C dX8_advance_234 rfl rfl ?_
      refine g_getI (pc := 235) C dX8_advance_235 lfX8_96 (by first | rfl | assumption) rfl ?_
      refine g_isub (pc := 238) C dX8_advance_238 ?_
      rw [g12, nI_subN (show b ≤ b + j by omega), show b + j - b = j by omega]
      refine g_iconst (pc := 239) (v := 3) C dX8_advance_239 (by decide) ?_
      refine g_icmp_ge (pc := 240) (tgt := 265) C dX8_advance_240 (by decide) (fun h240 => ?_) (fun h240 => ?_)
      · refine g_iconst (pc := 265) (v := (-1)) C dX8_advance_265 (by decide) ?_
        refine g_putI (pc := 266) C dX8_advance_266 lpX8_117 rfl rfl (by first | rfl | assumption) rfl ?_
        have hnv : tk_nv (I 107) b (j + 1) = _ := rfl
        first
          | refine pm_Geq (I := (pm_s I 102 (mrow (I 102) (nI (tk_s (I 107) z b)) (nI b) (nI (b + j)) (tk_nv (I 107) b (j + 1))))) ?_ rfl rfl (by rw [pm_u_s, pm_s_at, pm_s_s, mrow_u15]; congr 2; have hj3 : j < 3 := Nat.lt_of_not_le (fun z9 => h240 ((nI_leI (a := 3) (b := j) (by decide) (by omega)).mpr z9)); unfold tk_nv; rw [if_pos (by omega), if_pos (by omega), tk_by_in hlt]; show _ = tk_n (I 107) b j * 10 + (I 107 (b + j) - 48); grind) rfl
          | refine pm_Geq (I := (pm_s I 102 (mrow (I 102) (nI (tk_s (I 107) z b)) (nI b) (nI (b + j)) (tk_nv (I 107) b (j + 1))))) ?_ rfl rfl (by rw [pm_u_s, pm_s_at, pm_s_s, mrow_u15]; congr 2; have hj3 : 3 ≤ j := (nI_leI (a := 3) (b := j) (by decide) (by omega)).mp h240; unfold tk_nv; rw [if_neg (by omega)]) rfl
        refine g_aload_n (pc := 269) (i := 0) (j := 0) C dX8_advance_269 rfl rfl ?_
        refine g_dup (pc := 270) C dX8_advance_270 rfl ?_
        refine g_getI (pc := 271) C dX8_advance_271 lfX8_93 (by first | rfl | assumption) rfl ?_
        rw [show (pm_s I 102 (mrow (I 102) (nI (tk_s (I 107) z b)) (nI b) (nI (b + j)) (tk_nv (I 107) b (j + 1)))) 102 13 = nI (b + j) by rw [pm_s_at]; rfl]
        refine g_iconst (pc := 274) (v := 1) C dX8_advance_274 (by decide) ?_
        refine g_iadd (pc := 275) C dX8_advance_275 ?_
        rw [nI_1]
        refine g_putI (pc := 276) C dX8_advance_276 lpX8_93 rfl rfl (by first | rfl | assumption) rfl ?_
        refine g_goto (pc := 279) (tgt := 207) C dX8_advance_279 (by decide) ?_
        refine pm_Geq (ih hje hr) rfl rfl ?_ rfl
        rw [pm_u_s, pm_s_at, pm_s_s, mrow_u13]
        rfl
      · refine g_bipush (pc := 243) (v := 10) C dX8_advance_243 (by decide) ?_
        refine g_aload_n (pc := 245) (i := 0) (j := 0) C dX8_advance_245 rfl rfl ?_
        refine g_getI (pc := 246) C dX8_advance_246 lfX8_117 (by first | rfl | assumption) rfl ?_
        rw [g15]
        refine g_imul (pc := 249) C dX8_advance_249 ?_
        refine g_aload_n (pc := 250) (i := 0) (j := 0) C dX8_advance_250 rfl rfl ?_
        refine g_aload_n (pc := 251) (i := 0) (j := 0) C dX8_advance_251 rfl rfl ?_
        refine g_getI (pc := 252) C dX8_advance_252 lfX8_93 (by first | rfl | assumption) rfl ?_
        rw [g13]
        refine g_callV (pc := 255) C dX8_advance_255 lmX8_99 kcX8_byteAt (by decide) (by first | rfl | assumption) (c_X8_byteAt (k := b + j) g10 hz2 (by omega)) rfl rfl (Nat.le_of_ble_eq_true rfl) ?_
        intro r9 sh9 I9 J9 hD9; obtain ⟨rfl, rfl, rfl, rfl⟩ := pm_Dq hD9; clear hD9
        try simp only [Option.toList_some, Option.toList_none, List.cons_append, List.nil_append]
        rw [g107]
        refine g_iadd (pc := 258) C dX8_advance_258 ?_
        refine g_bipush (pc := 259) (v := 48) C dX8_advance_259 (by decide) ?_
        refine g_isub (pc := 261) C dX8_advance_261 ?_
        refine g_goto (pc := 262) (tgt := 266) C dX8_advance_262 (by decide) ?_
        refine g_putI (pc := 266) C dX8_advance_266 lpX8_117 rfl rfl (by first | rfl | assumption) rfl ?_
        have hnv : tk_nv (I 107) b (j + 1) = _ := rfl
        first
          | refine pm_Geq (I := (pm_s I 102 (mrow (I 102) (nI (tk_s (I 107) z b)) (nI b) (nI (b + j)) (tk_nv (I 107) b (j + 1))))) ?_ rfl rfl (by rw [pm_u_s, pm_s_at, pm_s_s, mrow_u15]; congr 2; have hj3 : j < 3 := Nat.lt_of_not_le (fun z9 => h240 ((nI_leI (a := 3) (b := j) (by decide) (by omega)).mpr z9)); unfold tk_nv; rw [if_pos (by omega), if_pos (by omega), tk_by_in hlt]; show _ = tk_n (I 107) b j * 10 + (I 107 (b + j) - 48); grind) rfl
          | refine pm_Geq (I := (pm_s I 102 (mrow (I 102) (nI (tk_s (I 107) z b)) (nI b) (nI (b + j)) (tk_nv (I 107) b (j + 1))))) ?_ rfl rfl (by rw [pm_u_s, pm_s_at, pm_s_s, mrow_u15]; congr 2; have hj3 : 3 ≤ j := (nI_leI (a := 3) (b := j) (by decide) (by omega)).mp h240; unfold tk_nv; rw [if_neg (by omega)]) rfl
        refine g_aload_n (pc := 269) (i := 0) (j := 0) C dX8_advance_269 rfl rfl ?_
        refine g_dup (pc := 270) C dX8_advance_270 rfl ?_
        refine g_getI (pc := 271) C dX8_advance_271 lfX8_93 (by first | rfl | assumption) rfl ?_
        rw [show (pm_s I 102 (mrow (I 102) (nI (tk_s (I 107) z b)) (nI b) (nI (b + j)) (tk_nv (I 107) b (j + 1)))) 102 13 = nI (b + j) by rw [pm_s_at]; rfl]
        refine g_iconst (pc := 274) (v := 1) C dX8_advance_274 (by decide) ?_
        refine g_iadd (pc := 275) C dX8_advance_275 ?_
        rw [nI_1]
        refine g_putI (pc := 276) C dX8_advance_276 lpX8_93 rfl rfl (by first | rfl | assumption) rfl ?_
        refine g_goto (pc := 279) (tgt := 207) C dX8_advance_279 (by decide) ?_
        refine pm_Geq (ih hje hr) rfl rfl ?_ rfl
        rw [pm_u_s, pm_s_at, pm_s_s, mrow_u13]
        rfl
  have hl3 : ¬ tk_s (I 107) z b = 2 → pm_G Γ 0 0 207 [(0, .ref 102), (1, .int y)] [] SHP (pm_s I 102 (mrow (I 102) (nI (tk_s (I 107) z b)) (nI b) (nI (tk_e (I 107) z b)) (tk_val (I 107) z b))) (mtJ J (I 107) z b) := by
    intro q2
    have g11 : (pm_s I 102 (mrow (I 102) (nI (tk_s (I 107) z b)) (nI b) (nI (tk_e (I 107) z b)) (tk_val (I 107) z b))) 102 11 = nI (tk_s (I 107) z b) := by rw [pm_s_at]; rfl
    refine g_aload_n (pc := 207) (i := 0) (j := 0) C dX8_advance_207 rfl rfl ?_
    refine g_getI (pc := 208) C dX8_advance_208 lfX8_110 (by first | rfl | assumption) rfl ?_
    rw [g11]
    refine g_iconst (pc := 211) (v := 2) C dX8_advance_211 (by decide) ?_
    refine g_icmp_ne (pc := 212) (tgt := 282) C dX8_advance_212 (by decide) (fun h212 => ?_) (fun h212 => absurd h212 (fun z9 => q2 (e2.mp z9)))
    refine g_vret (pc := 282) C C2 dX8_advance_282 (Nat.le_refl _) (Nat.le_refl _) ?_
    exact ⟨rfl, rfl, mtI_end, rfl⟩
  have hl1 : tk_s (I 107) z b = 1 → ∀ j, j ≤ tk_e (I 107) z b - b → tk_r (I 107) z 1 (b + j) = tk_e (I 107) z b → pm_G Γ 0 0 126 [(0, .ref 102), (1, .int y)] [] SHP (pm_s I 102 (mrow (I 102) (nI (tk_s (I 107) z b)) (nI b) (nI (b + j)) y)) (pm_uJ J 102 14 (tk_wv (I 107) b j)) := by
    intro q1
    refine pm_up (fun j => tk_r (I 107) z 1 (b + j) = tk_e (I 107) z b → pm_G Γ 0 0 126 [(0, .ref 102), (1, .int y)] [] SHP (pm_s I 102 (mrow (I 102) (nI (tk_s (I 107) z b)) (nI b) (nI (b + j)) y)) (pm_uJ J 102 14 (tk_wv (I 107) b j))) (tk_e (I 107) z b - b) (fun j hj ih q => ?_)
    have g10 : (pm_s I 102 (mrow (I 102) (nI (tk_s (I 107) z b)) (nI b) (nI (b + j)) y)) 102 10 = nI z := by rw [pm_s_at]; exact hz
    have g11 : (pm_s I 102 (mrow (I 102) (nI (tk_s (I 107) z b)) (nI b) (nI (b + j)) y)) 102 11 = nI (tk_s (I 107) z b) := by rw [pm_s_at]; rfl
    have g12 : (pm_s I 102 (mrow (I 102) (nI (tk_s (I 107) z b)) (nI b) (nI (b + j)) y)) 102 12 = nI b := by rw [pm_s_at]; rfl
    have g107 : (pm_s I 102 (mrow (I 102) (nI (tk_s (I 107) z b)) (nI b) (nI (b + j)) y)) 107 = I 107 := pm_s_off _ _ _ _ (by decide)
    have g13 : (pm_s I 102 (mrow (I 102) (nI (tk_s (I 107) z b)) (nI b) (nI (b + j)) y)) 102 13 = nI (b + j) := by rw [pm_s_at]; rfl
    have g14 : (pm_uJ J 102 14 (tk_wv (I 107) b j)) 102 14 = tk_wv (I 107) b j := by rw [pm_uJ_at]; exact if_pos rfl
    refine g_aload_n (pc := 126) (i := 0) (j := 0) C dX8_advance_126 rfl rfl ?_
    refine g_getI (pc := 127) C dX8_advance_127 lfX8_110 (by first | rfl | assumption) rfl ?_
    rw [g11]
    refine g_iconst (pc := 130) (v := 1) C dX8_advance_130 (by decide) ?_
    refine g_icmp_ne (pc := 131) (tgt := 207) C dX8_advance_131 (by decide) (fun h131 => absurd (e1.mpr q1) h131) (fun h131 => ?_)
    refine g_aload_n (pc := 134) (i := 0) (j := 0) C dX8_advance_134 rfl rfl ?_
    refine g_aload_n (pc := 135) (i := 0) (j := 0) C dX8_advance_135 rfl rfl ?_
    refine g_getI (pc := 136) C dX8_advance_136 lfX8_93 (by first | rfl | assumption) rfl ?_
    rw [g13]
    refine g_callV (pc := 139) C dX8_advance_139 lmX8_99 kcX8_byteAt (by decide) (by first | rfl | assumption) (c_X8_byteAt (k := b + j) g10 hz2 (by omega)) rfl rfl (Nat.le_of_ble_eq_true rfl) ?_
    intro r9 sh9 I9 J9 hD9; obtain ⟨rfl, rfl, rfl, rfl⟩ := pm_Dq hD9; clear hD9
    try simp only [Option.toList_some, Option.toList_none, List.cons_append, List.nil_append]
    rw [g107]
    refine g_callS (pc := 142) C dX8_advance_142 lmX8_103 kcX8_isLetter (by decide) (c_X8_isLetter) rfl rfl (Nat.le_of_ble_eq_true rfl) ?_
    intro r9 sh9 I9 J9 hD9; obtain ⟨rfl, rfl, rfl, rfl⟩ := pm_Dq hD9; clear hD9
    try simp only [Option.toList_some, Option.toList_none, List.cons_append, List.nil_append]
    refine g_if_eqB (pc := 145) (tgt := 207) C dX8_advance_145 (by decide) (fun h145 => ?_) (fun h145 => ?_)
    · have hn : ¬ tk_s (I 107) z (b + j) = 1 := fun z9 => h145 (tk_by_l.mpr z9)
      have ej : b + j = tk_e (I 107) z b := by
        rw [← q]
        by_cases hlt : b + j < z
        · rw [tk_r_in hlt, if_neg (fun z9 => hn (by rw [← z9]; exact if_pos hlt))]
        · rw [tk_r_out (by omega)]
      refine pm_Geq (hl3 (by omega)) rfl rfl ?_ ?_
      · rw [ej, ← hy]
        unfold tk_val
        rw [if_neg (show ¬ tk_s (I 107) z b = 2 by omega)]
      · unfold mtJ tk_w
        rw [if_pos q1, ← ej, show b + j - b = j by omega]
    · have hs : tk_s (I 107) z (b + j) = 1 := tk_by_l.mp h145
      have hlt : b + j < z := tk_N_lt (f := I 107) (by omega)
      have hso : tk_sort (I 107 (b + j)) = 1 := by rw [← hs]; exact (if_pos hlt).symm
      have hr : tk_r (I 107) z 1 (b + (j + 1)) = tk_e (I 107) z b := by rw [← q, tk_r_in hlt, if_pos hso]; rfl
      have hje : j < tk_e (I 107) z b - b := by have h9 := (tk_r_le (f := I 107) (s := 1) (show b + (j + 1) ≤ z by omega)).1; omega
      refine g_aload_n (pc := 148) (i := 0) (j := 0) C dX8_advance_148 rfl rfl ?_
      refine g_aload_n (pc := 149) (i := 0) (j := 0) C dX8_advance_149 rfl rfl ?_
      refine g_getI (pc := 150) C dX8_advance_150 lfX8_93 (by first | rfl | assumption) rfl ?_
      rw [g13]
      refine g_aload_n (pc := 153) (i := 0) (j := 0) C dX8_advance_153 rfl rfl ?_
      refine g_getI (pc := 154) C dX8_advance_154 lfX8_96 (by first | rfl | assumption) rfl ?_
      refine g_isub (pc := 157) C dX8_advance_157 ?_
      rw [g12, nI_subN (show b ≤ b + j by omega), show b + j - b = j by omega]
      refine g_bipush (pc := 158) (v := 8) C dX8_advance_158 (by decide) ?_
      refine g_icmp_ge (pc := 160) (tgt := 188) C dX8_advance_160 (by decide) (fun h160 => ?_) (fun h160 => ?_)
      · refine g_ldc2 (pc := 188) C dX8_advance_188 lcX8_124 ?_
        refine g_putJ (pc := 191) C dX8_advance_191 lpX8_113 rfl rfl (by first | rfl | assumption) rfl ?_
        first
          | refine pm_Geq (J := pm_uJ J 102 14 (tk_wv (I 107) b (j + 1))) ?_ rfl rfl rfl (by rw [pm_uJ_uJ]; congr 1; have hj8 : j < 8 := Nat.lt_of_not_le (fun z9 => h160 ((nI_leI (a := 8) (b := j) (by decide) (by omega)).mpr z9)); unfold tk_wv; rw [if_pos (by omega), if_pos (by omega), tk_by_in hlt]; rfl)
          | refine pm_Geq (J := pm_uJ J 102 14 (tk_wv (I 107) b (j + 1))) ?_ rfl rfl rfl (by rw [pm_uJ_uJ]; congr 1; have hj8 : 8 ≤ j := (nI_leI (a := 8) (b := j) (by decide) (by omega)).mp h160; unfold tk_wv; rw [if_neg (by omega)])
        refine g_aload_n (pc := 194) (i := 0) (j := 0) C dX8_advance_194 rfl rfl ?_
        refine g_dup (pc := 195) C dX8_advance_195 rfl ?_
        refine g_getI (pc := 196) C dX8_advance_196 lfX8_93 (by first | rfl | assumption) rfl ?_
        rw [g13]
        refine g_iconst (pc := 199) (v := 1) C dX8_advance_199 (by decide) ?_
        refine g_iadd (pc := 200) C dX8_advance_200 ?_
        rw [nI_1]
        refine g_putI (pc := 201) C dX8_advance_201 lpX8_93 rfl rfl (by first | rfl | assumption) rfl ?_
        refine g_goto (pc := 204) (tgt := 126) C dX8_advance_204 (by decide) ?_
        refine pm_Geq (ih hje hr) rfl rfl ?_ rfl
        rw [pm_u_s, pm_s_at, pm_s_s, mrow_u13]
        rfl
      · refine g_ldc2 (pc := 163) C dX8_advance_163 lcX8_120 ?_
        refine g_aload_n (pc := 166) (i := 0) (j := 0) C dX8_advance_166 rfl rfl ?_
        refine g_getJ (pc := 167) C dX8_advance_167 lfX8_113 (by first | rfl | assumption) rfl ?_
        rw [g14]
        refine g_lmul (pc := 170) C dX8_advance_170 ?_
        refine g_aload_n (pc := 171) (i := 0) (j := 0) C dX8_advance_171 rfl rfl ?_
        refine g_aload_n (pc := 172) (i := 0) (j := 0) C dX8_advance_172 rfl rfl ?_
        refine g_getI (pc := 173) C dX8_advance_173 lfX8_93 (by first | rfl | assumption) rfl ?_
        rw [g13]
        refine g_callV (pc := 176) C dX8_advance_176 lmX8_99 kcX8_byteAt (by decide) (by first | rfl | assumption) (c_X8_byteAt (k := b + j) g10 hz2 (by omega)) rfl rfl (Nat.le_of_ble_eq_true rfl) ?_
        intro r9 sh9 I9 J9 hD9; obtain ⟨rfl, rfl, rfl, rfl⟩ := pm_Dq hD9; clear hD9
        try simp only [Option.toList_some, Option.toList_none, List.cons_append, List.nil_append]
        rw [g107]
        refine g_i2l (pc := 179) C dX8_advance_179 ?_
        refine g_ladd (pc := 180) C dX8_advance_180 ?_
        refine g_ldc2 (pc := 181) C dX8_advance_181 lcX8_122 ?_
        refine g_lsub (pc := 184) C dX8_advance_184 ?_
        refine g_goto (pc := 185) (tgt := 191) C dX8_advance_185 (by decide) ?_
        refine g_putJ (pc := 191) C dX8_advance_191 lpX8_113 rfl rfl (by first | rfl | assumption) rfl ?_
        first
          | refine pm_Geq (J := pm_uJ J 102 14 (tk_wv (I 107) b (j + 1))) ?_ rfl rfl rfl (by rw [pm_uJ_uJ]; congr 1; have hj8 : j < 8 := Nat.lt_of_not_le (fun z9 => h160 ((nI_leI (a := 8) (b := j) (by decide) (by omega)).mpr z9)); unfold tk_wv; rw [if_pos (by omega), if_pos (by omega), tk_by_in hlt]; rfl)
          | refine pm_Geq (J := pm_uJ J 102 14 (tk_wv (I 107) b (j + 1))) ?_ rfl rfl rfl (by rw [pm_uJ_uJ]; congr 1; have hj8 : 8 ≤ j := (nI_leI (a := 8) (b := j) (by decide) (by omega)).mp h160; unfold tk_wv; rw [if_neg (by omega)])
        refine g_aload_n (pc := 194) (i := 0) (j := 0) C dX8_advance_194 rfl rfl ?_
        refine g_dup (pc := 195) C dX8_advance_195 rfl ?_
        refine g_getI (pc := 196) C dX8_advance_196 lfX8_93 (by first | rfl | assumption) rfl ?_
        rw [g13]
        refine g_iconst (pc := 199) (v := 1) C dX8_advance_199 (by decide) ?_
        refine g_iadd (pc := 200) C dX8_advance_200 ?_
        rw [nI_1]
        refine g_putI (pc := 201) C dX8_advance_201 lpX8_93 rfl rfl (by first | rfl | assumption) rfl ?_
        refine g_goto (pc := 204) (tgt := 126) C dX8_advance_204 (by decide) ?_
        refine pm_Geq (ih hje hr) rfl rfl ?_ rfl
        rw [pm_u_s, pm_s_at, pm_s_s, mrow_u13]
        rfl
  have hl6 : pm_G Γ 0 0 126 [(0, .ref 102), (1, .int y)] [] SHP (pm_s I 102 (mrow (I 102) (nI (tk_s (I 107) z b)) (nI b) (nI (if tk_s (I 107) z b = 3 then b + 1 else b)) (if tk_s (I 107) z b = 2 then 0 else y))) (pm_uJ J 102 14 0) := by
    by_cases q1 : tk_s (I 107) z b = 1
    · have hlt : b < z := tk_N_lt (f := I 107) (by omega)
      refine pm_Geq (hl1 q1 0 (Nat.zero_le _) ?_) rfl rfl ?_ rfl
      · rw [tk_e_1 (Or.inl q1), q1]; rfl
      · rw [if_neg (by omega), if_neg (by omega)]; rfl
    · have g11 : (pm_s I 102 (mrow (I 102) (nI (tk_s (I 107) z b)) (nI b) (nI (if tk_s (I 107) z b = 3 then b + 1 else b)) (if tk_s (I 107) z b = 2 then 0 else y))) 102 11 = nI (tk_s (I 107) z b) := by rw [pm_s_at]; rfl
      refine g_aload_n (pc := 126) (i := 0) (j := 0) C dX8_advance_126 rfl rfl ?_
      refine g_getI (pc := 127) C dX8_advance_127 lfX8_110 (by first | rfl | assumption) rfl ?_
      rw [g11]
      refine g_iconst (pc := 130) (v := 1) C dX8_advance_130 (by decide) ?_
      refine g_icmp_ne (pc := 131) (tgt := 207) C dX8_advance_131 (by decide) (fun h131 => ?_) (fun h131 => absurd h131 (fun z9 => q1 (e1.mp z9)))
      have hJ : pm_uJ J 102 14 0 = mtJ J (I 107) z b := by
        unfold mtJ tk_w
        rw [if_neg q1]
      by_cases q2 : tk_s (I 107) z b = 2
      · refine pm_Geq (hl2 q2 0 (Nat.zero_le _) ?_) rfl rfl ?_ hJ
        · rw [tk_e_1 (Or.inr q2), q2]; rfl
        · rw [if_neg (by omega), if_pos q2]; rfl
      · refine pm_Geq (hl3 q2) rfl rfl ?_ hJ
        rw [if_neg q2]
        have h0 : tk_val (I 107) z b = y := by
          unfold tk_val
          rw [if_neg q2, hy]
        have h1 : tk_e (I 107) z b = if tk_s (I 107) z b = 3 then b + 1 else b := by
          unfold tk_e
          by_cases q0 : tk_s (I 107) z b = 0
          · rw [if_pos q0, if_neg (by omega)]
          · rw [if_neg q0, if_pos (by omega), if_pos (by omega)]
        rw [h0, h1]
  have hl8 : pm_G Γ 0 0 108 [(0, .ref 102), (1, .int y)] [] SHP (pm_s I 102 (mrow (I 102) (nI (tk_s (I 107) z b)) (nI b) (nI b) (if tk_s (I 107) z b = 2 then 0 else y))) (pm_uJ J 102 14 0) := by
    have g11 : (pm_s I 102 (mrow (I 102) (nI (tk_s (I 107) z b)) (nI b) (nI b) (if tk_s (I 107) z b = 2 then 0 else y))) 102 11 = nI (tk_s (I 107) z b) := by rw [pm_s_at]; rfl
    have g13 : (pm_s I 102 (mrow (I 102) (nI (tk_s (I 107) z b)) (nI b) (nI b) (if tk_s (I 107) z b = 2 then 0 else y))) 102 13 = nI b := by rw [pm_s_at]; rfl
    refine g_aload_n (pc := 108) (i := 0) (j := 0) C dX8_advance_108 rfl rfl ?_
    refine g_getI (pc := 109) C dX8_advance_109 lfX8_110 (by first | rfl | assumption) rfl ?_
    rw [g11]
    refine g_iconst (pc := 112) (v := 3) C dX8_advance_112 (by decide) ?_
    refine g_icmp_ne (pc := 113) (tgt := 126) C dX8_advance_113 (by decide) (fun h113 => ?_) (fun h113 => ?_)
    · refine pm_Geq hl6 rfl rfl ?_ rfl
      first | (rw [if_pos (e3.mp h113), pm_u_s, pm_s_at, pm_s_s, mrow_u13]) | (rw [if_neg (fun z9 => h113 (e3.mpr z9))])
    · refine g_aload_n (pc := 116) (i := 0) (j := 0) C dX8_advance_116 rfl rfl ?_
      refine g_dup (pc := 117) C dX8_advance_117 rfl ?_
      refine g_getI (pc := 118) C dX8_advance_118 lfX8_93 (by first | rfl | assumption) rfl ?_
      rw [g13]
      refine g_iconst (pc := 121) (v := 1) C dX8_advance_121 (by decide) ?_
      refine g_iadd (pc := 122) C dX8_advance_122 ?_
      rw [nI_1]
      refine g_putI (pc := 123) C dX8_advance_123 lpX8_93 rfl rfl (by first | rfl | assumption) rfl ?_
      refine pm_Geq hl6 rfl rfl ?_ rfl
      first | (rw [if_pos (e3.mp h113), pm_u_s, pm_s_at, pm_s_s, mrow_u13]) | (rw [if_neg (fun z9 => h113 (e3.mpr z9))])
  have hl7 : pm_G Γ 0 0 86 [(0, .ref 102), (1, .int y)] [] SHP (pm_s I 102 (mrow (I 102) (nI (tk_s (I 107) z b)) (nI b) (nI b) (I 102 15))) J := by
    have g11 : (pm_s I 102 (mrow (I 102) (nI (tk_s (I 107) z b)) (nI b) (nI b) (I 102 15))) 102 11 = nI (tk_s (I 107) z b) := by rw [pm_s_at]; rfl
    refine g_aload_n (pc := 86) (i := 0) (j := 0) C dX8_advance_86 rfl rfl ?_
    refine g_lconst (pc := 87) (v := 0) C dX8_advance_87 (by decide) ?_
    refine g_putJ (pc := 88) C dX8_advance_88 lpX8_113 rfl rfl (by first | rfl | assumption) rfl ?_
    refine g_aload_n (pc := 91) (i := 0) (j := 0) C dX8_advance_91 rfl rfl ?_
    refine g_aload_n (pc := 92) (i := 0) (j := 0) C dX8_advance_92 rfl rfl ?_
    refine g_getI (pc := 93) C dX8_advance_93 lfX8_110 (by first | rfl | assumption) rfl ?_
    rw [g11]
    refine g_iconst (pc := 96) (v := 2) C dX8_advance_96 (by decide) ?_
    refine g_icmp_ne (pc := 97) (tgt := 104) C dX8_advance_97 (by decide) (fun h97 => ?_) (fun h97 => ?_)
    · refine g_iload_n (pc := 104) (i := 1) (j := 1) C dX8_advance_104 rfl rfl ?_
      refine g_putI (pc := 105) C dX8_advance_105 lpX8_117 rfl rfl (by first | rfl | assumption) rfl ?_
      refine pm_Geq hl8 rfl rfl ?_ rfl
      rw [pm_u_s, pm_s_at, pm_s_s, mrow_u15]
      first | rw [if_pos (e2.mp h97)] | rw [if_neg (fun z9 => h97 (e2.mpr z9))]
    · refine g_iconst (pc := 100) (v := 0) C dX8_advance_100 (by decide) ?_
      refine g_goto (pc := 101) (tgt := 105) C dX8_advance_101 (by decide) ?_
      refine g_putI (pc := 105) C dX8_advance_105 lpX8_117 rfl rfl (by first | rfl | assumption) rfl ?_
      refine pm_Geq hl8 rfl rfl ?_ rfl
      rw [pm_u_s, pm_s_at, pm_s_s, mrow_u15]
      first | rw [if_pos (e2.mp h97)] | rw [if_neg (fun z9 => h97 (e2.mpr z9))]
  have hl0 : ∀ j, j ≤ z → tk_b (I 107) z j = b → pm_G Γ 0 0 8 [(0, .ref 102)] [] SHP (pm_u I 102 12 (nI j)) J := by
    refine pm_up (fun j => tk_b (I 107) z j = b → pm_G Γ 0 0 8 [(0, .ref 102)] [] SHP (pm_u I 102 12 (nI j)) J) z (fun j hj ih q1 => ?_)
    have g10 : (pm_u I 102 12 (nI j)) 102 10 = nI z := by rw [pm_u_at, pk_un (by decide)]; exact hz
    have g12 : (pm_u I 102 12 (nI j)) 102 12 = nI j := by rw [pm_u_at, pk_us]
    have g107 : (pm_u I 102 12 (nI j)) 107 = I 107 := pm_u_off (by decide)
    refine g_aload_n (pc := 8) (i := 0) (j := 0) C dX8_advance_8 rfl rfl ?_
    refine g_aload_n (pc := 9) (i := 0) (j := 0) C dX8_advance_9 rfl rfl ?_
    refine g_getI (pc := 10) C dX8_advance_10 lfX8_96 (by first | rfl | assumption) rfl ?_
    rw [g12]
    refine g_callV (pc := 13) C dX8_advance_13 lmX8_99 kcX8_byteAt (by decide) (by first | rfl | assumption) (c_X8_byteAt (k := j) g10 hz2 (by omega)) rfl rfl (Nat.le_of_ble_eq_true rfl) ?_
    intro r9 sh9 I9 J9 hD9; obtain ⟨rfl, rfl, rfl, rfl⟩ := pm_Dq hD9; clear hD9
    try simp only [Option.toList_some, Option.toList_none, List.cons_append, List.nil_append]
    rw [g107]
    refine g_bipush (pc := 16) (v := 32) C dX8_advance_16 (by decide) ?_
    refine g_icmp_ne (pc := 18) (tgt := 34) C dX8_advance_18 (by decide) (fun h18 => ?_) (fun h18 => ?_)
    · have ebj : b = j := by
        rw [← q1]
        by_cases hlt : j < z
        · rw [tk_b_in hlt, if_neg (fun z9 => h18 (tk_by_32.mpr ⟨hlt, z9⟩))]
        · exact tk_b_out (by omega)
      clear q1 ih
      subst ebj
      refine g_aload_n (pc := 34) (i := 0) (j := 0) C dX8_advance_34 rfl rfl ?_
      refine g_aload_n (pc := 35) (i := 0) (j := 0) C dX8_advance_35 rfl rfl ?_
      refine g_getI (pc := 36) C dX8_advance_36 lfX8_96 (by first | rfl | assumption) rfl ?_
      rw [g12]
      refine g_putI (pc := 39) C dX8_advance_39 lpX8_93 rfl rfl (by first | rfl | assumption) rfl ?_
      refine g_aload_n (pc := 42) (i := 0) (j := 0) C dX8_advance_42 rfl rfl ?_
      refine g_aload_n (pc := 43) (i := 0) (j := 0) C dX8_advance_43 rfl rfl ?_
      refine g_getI (pc := 44) C dX8_advance_44 lfX8_96 (by first | rfl | assumption) rfl ?_
      rw [show (pm_u (pm_u I 102 12 (nI b)) 102 13 (nI b)) 102 12 = nI b by rw [pm_u_at, pk_un (by decide), pm_u_at, pk_us]]
      refine g_callV (pc := 47) C dX8_advance_47 lmX8_99 kcX8_byteAt (by decide) (by first | rfl | assumption) (c_X8_byteAt (k := b) (I := (pm_u (pm_u I 102 12 (nI b)) 102 13 (nI b))) (z := z) (by rw [pm_u_at, pk_un (by decide), pm_u_at, pk_un (by decide)]; exact hz) hz2 (by omega)) rfl rfl (Nat.le_of_ble_eq_true rfl) ?_
      intro r9 sh9 I9 J9 hD9; obtain ⟨rfl, rfl, rfl, rfl⟩ := pm_Dq hD9; clear hD9
      try simp only [Option.toList_some, Option.toList_none, List.cons_append, List.nil_append]
      rw [show (pm_u (pm_u I 102 12 (nI b)) 102 13 (nI b)) 107 = I 107 by rw [pm_u_off (by decide), pm_u_off (by decide)], hy]
      refine g_istore_n (pc := 50) (i := 1) (L2 := [(0, _), (1, _)]) C dX8_advance_50 rfl (by decide) rfl ?_
      refine g_aload_n (pc := 51) (i := 0) (j := 0) C dX8_advance_51 rfl rfl ?_
      refine g_iload_n (pc := 52) (i := 1) (j := 1) C dX8_advance_52 rfl rfl ?_
      refine g_if_ge (pc := 53) (tgt := 60) C dX8_advance_53 (by decide) (fun h53 => ?_) (fun h53 => ?_)
      · refine g_iload_n (pc := 60) (i := 1) (j := 1) C dX8_advance_60 rfl rfl ?_
        refine g_callS (pc := 61) C dX8_advance_61 lmX8_103 kcX8_isLetter (by decide) (c_X8_isLetter) rfl rfl (Nat.le_of_ble_eq_true rfl) ?_
        intro r9 sh9 I9 J9 hD9; obtain ⟨rfl, rfl, rfl, rfl⟩ := pm_Dq hD9; clear hD9
        try simp only [Option.toList_some, Option.toList_none, List.cons_append, List.nil_append]
        refine g_if_eqB (pc := 64) (tgt := 71) C dX8_advance_64 (by decide) (fun h64 => ?_) (fun h64 => ?_)
        · refine g_iload_n (pc := 71) (i := 1) (j := 1) C dX8_advance_71 rfl rfl ?_
          refine g_callS (pc := 72) C dX8_advance_72 lmX8_107 kcX8_isDigit (by decide) (c_X8_isDigit) rfl rfl (Nat.le_of_ble_eq_true rfl) ?_
          intro r9 sh9 I9 J9 hD9; obtain ⟨rfl, rfl, rfl, rfl⟩ := pm_Dq hD9; clear hD9
          try simp only [Option.toList_some, Option.toList_none, List.cons_append, List.nil_append]
          refine g_if_eqB (pc := 75) (tgt := 82) C dX8_advance_75 (by decide) (fun h75 => ?_) (fun h75 => ?_)
          · refine g_iconst (pc := 82) (v := 3) C dX8_advance_82 (by decide) ?_
            have s0 := tk_by_0 (g := I 107) (k := b) hg
            have sl := tk_by_l (g := I 107) (z := z) (k := b)
            have sd := tk_by_d (g := I 107) (z := z) (k := b)
            rw [hy] at s0 sl sd
            refine pm_Geq (st := [.int (nI (tk_s (I 107) z b)), .ref 102]) ?_ rfl ?_ rfl rfl
            rotate_left
            · first
                | (have a0 : ¬ tk_s (I 107) z b = 0 := fun z9 => absurd (s0.mpr z9) (Int32.not_lt.mpr h53); have a1 : ¬ tk_s (I 107) z b = 1 := fun z9 => absurd (sl.mpr z9) h64; have a2 : ¬ tk_s (I 107) z b = 2 := fun z9 => absurd (sd.mpr z9) h75; rw [show tk_s (I 107) z b = 3 by omega]; rfl)
                | (rw [show tk_s (I 107) z b = 2 from sd.mp h75]; rfl)
                | (rw [show tk_s (I 107) z b = 1 from sl.mp h64]; rfl)
                | (rw [show tk_s (I 107) z b = 0 from s0.mp (Int32.not_le.mp h53)]; rfl)
            refine g_putI (pc := 83) C dX8_advance_83 lpX8_110 rfl rfl (by first | rfl | assumption) rfl ?_
            refine pm_Geq hl7 rfl rfl ?_ rfl
            rw [pm_u_s, pm_u_s, pm_u_s, pm_s_at, pm_s_at, pm_s_s, pm_s_s, mrow_of]
          · refine g_iconst (pc := 78) (v := 2) C dX8_advance_78 (by decide) ?_
            refine g_goto (pc := 79) (tgt := 83) C dX8_advance_79 (by decide) ?_
            have s0 := tk_by_0 (g := I 107) (k := b) hg
            have sl := tk_by_l (g := I 107) (z := z) (k := b)
            have sd := tk_by_d (g := I 107) (z := z) (k := b)
            rw [hy] at s0 sl sd
            refine pm_Geq (st := [.int (nI (tk_s (I 107) z b)), .ref 102]) ?_ rfl ?_ rfl rfl
            rotate_left
            · first
                | (have a0 : ¬ tk_s (I 107) z b = 0 := fun z9 => absurd (s0.mpr z9) (Int32.not_lt.mpr h53); have a1 : ¬ tk_s (I 107) z b = 1 := fun z9 => absurd (sl.mpr z9) h64; have a2 : ¬ tk_s (I 107) z b = 2 := fun z9 => absurd (sd.mpr z9) h75; rw [show tk_s (I 107) z b = 3 by omega]; rfl)
                | (rw [show tk_s (I 107) z b = 2 from sd.mp h75]; rfl)
                | (rw [show tk_s (I 107) z b = 1 from sl.mp h64]; rfl)
                | (rw [show tk_s (I 107) z b = 0 from s0.mp (Int32.not_le.mp h53)]; rfl)
            refine g_putI (pc := 83) C dX8_advance_83 lpX8_110 rfl rfl (by first | rfl | assumption) rfl ?_
            refine pm_Geq hl7 rfl rfl ?_ rfl
            rw [pm_u_s, pm_u_s, pm_u_s, pm_s_at, pm_s_at, pm_s_s, pm_s_s, mrow_of]
        · refine g_iconst (pc := 67) (v := 1) C dX8_advance_67 (by decide) ?_
          refine g_goto (pc := 68) (tgt := 83) C dX8_advance_68 (by decide) ?_
          have s0 := tk_by_0 (g := I 107) (k := b) hg
          have sl := tk_by_l (g := I 107) (z := z) (k := b)
          have sd := tk_by_d (g := I 107) (z := z) (k := b)
          rw [hy] at s0 sl sd
          refine pm_Geq (st := [.int (nI (tk_s (I 107) z b)), .ref 102]) ?_ rfl ?_ rfl rfl
          rotate_left
          · first
              | (have a0 : ¬ tk_s (I 107) z b = 0 := fun z9 => absurd (s0.mpr z9) (Int32.not_lt.mpr h53); have a1 : ¬ tk_s (I 107) z b = 1 := fun z9 => absurd (sl.mpr z9) h64; have a2 : ¬ tk_s (I 107) z b = 2 := fun z9 => absurd (sd.mpr z9) h75; rw [show tk_s (I 107) z b = 3 by omega]; rfl)
              | (rw [show tk_s (I 107) z b = 2 from sd.mp h75]; rfl)
              | (rw [show tk_s (I 107) z b = 1 from sl.mp h64]; rfl)
              | (rw [show tk_s (I 107) z b = 0 from s0.mp (Int32.not_le.mp h53)]; rfl)
          refine g_putI (pc := 83) C dX8_advance_83 lpX8_110 rfl rfl (by first | rfl | assumption) rfl ?_
          refine pm_Geq hl7 rfl rfl ?_ rfl
          rw [pm_u_s, pm_u_s, pm_u_s, pm_s_at, pm_s_at, pm_s_s, pm_s_s, mrow_of]
      · refine g_iconst (pc := 56) (v := 0) C dX8_advance_56 (by decide) ?_
        refine g_goto (pc := 57) (tgt := 83) C dX8_advance_57 (by decide) ?_
        have s0 := tk_by_0 (g := I 107) (k := b) hg
        have sl := tk_by_l (g := I 107) (z := z) (k := b)
        have sd := tk_by_d (g := I 107) (z := z) (k := b)
        rw [hy] at s0 sl sd
        refine pm_Geq (st := [.int (nI (tk_s (I 107) z b)), .ref 102]) ?_ rfl ?_ rfl rfl
        rotate_left
        · first
            | (have a0 : ¬ tk_s (I 107) z b = 0 := fun z9 => absurd (s0.mpr z9) (Int32.not_lt.mpr h53); have a1 : ¬ tk_s (I 107) z b = 1 := fun z9 => absurd (sl.mpr z9) h64; have a2 : ¬ tk_s (I 107) z b = 2 := fun z9 => absurd (sd.mpr z9) h75; rw [show tk_s (I 107) z b = 3 by omega]; rfl)
            | (rw [show tk_s (I 107) z b = 2 from sd.mp h75]; rfl)
            | (rw [show tk_s (I 107) z b = 1 from sl.mp h64]; rfl)
            | (rw [show tk_s (I 107) z b = 0 from s0.mp (Int32.not_le.mp h53)]; rfl)
        refine g_putI (pc := 83) C dX8_advance_83 lpX8_110 rfl rfl (by first | rfl | assumption) rfl ?_
        refine pm_Geq hl7 rfl rfl ?_ rfl
        rw [pm_u_s, pm_u_s, pm_u_s, pm_s_at, pm_s_at, pm_s_s, pm_s_s, mrow_of]
    · have h32 := tk_by_32.mp h18
      refine g_aload_n (pc := 21) (i := 0) (j := 0) C dX8_advance_21 rfl rfl ?_
      refine g_dup (pc := 22) C dX8_advance_22 rfl ?_
      refine g_getI (pc := 23) C dX8_advance_23 lfX8_96 (by first | rfl | assumption) rfl ?_
      rw [g12]
      refine g_iconst (pc := 26) (v := 1) C dX8_advance_26 (by decide) ?_
      refine g_iadd (pc := 27) C dX8_advance_27 ?_
      refine g_putI (pc := 28) C dX8_advance_28 lpX8_96 rfl rfl (by first | rfl | assumption) rfl ?_
      refine g_goto (pc := 31) (tgt := 8) C dX8_advance_31 (by decide) ?_
      rw [pm_u_u, nI_1]
      exact ih h32.1 (by rw [← q1, tk_b_in h32.1, if_pos h32.2])
  refine g_aload_n (pc := 0) (i := 0) (j := 0) C dX8_advance_0 rfl rfl ?_
  refine g_aload_n (pc := 1) (i := 0) (j := 0) C dX8_advance_1 rfl rfl ?_
  refine g_getI (pc := 2) C dX8_advance_2 lfX8_93 (by first | rfl | assumption) rfl ?_
  rw [hp]
  refine g_putI (pc := 5) C dX8_advance_5 lpX8_96 rfl rfl (by first | rfl | assumption) rfl ?_
  exact hl0 p hpz hb
