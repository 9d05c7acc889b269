/-! The two readings go together -/
/-- the cursors: both go on at one place, or both are at fault at one place -/
def RC (z : Nat) (st : cs_T) (mt : mt_T) : Prop := (mt.2 = true ∧ st = (mt.1, -3)) ∨ (mt.2 = false ∧ st.2 = nI mt.1 ∧ mt.1 ≤ z)
section RCS
variable {g : Nat → Int32} {z : Nat} {st : cs_T} {mt : mt_T}
theorem RC_ok (h : RC z st mt) (ho : mt.2 = true) : st = (mt.1, -3) := by
  rcases h with h | h
  · exact h.2
  · exact absurd (h.1.symm.trans ho) Bool.false_ne_true
theorem RC_no (h : RC z st mt) (ho : ¬ mt.2 = true) : mt.2 = false ∧ st.2 = nI mt.1 ∧ mt.1 ≤ z := by
  rcases h with h | h
  · exact absurd h.1 ho
  · exact h
theorem cs_f_2 (hz : z ≤ 240) (hb : mt.1 ≤ z) (h : st.2 = nI mt.1) : (cs_f st).2 = nI mt.1 := by
  show tk_f st.2 st.1 = nI mt.1
  unfold tk_f
  rw [h, if_neg (nI_ne3 (by omega))]
theorem RC_step (hz : z ≤ 240) (hb : mt.1 ≤ z) (h : RC z st mt) {P Q : Prop} [Decidable P] [Decidable Q] (hPQ : mt.2 = true → (P ↔ Q)) : RC z (if P then cs_x g z st else cs_f st) (if mt.2 = true ∧ Q then mt_x g z mt else (mt.1, false)) := by
  by_cases ho : mt.2 = true
  · have e := RC_ok h ho
    by_cases hq : Q
    · rw [if_pos ((hPQ ho).mpr hq), if_pos ⟨ho, hq⟩, e]
      exact Or.inl ⟨ho, rfl⟩
    · rw [if_neg (fun x => hq ((hPQ ho).mp x)), if_neg (fun x => hq x.2), e]
      exact Or.inr ⟨rfl, (show tk_f (-3) mt.1 = nI mt.1 from if_pos rfl), hb⟩
  · obtain ⟨h1, h2, h3⟩ := RC_no h ho
    rw [if_neg (fun x : mt.2 = true ∧ Q => ho x.1)]
    refine Or.inr ⟨rfl, ?_, h3⟩
    by_cases hp : P
    · rw [if_pos hp]
      exact h2
    · rw [if_neg hp]
      exact cs_f_2 hz h3 h2
theorem RC_num (hz : z ≤ 240) (hb : mt.1 ≤ z) (h : RC z st mt) (lo hi : Int32) : RC z (cs_num g z lo hi st) (mt_num g z lo hi mt) := by
  unfold cs_num mt_num
  exact RC_step hz hb h (fun ho => by rw [RC_ok h ho])
theorem RC_nm (hz : z ≤ 240) (hb : mt.1 ≤ z) (h : RC z st mt) (t : List Int32) : RC z (cs_nm g z t st) (mt_nm g z t mt) := by
  unfold cs_nm mt_nm
  exact RC_step hz hb h (fun ho => by rw [RC_ok h ho])
theorem RC_sg (hz : z ≤ 240) (hb : mt.1 ≤ z) (h : RC z st mt) : RC z (cs_sg g z st) (mt_sg g z mt) := by
  unfold cs_sg mt_sg
  exact RC_step hz hb h (fun ho => by rw [RC_ok h ho])
theorem RC_x (ho : mt.2 = true) (h : RC z st mt) : RC z (cs_x g z st) (mt_x g z mt) := by
  rw [RC_ok h ho]
  exact Or.inl ⟨ho, rfl⟩
theorem RC_pt (hz : z ≤ 240) (hb : mt.1 ≤ z) (h : RC z st mt) (t : List Int32) (lo hi : Int32) : RC z (cs_pt g z t lo hi st) (mt_pt g z t lo hi mt) := by
  unfold cs_pt mt_pt
  by_cases ho : mt.2 = true
  · have e := RC_ok h ho
    by_cases hq : tk_nm g z mt.1 t
    · rw [if_pos ⟨by rw [e], by rw [e]; exact hq⟩, if_pos ⟨ho, hq⟩]
      exact RC_num hz (mt_x_le hb) (RC_x ho h) lo hi
    · rw [if_neg (fun x => hq (by have := x.2; rw [e] at this; exact this)), if_neg (fun x => hq x.2)]
      exact h
  · obtain ⟨h1, h2, h3⟩ := RC_no h ho
    rw [if_neg (fun x => by have := x.1; rw [h2] at this; exact nI_ne3 (by omega) this), if_neg (fun x => ho x.1)]
    exact h
theorem RC_v (h : RC z st mt) {lo hi : Int32} (ho : (mt_num g z lo hi mt).2 = true) : cs_v g z lo hi st = tk_val g z mt.1 ∧ lo ≤ tk_val g z mt.1 ∧ tk_val g z mt.1 ≤ hi := by
  obtain ⟨h1, h2⟩ := mt_num_ok ho
  have e := RC_ok h h1
  have e3 := tk_val_v h2
  refine ⟨?_, by rw [e3]; exact h2.2.2.1, by rw [e3]; exact h2.2.2.2⟩
  unfold cs_v
  rw [e, if_pos h2, e3]
/-- a part that may be told: the row gets what the model's local gets -/
theorem RC_pv (h : RC z st mt) {t : List Int32} {lo hi d : Int32} (hd : lo ≤ d ∧ d ≤ hi) (ho : (mt_pt g z t lo hi mt).2 = true) {W : pm_I} {q p : Nat} (hW : W q p = d) : cs_pI W g z q p t lo hi st q p = mt_pv g z t d mt ∧ lo ≤ mt_pv g z t d mt ∧ mt_pv g z t d mt ≤ hi := by
  have h1 := mt_pt_ok ho
  have e := RC_ok h h1
  unfold cs_pI mt_pv
  by_cases hq : tk_nm g z mt.1 t
  · have ho2 : (mt_num g z lo hi (mt_x g z mt)).2 = true := by
      have e4 : mt_pt g z t lo hi mt = mt_num g z lo hi (mt_x g z mt) := if_pos ⟨h1, hq⟩
      rw [e4] at ho
      exact ho
    have hv := RC_v (RC_x (g := g) h1 h) ho2
    rw [if_pos ⟨by rw [e], by rw [e]; exact hq⟩, if_pos ⟨h1, hq⟩, pm_u_at, pk_us]
    exact hv
  · rw [if_neg (fun x => hq (by have := x.2; rw [e] at this; exact this)), if_neg (fun x => hq x.2), hW]
    exact ⟨rfl, hd⟩
theorem cs_pI_un {W : pm_I} {q p r : Nat} {t : List Int32} {lo hi : Int32} (hr : r ≠ p) : cs_pI W g z q p t lo hi st q r = W q r := by
  unfold cs_pI
  split
  · rw [pm_u_at, pk_un hr]
  · rfl
end RCS
/-- parts in their ranges -/
def bo_ok (f : Nat → Int32) : Prop := ∀ p, p < 9 → (pm_tv 1).getD p 0 ≤ f p ∧ f p ≤ (pm_tv 2).getD p 0
/-- the told towns: the class's in Wc, the model's in Wm -/
def RT (Wc Wm : pm_I) : Prop := (∃ n, n ≤ 6 ∧ Wc 31 2 = nI n ∧ Wm 102 17 = nI n ∧ ∀ b, b < n → bo_ok (Wc (35 + 2 * b)) ∧ Wc (35 + 2 * b) 0 = Wm 108 b ∧ Wc (35 + 2 * b) 1 = Wm 109 b ∧ ∀ p, 2 ≤ p → p < 9 → Wc (35 + 2 * b) p = Wm 110 (7 * b + (p - 1))) ∧ Wc 31 3 = 0 ∧ Wc 31 4 = Wm 102 18 ∧ ∀ h, h < 24 → Wc 32 h = Wm 111 h
theorem cs_b1_1 {W : pm_I} {g : Nat → Int32} {z n : Nat} {k : Int32} {st : cs_T} : (cs_b1 W g z n k st).1 = cs_pI (cs_b0 W g z n k st).1 g z (35 + 2 * n) 5 (pm_tx 7).2.2 0 999 (cs_b0 W g z n k st).2 := by
  have h1 : (pm_tv 1).getD 5 0 = 0 := rfl
  have h2 : (pm_tv 2).getD 5 0 = 999 := rfl
  rw [cs_b1, cs_bp, h1, h2]
theorem cs_b1_2 {W : pm_I} {g : Nat → Int32} {z n : Nat} {k : Int32} {st : cs_T} : (cs_b1 W g z n k st).2 = cs_pt g z (pm_tx 7).2.2 0 999 (cs_b0 W g z n k st).2 := by
  have h1 : (pm_tv 1).getD 5 0 = 0 := rfl
  have h2 : (pm_tv 2).getD 5 0 = 999 := rfl
  rw [cs_b1, cs_bp, h1, h2]
theorem cs_b2_1 {W : pm_I} {g : Nat → Int32} {z n : Nat} {k : Int32} {st : cs_T} : (cs_b2 W g z n k st).1 = cs_pI (cs_b1 W g z n k st).1 g z (35 + 2 * n) 6 (pm_tx 8).2.2 0 999 (cs_b1 W g z n k st).2 := by
  have h1 : (pm_tv 1).getD 6 0 = 0 := rfl
  have h2 : (pm_tv 2).getD 6 0 = 999 := rfl
  rw [cs_b2, cs_bp, h1, h2]
theorem cs_b2_2 {W : pm_I} {g : Nat → Int32} {z n : Nat} {k : Int32} {st : cs_T} : (cs_b2 W g z n k st).2 = cs_pt g z (pm_tx 8).2.2 0 999 (cs_b1 W g z n k st).2 := by
  have h1 : (pm_tv 1).getD 6 0 = 0 := rfl
  have h2 : (pm_tv 2).getD 6 0 = 999 := rfl
  rw [cs_b2, cs_bp, h1, h2]
theorem cs_b3_1 {W : pm_I} {g : Nat → Int32} {z n : Nat} {k : Int32} {st : cs_T} : (cs_b3 W g z n k st).1 = cs_pI (cs_b2 W g z n k st).1 g z (35 + 2 * n) 4 (pm_tx 9).2.2 1 99 (cs_b2 W g z n k st).2 := by
  have h1 : (pm_tv 1).getD 4 0 = 1 := rfl
  have h2 : (pm_tv 2).getD 4 0 = 99 := rfl
  rw [cs_b3, cs_bp, h1, h2]
theorem cs_b3_2 {W : pm_I} {g : Nat → Int32} {z n : Nat} {k : Int32} {st : cs_T} : (cs_b3 W g z n k st).2 = cs_pt g z (pm_tx 9).2.2 1 99 (cs_b2 W g z n k st).2 := by
  have h1 : (pm_tv 1).getD 4 0 = 1 := rfl
  have h2 : (pm_tv 2).getD 4 0 = 99 := rfl
  rw [cs_b3, cs_bp, h1, h2]
theorem cs_b4_1 {W : pm_I} {g : Nat → Int32} {z n : Nat} {k : Int32} {st : cs_T} : (cs_b4 W g z n k st).1 = cs_pI (cs_b3 W g z n k st).1 g z (35 + 2 * n) 7 (pm_tx 10).2.2 0 99 (cs_b3 W g z n k st).2 := by
  have h1 : (pm_tv 1).getD 7 0 = 0 := rfl
  have h2 : (pm_tv 2).getD 7 0 = 99 := rfl
  rw [cs_b4, cs_bp, h1, h2]
theorem cs_b4_2 {W : pm_I} {g : Nat → Int32} {z n : Nat} {k : Int32} {st : cs_T} : (cs_b4 W g z n k st).2 = cs_pt g z (pm_tx 10).2.2 0 99 (cs_b3 W g z n k st).2 := by
  have h1 : (pm_tv 1).getD 7 0 = 0 := rfl
  have h2 : (pm_tv 2).getD 7 0 = 99 := rfl
  rw [cs_b4, cs_bp, h1, h2]
theorem cs_b5_1 {W : pm_I} {g : Nat → Int32} {z n : Nat} {k : Int32} {st : cs_T} : (cs_b5 W g z n k st).1 = cs_pI (cs_b4 W g z n k st).1 g z (35 + 2 * n) 8 (pm_tx 11).2.2 0 9 (cs_b4 W g z n k st).2 := by
  have h1 : (pm_tv 1).getD 8 0 = 0 := rfl
  have h2 : (pm_tv 2).getD 8 0 = 9 := rfl
  rw [cs_b5, cs_bp, h1, h2]
theorem cs_b5_2 {W : pm_I} {g : Nat → Int32} {z n : Nat} {k : Int32} {st : cs_T} : (cs_b5 W g z n k st).2 = cs_pt g z (pm_tx 11).2.2 0 9 (cs_b4 W g z n k st).2 := by
  have h1 : (pm_tv 1).getD 8 0 = 0 := rfl
  have h2 : (pm_tv 2).getD 8 0 = 9 := rfl
  rw [cs_b5, cs_bp, h1, h2]
theorem cs_b0_2 {W : pm_I} {g : Nat → Int32} {z n : Nat} {k : Int32} {st : cs_T} : (cs_b0 W g z n k st).2 = cs_num g z 0 5 (cs_s1 g z st) := by
  unfold cs_b0 cs_s2
  rfl
/-- a balloon read by both -/
theorem RB_all {W : pm_I} {g : Nat → Int32} {z n : Nat} {k : Int32} {st : cs_T} {mt : mt_T} (hz : z ≤ 240) (hb : mt.1 ≤ z) (hs : st = (mt.1, -3)) (h6 : n < 6) :
    RC z (cs_b0 W g z n k st).2 (mb3 g z n mt) ∧ RC z (cs_b1 W g z n k st).2 (mb4 g z n mt) ∧ RC z (cs_b2 W g z n k st).2 (mb5 g z n mt) ∧ RC z (cs_b3 W g z n k st).2 (mb6 g z n mt) ∧ RC z (cs_b4 W g z n k st).2 (mb7 g z n mt) ∧ RC z (cs_b5 W g z n k st).2 (mb8 g z n mt) ∧ RC z (cs_x g z st) (mb0 g z n mt) ∧ RC z (cs_s1 g z st) (mb2 g z n mt) := by
  have r0 : RC z (cs_x g z st) (mb0 g z n mt) := by
    unfold mb0
    rw [if_pos h6, hs]
    exact Or.inl ⟨rfl, rfl⟩
  have r1 : RC z (cs_num g z 0 9 (cs_x g z st)) (mb1 g z n mt) := by
    unfold mb1
    exact RC_num hz (mb0_le hb) r0 0 9
  have r2 : RC z (cs_s1 g z st) (mb2 g z n mt) := by
    unfold cs_s1 mb2
    exact RC_nm hz (mb1_le hb) r1 _
  have r3 : RC z (cs_b0 W g z n k st).2 (mb3 g z n mt) := by
    rw [cs_b0_2]
    unfold mb3
    exact RC_num hz (mb2_le hb) r2 0 5
  have r4 : RC z (cs_b1 W g z n k st).2 (mb4 g z n mt) := by
    rw [cs_b1_2]
    unfold mb4
    exact RC_pt hz (mb3_le hb) r3 _ _ _
  have r5 : RC z (cs_b2 W g z n k st).2 (mb5 g z n mt) := by
    rw [cs_b2_2]
    unfold mb5
    exact RC_pt hz (mb4_le hb) r4 _ _ _
  have r6 : RC z (cs_b3 W g z n k st).2 (mb6 g z n mt) := by
    rw [cs_b3_2]
    unfold mb6
    exact RC_pt hz (mb5_le hb) r5 _ _ _
  have r7 : RC z (cs_b4 W g z n k st).2 (mb7 g z n mt) := by
    rw [cs_b4_2]
    unfold mb7
    exact RC_pt hz (mb6_le hb) r6 _ _ _
  have r8 : RC z (cs_b5 W g z n k st).2 (mb8 g z n mt) := by
    rw [cs_b5_2]
    unfold mb8
    exact RC_pt hz (mb7_le hb) r7 _ _ _
  exact ⟨r3, r4, r5, r6, r7, r8, r0, r2⟩
theorem bl_first_in (f : Nat → Int32) (k a c : Int32) : bl_first f k a c 0 = k ∧ bl_first f k a c 1 = a ∧ bl_first f k a c 2 = c ∧ bl_first f k a c 3 = 0 ∧ bl_first f k a c 4 = 50 ∧ bl_first f k a c 5 = 100 ∧ bl_first f k a c 6 = 50 ∧ bl_first f k a c 7 = 20 ∧ bl_first f k a c 8 = 1 := ⟨rfl, rfl, rfl, rfl, rfl, rfl, rfl, rfl, rfl⟩
theorem cs_kd_in {g : Nat → Int32} {z b : Nat} (h : ¬ cs_kd g z b = -3) : 0 ≤ cs_kd g z b ∧ cs_kd g z b ≤ 5 := by
  rw [cs_kd_eq] at h ⊢
  by_cases q0 : tk_nm g z b (pm_tx 0).2.2
  · rw [if_pos q0]; decide
  rw [if_neg q0] at h ⊢
  by_cases q1 : tk_nm g z b (pm_tx 1).2.2
  · rw [if_pos q1]; decide
  rw [if_neg q1] at h ⊢
  by_cases q2 : tk_nm g z b (pm_tx 2).2.2
  · rw [if_pos q2]; decide
  rw [if_neg q2] at h ⊢
  by_cases q3 : tk_nm g z b (pm_tx 3).2.2
  · rw [if_pos q3]; decide
  rw [if_neg q3] at h ⊢
  by_cases q4 : tk_nm g z b (pm_tx 4).2.2
  · rw [if_pos q4]; decide
  rw [if_neg q4] at h ⊢
  by_cases q5 : tk_nm g z b (pm_tx 5).2.2
  · rw [if_pos q5]; decide
  rw [if_neg q5] at h
  exact absurd rfl h
/-- its row, if it is told right -/
theorem RB_row {W : pm_I} {g : Nat → Int32} {z n : Nat} {k : Int32} {st : cs_T} {mt : mt_T} (hz : z ≤ 240) (hb : mt.1 ≤ z) (hs : st = (mt.1, -3)) (h6 : n < 6) (ho : (mb9 g z n mt).2 = true) :
    let R := (cs_b5 W g z n k st).1 (35 + 2 * n)
    R 0 = k ∧ (R 1 = tk_val g z (mb0 g z n mt).1 ∧ 0 ≤ R 1 ∧ R 1 ≤ 9) ∧ (R 2 = tk_val g z (mb2 g z n mt).1 ∧ 0 ≤ R 2 ∧ R 2 ≤ 5) ∧ R 3 = 0 ∧ (R 4 = mt_pv g z (pm_tx 9).2.2 50 (mb5 g z n mt) ∧ 1 ≤ R 4 ∧ R 4 ≤ 99) ∧ (R 5 = mt_pv g z (pm_tx 7).2.2 100 (mb3 g z n mt) ∧ 0 ≤ R 5 ∧ R 5 ≤ 999) ∧ (R 6 = mt_pv g z (pm_tx 8).2.2 50 (mb4 g z n mt) ∧ 0 ≤ R 6 ∧ R 6 ≤ 999) ∧ (R 7 = mt_pv g z (pm_tx 10).2.2 20 (mb6 g z n mt) ∧ 0 ≤ R 7 ∧ R 7 ≤ 99) ∧ (R 8 = mt_pv g z (pm_tx 11).2.2 1 (mb7 g z n mt) ∧ 0 ≤ R 8 ∧ R 8 ≤ 9) := by
  obtain ⟨r3, r4, r5, r6, r7, r8, r0, r2⟩ := RB_all (W := W) (g := g) (k := k) hz hb hs h6
  have o8 : (mb8 g z n mt).2 = true := by have q := ho; unfold mb9 at q; exact (mt_sg_ok q).1
  have o7 : (mb7 g z n mt).2 = true := by have q := o8; unfold mb8 at q; exact mt_pt_ok q
  have o6 : (mb6 g z n mt).2 = true := by have q := o7; unfold mb7 at q; exact mt_pt_ok q
  have o5 : (mb5 g z n mt).2 = true := by have q := o6; unfold mb6 at q; exact mt_pt_ok q
  have o4 : (mb4 g z n mt).2 = true := by have q := o5; unfold mb5 at q; exact mt_pt_ok q
  have o3 : (mb3 g z n mt).2 = true := by have q := o4; unfold mb4 at q; exact mt_pt_ok q
  have o2 : (mb2 g z n mt).2 = true := by have q := o3; unfold mb3 at q; exact (mt_num_ok q).1
  have o1 : (mb1 g z n mt).2 = true := by have q := o2; unfold mb2 at q; exact (mt_nm_ok q).1
  have va := RC_v r0 (by have q := o1; unfold mb1 at q; exact q)
  have vc := RC_v r2 (by have q := o3; unfold mb3 at q; exact q)
  obtain ⟨f0, f1, f2, f3, f4, f5, f6, f7, f8⟩ := bl_first_in (W (35 + 2 * n)) k (cs_v g z 0 9 (cs_x g z st)) (cs_v g z 0 5 (cs_s1 g z st))
  have e0 : (cs_b0 W g z n k st).1 (35 + 2 * n) = bl_first (W (35 + 2 * n)) k (cs_v g z 0 9 (cs_x g z st)) (cs_v g z 0 5 (cs_s1 g z st)) := by
    show cs_W0 W g z n k st (35 + 2 * n) = _
    unfold cs_W0
    rw [pm_u_off (by omega), pm_s_at]
  rw [← e0] at f0 f1 f2 f3 f4 f5 f6 f7 f8
  have u1 : ∀ r, r ≠ 5 → (cs_b1 W g z n k st).1 (35 + 2 * n) r = (cs_b0 W g z n k st).1 (35 + 2 * n) r := fun r hr => by rw [cs_b1_1]; exact cs_pI_un hr
  have u2 : ∀ r, r ≠ 6 → (cs_b2 W g z n k st).1 (35 + 2 * n) r = (cs_b1 W g z n k st).1 (35 + 2 * n) r := fun r hr => by rw [cs_b2_1]; exact cs_pI_un hr
  have u3 : ∀ r, r ≠ 4 → (cs_b3 W g z n k st).1 (35 + 2 * n) r = (cs_b2 W g z n k st).1 (35 + 2 * n) r := fun r hr => by rw [cs_b3_1]; exact cs_pI_un hr
  have u4 : ∀ r, r ≠ 7 → (cs_b4 W g z n k st).1 (35 + 2 * n) r = (cs_b3 W g z n k st).1 (35 + 2 * n) r := fun r hr => by rw [cs_b4_1]; exact cs_pI_un hr
  have u5 : ∀ r, r ≠ 8 → (cs_b5 W g z n k st).1 (35 + 2 * n) r = (cs_b4 W g z n k st).1 (35 + 2 * n) r := fun r hr => by rw [cs_b5_1]; exact cs_pI_un hr
  have p5 : (cs_b1 W g z n k st).1 (35 + 2 * n) 5 = mt_pv g z (pm_tx 7).2.2 100 (mb3 g z n mt) ∧ 0 ≤ mt_pv g z (pm_tx 7).2.2 100 (mb3 g z n mt) ∧ mt_pv g z (pm_tx 7).2.2 100 (mb3 g z n mt) ≤ 999 := by
    rw [cs_b1_1]
    exact RC_pv (lo := 0) (hi := 999) r3 (d := 100) (by decide) (by have q := o4; unfold mb4 at q; exact q) f5
  have p6 : (cs_b2 W g z n k st).1 (35 + 2 * n) 6 = mt_pv g z (pm_tx 8).2.2 50 (mb4 g z n mt) ∧ 0 ≤ mt_pv g z (pm_tx 8).2.2 50 (mb4 g z n mt) ∧ mt_pv g z (pm_tx 8).2.2 50 (mb4 g z n mt) ≤ 999 := by
    rw [cs_b2_1]
    exact RC_pv (lo := 0) (hi := 999) r4 (d := 50) (by decide) (by have q := o5; unfold mb5 at q; exact q) ((u1 6 (by decide)).trans f6)
  have p4 : (cs_b3 W g z n k st).1 (35 + 2 * n) 4 = mt_pv g z (pm_tx 9).2.2 50 (mb5 g z n mt) ∧ 1 ≤ mt_pv g z (pm_tx 9).2.2 50 (mb5 g z n mt) ∧ mt_pv g z (pm_tx 9).2.2 50 (mb5 g z n mt) ≤ 99 := by
    rw [cs_b3_1]
    exact RC_pv (lo := 1) (hi := 99) r5 (d := 50) (by decide) (by have q := o6; unfold mb6 at q; exact q) ((u2 4 (by decide)).trans ((u1 4 (by decide)).trans f4))
  have p7 : (cs_b4 W g z n k st).1 (35 + 2 * n) 7 = mt_pv g z (pm_tx 10).2.2 20 (mb6 g z n mt) ∧ 0 ≤ mt_pv g z (pm_tx 10).2.2 20 (mb6 g z n mt) ∧ mt_pv g z (pm_tx 10).2.2 20 (mb6 g z n mt) ≤ 99 := by
    rw [cs_b4_1]
    exact RC_pv (lo := 0) (hi := 99) r6 (d := 20) (by decide) (by have q := o7; unfold mb7 at q; exact q) ((u3 7 (by decide)).trans ((u2 7 (by decide)).trans ((u1 7 (by decide)).trans f7)))
  have p8 : (cs_b5 W g z n k st).1 (35 + 2 * n) 8 = mt_pv g z (pm_tx 11).2.2 1 (mb7 g z n mt) ∧ 0 ≤ mt_pv g z (pm_tx 11).2.2 1 (mb7 g z n mt) ∧ mt_pv g z (pm_tx 11).2.2 1 (mb7 g z n mt) ≤ 9 := by
    rw [cs_b5_1]
    exact RC_pv (lo := 0) (hi := 9) r7 (d := 1) (by decide) (by have q := o8; unfold mb8 at q; exact q) ((u4 8 (by decide)).trans ((u3 8 (by decide)).trans ((u2 8 (by decide)).trans ((u1 8 (by decide)).trans f8))))
  have q0 := (u5 0 (by decide)).trans ((u4 0 (by decide)).trans ((u3 0 (by decide)).trans ((u2 0 (by decide)).trans ((u1 0 (by decide)).trans f0))))
  have q1 := (u5 1 (by decide)).trans ((u4 1 (by decide)).trans ((u3 1 (by decide)).trans ((u2 1 (by decide)).trans ((u1 1 (by decide)).trans f1))))
  have q2 := (u5 2 (by decide)).trans ((u4 2 (by decide)).trans ((u3 2 (by decide)).trans ((u2 2 (by decide)).trans ((u1 2 (by decide)).trans f2))))
  have q3 := (u5 3 (by decide)).trans ((u4 3 (by decide)).trans ((u3 3 (by decide)).trans ((u2 3 (by decide)).trans ((u1 3 (by decide)).trans f3))))
  have q5 : (cs_b5 W g z n k st).1 (35 + 2 * n) 5 = mt_pv g z (pm_tx 7).2.2 100 (mb3 g z n mt) := (u5 5 (by decide)).trans ((u4 5 (by decide)).trans ((u3 5 (by decide)).trans ((u2 5 (by decide)).trans p5.1)))
  have q6 : (cs_b5 W g z n k st).1 (35 + 2 * n) 6 = mt_pv g z (pm_tx 8).2.2 50 (mb4 g z n mt) := (u5 6 (by decide)).trans ((u4 6 (by decide)).trans ((u3 6 (by decide)).trans p6.1))
  have q4 : (cs_b5 W g z n k st).1 (35 + 2 * n) 4 = mt_pv g z (pm_tx 9).2.2 50 (mb5 g z n mt) := (u5 4 (by decide)).trans ((u4 4 (by decide)).trans p4.1)
  have q7 : (cs_b5 W g z n k st).1 (35 + 2 * n) 7 = mt_pv g z (pm_tx 10).2.2 20 (mb6 g z n mt) := (u5 7 (by decide)).trans p7.1
  have q8 : (cs_b5 W g z n k st).1 (35 + 2 * n) 8 = mt_pv g z (pm_tx 11).2.2 1 (mb7 g z n mt) := p8.1
  intro R
  refine ⟨q0, ⟨q1.trans va.1, ?_, ?_⟩, ⟨q2.trans vc.1, ?_, ?_⟩, q3, ⟨q4, ?_, ?_⟩, ⟨q5, ?_, ?_⟩, ⟨q6, ?_, ?_⟩, ⟨q7, ?_, ?_⟩, ⟨q8, ?_, ?_⟩⟩
  · show 0 ≤ R 1
    rw [show R 1 = _ from q1.trans va.1]; exact va.2.1
  · show R 1 ≤ 9
    rw [show R 1 = _ from q1.trans va.1]; exact va.2.2
  · show 0 ≤ R 2
    rw [show R 2 = _ from q2.trans vc.1]; exact vc.2.1
  · show R 2 ≤ 5
    rw [show R 2 = _ from q2.trans vc.1]; exact vc.2.2
  · show 1 ≤ R 4
    rw [show R 4 = _ from q4]; exact p4.2.1
  · show R 4 ≤ 99
    rw [show R 4 = _ from q4]; exact p4.2.2
  · show 0 ≤ R 5
    rw [show R 5 = _ from q5]; exact p5.2.1
  · show R 5 ≤ 999
    rw [show R 5 = _ from q5]; exact p5.2.2
  · show 0 ≤ R 6
    rw [show R 6 = _ from q6]; exact p6.2.1
  · show R 6 ≤ 999
    rw [show R 6 = _ from q6]; exact p6.2.2
  · show 0 ≤ R 7
    rw [show R 7 = _ from q7]; exact p7.2.1
  · show R 7 ≤ 99
    rw [show R 7 = _ from q7]; exact p7.2.2
  · show 0 ≤ R 8
    rw [show R 8 = _ from q8]; exact p8.2.1
  · show R 8 ≤ 9
    rw [show R 8 = _ from q8]; exact p8.2.2
