/-! The two readings go together: clause by clause -/
def RR (z : Nat) (rc : cs_R) (rm : mt_R) : Prop := (rm.2.2 = true ∧ rc.2 = (rm.2.1, -3) ∧ RT rc.1 rm.1) ∨ (rm.2.2 = false ∧ rc.2.2 = nI rm.2.1 ∧ rm.2.1 ≤ z)
theorem RR_of {z : Nat} {Wc Wm : pm_I} {st : cs_T} {mt : mt_T} (h : RC z st mt) (hT : mt.2 = true → RT Wc Wm) : RR z (Wc, st) (Wm, mt) := by
  rcases h with h | h
  · exact Or.inl ⟨h.1, h.2, hT h.1⟩
  · exact Or.inr h
theorem mt_nm_f {g : Nat → Int32} {z b : Nat} {t : List Int32} : mt_nm g z t (b, false) = (b, false) := if_neg (fun q => absurd q.1 Bool.false_ne_true)
theorem mb9_6 {g : Nat → Int32} {z n : Nat} {mt : mt_T} (h : ¬ n < 6) : mb9 g z n mt = (mt.1, false) := by
  have h0 : mb0 g z n mt = (mt.1, false) := if_neg h
  have h1 : mb1 g z n mt = (mt.1, false) := by rw [mb1, h0, mt_num_f]
  have h2 : mb2 g z n mt = (mt.1, false) := by rw [mb2, h1, mt_nm_f]
  have h3 : mb3 g z n mt = (mt.1, false) := by rw [mb3, h2, mt_num_f]
  have h4 : mb4 g z n mt = (mt.1, false) := by rw [mb4, h3, mt_pt_f]
  have h5 : mb5 g z n mt = (mt.1, false) := by rw [mb5, h4, mt_pt_f]
  have h6 : mb6 g z n mt = (mt.1, false) := by rw [mb6, h5, mt_pt_f]
  have h7 : mb7 g z n mt = (mt.1, false) := by rw [mb7, h6, mt_pt_f]
  have h8 : mb8 g z n mt = (mt.1, false) := by rw [mb8, h7, mt_pt_f]
  rw [mb9, h8, mt_sg_f]
/-- the model's fresh row of a balloon just read -/
theorem mb_W_row {W : pm_I} {g : Nat → Int32} {z n : Nat} {k : Int32} {mt : mt_T} (ho : (mb9 g z n mt).2 = true) :
    (mb_W W g z n k mt 108 n = k ∧ mb_W W g z n k mt 109 n = tk_val g z (mb0 g z n mt).1 ∧ mb_W W g z n k mt 110 (7 * n + 1) = tk_val g z (mb2 g z n mt).1 ∧ mb_W W g z n k mt 110 (7 * n + 2) = 0 ∧ mb_W W g z n k mt 110 (7 * n + 3) = mt_pv g z (pm_tx 9).2.2 50 (mb5 g z n mt) ∧ mb_W W g z n k mt 110 (7 * n + 4) = mt_pv g z (pm_tx 7).2.2 100 (mb3 g z n mt) ∧ mb_W W g z n k mt 110 (7 * n + 5) = mt_pv g z (pm_tx 8).2.2 50 (mb4 g z n mt) ∧ mb_W W g z n k mt 110 (7 * n + 6) = mt_pv g z (pm_tx 10).2.2 20 (mb6 g z n mt) ∧ mb_W W g z n k mt 110 (7 * n + 7) = mt_pv g z (pm_tx 11).2.2 1 (mb7 g z n mt)) ∧ (∀ b, b < n → mb_W W g z n k mt 108 b = W 108 b ∧ mb_W W g z n k mt 109 b = W 109 b) ∧ ∀ j, j < 7 * n + 1 → mb_W W g z n k mt 110 j = W 110 j := by
  unfold mb_W
  rw [if_pos ho]
  generalize tk_val g z (mb0 g z n mt).1 = a1
  generalize tk_val g z (mb2 g z n mt).1 = a2
  generalize mt_pv g z (pm_tx 9).2.2 50 (mb5 g z n mt) = a3
  generalize mt_pv g z (pm_tx 7).2.2 100 (mb3 g z n mt) = a4
  generalize mt_pv g z (pm_tx 8).2.2 50 (mb4 g z n mt) = a5
  generalize mt_pv g z (pm_tx 10).2.2 20 (mb6 g z n mt) = a6
  generalize mt_pv g z (pm_tx 11).2.2 1 (mb7 g z n mt) = a7
  have e110 : pm_u (pm_u (pm_u (pm_u (pm_u (pm_u (pm_u (pm_u (pm_u (pm_u W 108 n k) 109 n a1) 110 (7 * n + 1) a2) 110 (7 * n + 2) 0) 110 (7 * n + 3) a3) 110 (7 * n + 4) a4) 110 (7 * n + 5) a5) 110 (7 * n + 6) a6) 110 (7 * n + 7) a7) 102 17 (nI (n + 1)) 110 = upd (upd (upd (upd (upd (upd (upd (W 110) (7 * n + 1) a2) (7 * n + 2) 0) (7 * n + 3) a3) (7 * n + 4) a4) (7 * n + 5) a5) (7 * n + 6) a6) (7 * n + 7) a7 := by
    rw [pm_u_off (by decide), pm_u_at, pm_u_at, pm_u_at, pm_u_at, pm_u_at, pm_u_at, pm_u_at, pm_u_off (by decide), pm_u_off (by decide)]
  have e108 : pm_u (pm_u (pm_u (pm_u (pm_u (pm_u (pm_u (pm_u (pm_u (pm_u W 108 n k) 109 n a1) 110 (7 * n + 1) a2) 110 (7 * n + 2) 0) 110 (7 * n + 3) a3) 110 (7 * n + 4) a4) 110 (7 * n + 5) a5) 110 (7 * n + 6) a6) 110 (7 * n + 7) a7) 102 17 (nI (n + 1)) 108 = upd (W 108) n k := by
    rw [pm_u_off (by decide), pm_u_off (by decide), pm_u_off (by decide), pm_u_off (by decide), pm_u_off (by decide), pm_u_off (by decide), pm_u_off (by decide), pm_u_off (by decide), pm_u_off (by decide), pm_u_at]
  have e109 : pm_u (pm_u (pm_u (pm_u (pm_u (pm_u (pm_u (pm_u (pm_u (pm_u W 108 n k) 109 n a1) 110 (7 * n + 1) a2) 110 (7 * n + 2) 0) 110 (7 * n + 3) a3) 110 (7 * n + 4) a4) 110 (7 * n + 5) a5) 110 (7 * n + 6) a6) 110 (7 * n + 7) a7) 102 17 (nI (n + 1)) 109 = upd (W 109) n a1 := by
    rw [pm_u_off (by decide), pm_u_off (by decide), pm_u_off (by decide), pm_u_off (by decide), pm_u_off (by decide), pm_u_off (by decide), pm_u_off (by decide), pm_u_off (by decide), pm_u_at, pm_u_off (by decide)]
  rw [e110, e108, e109]
  refine ⟨⟨pk_us .., pk_us .., ?_, ?_, ?_, ?_, ?_, ?_, pk_us ..⟩, fun b hb => ⟨pk_un (by omega), pk_un (by omega)⟩, fun j hj => ?_⟩
  · rw [pk_un (by omega), pk_un (by omega), pk_un (by omega), pk_un (by omega), pk_un (by omega), pk_un (by omega), pk_us]
  · rw [pk_un (by omega), pk_un (by omega), pk_un (by omega), pk_un (by omega), pk_un (by omega), pk_us]
  · rw [pk_un (by omega), pk_un (by omega), pk_un (by omega), pk_un (by omega), pk_us]
  · rw [pk_un (by omega), pk_un (by omega), pk_un (by omega), pk_us]
  · rw [pk_un (by omega), pk_un (by omega), pk_us]
  · rw [pk_un (by omega), pk_us]
  · rw [pk_un (by omega), pk_un (by omega), pk_un (by omega), pk_un (by omega), pk_un (by omega), pk_un (by omega), pk_un (by omega)]
theorem tv_9 : (pm_tv 1).getD 0 0 = 0 ∧ (pm_tv 1).getD 1 0 = 0 ∧ (pm_tv 1).getD 2 0 = 0 ∧ (pm_tv 1).getD 3 0 = 0 ∧ (pm_tv 1).getD 4 0 = 1 ∧ (pm_tv 1).getD 5 0 = 0 ∧ (pm_tv 1).getD 6 0 = 0 ∧ (pm_tv 1).getD 7 0 = 0 ∧ (pm_tv 1).getD 8 0 = 0 ∧ (pm_tv 2).getD 0 0 = 5 ∧ (pm_tv 2).getD 1 0 = 9 ∧ (pm_tv 2).getD 2 0 = 5 ∧ (pm_tv 2).getD 3 0 = 99 ∧ (pm_tv 2).getD 4 0 = 99 ∧ (pm_tv 2).getD 5 0 = 999 ∧ (pm_tv 2).getD 6 0 = 999 ∧ (pm_tv 2).getD 7 0 = 99 ∧ (pm_tv 2).getD 8 0 = 9 := ⟨rfl, rfl, rfl, rfl, rfl, rfl, rfl, rfl, rfl, rfl, rfl, rfl, rfl, rfl, rfl, rfl, rfl, rfl⟩
theorem bo_of {f : Nat → Int32} (h0 : 0 ≤ f 0 ∧ f 0 ≤ 5) (h1 : 0 ≤ f 1 ∧ f 1 ≤ 9) (h2 : 0 ≤ f 2 ∧ f 2 ≤ 5) (h3 : 0 ≤ f 3 ∧ f 3 ≤ 99) (h4 : 1 ≤ f 4 ∧ f 4 ≤ 99) (h5 : 0 ≤ f 5 ∧ f 5 ≤ 999) (h6 : 0 ≤ f 6 ∧ f 6 ≤ 999) (h7 : 0 ≤ f 7 ∧ f 7 ≤ 99) (h8 : 0 ≤ f 8 ∧ f 8 ≤ 9) : bo_ok f := by
  obtain ⟨a0, a1, a2, a3, a4, a5, a6, a7, a8, b0, b1, b2, b3, b4, b5, b6, b7, b8⟩ := tv_9
  intro p hp
  rcases (show p = 0 ∨ p = 1 ∨ p = 2 ∨ p = 3 ∨ p = 4 ∨ p = 5 ∨ p = 6 ∨ p = 7 ∨ p = 8 by omega) with rfl | rfl | rfl | rfl | rfl | rfl | rfl | rfl | rfl
  · rw [a0, b0]; exact h0
  · rw [a1, b1]; exact h1
  · rw [a2, b2]; exact h2
  · rw [a3, b3]; exact h3
  · rw [a4, b4]; exact h4
  · rw [a5, b5]; exact h5
  · rw [a6, b6]; exact h6
  · rw [a7, b7]; exact h7
  · rw [a8, b8]; exact h8
theorem bo_in {f : Nat → Int32} (h : bo_ok f) : (0 ≤ f 0 ∧ f 0 ≤ 5) ∧ (0 ≤ f 1 ∧ f 1 ≤ 9) ∧ (0 ≤ f 2 ∧ f 2 ≤ 5) ∧ (0 ≤ f 3 ∧ f 3 ≤ 99) ∧ (1 ≤ f 4 ∧ f 4 ≤ 99) ∧ (0 ≤ f 5 ∧ f 5 ≤ 999) ∧ (0 ≤ f 6 ∧ f 6 ≤ 999) ∧ (0 ≤ f 7 ∧ f 7 ≤ 99) ∧ (0 ≤ f 8 ∧ f 8 ≤ 9) := by
  obtain ⟨a0, a1, a2, a3, a4, a5, a6, a7, a8, b0, b1, b2, b3, b4, b5, b6, b7, b8⟩ := tv_9
  refine ⟨?_, ?_, ?_, ?_, ?_, ?_, ?_, ?_, ?_⟩
  · have := h 0 (by decide); rw [a0, b0] at this; exact this
  · have := h 1 (by decide); rw [a1, b1] at this; exact this
  · have := h 2 (by decide); rw [a2, b2] at this; exact this
  · have := h 3 (by decide); rw [a3, b3] at this; exact this
  · have := h 4 (by decide); rw [a4, b4] at this; exact this
  · have := h 5 (by decide); rw [a5, b5] at this; exact this
  · have := h 6 (by decide); rw [a6, b6] at this; exact this
  · have := h 7 (by decide); rw [a7, b7] at this; exact this
  · have := h 8 (by decide); rw [a8, b8] at this; exact this
/-- the towns, one balloon more -/
theorem RT_bal {Wc Wm : pm_I} {g : Nat → Int32} {z n : Nat} {k : Int32} {st : cs_T} {mt : mt_T} (hz : z ≤ 240) (hb : mt.1 ≤ z) (hs : st = (mt.1, -3)) (h6 : n < 6) (ho : (mb9 g z n mt).2 = true) (hk : 0 ≤ k ∧ k ≤ 5) (hn : Wc 31 2 = nI n) (hT : RT Wc Wm) : RT (cs_b5 Wc g z n k st).1 (mb_W Wm g z n k mt) := by
  obtain ⟨⟨n2, g6, g1, g2, g3⟩, t3, t4, t5⟩ := hT
  have en : n2 = n := (nI_eq (by omega) (by omega)).mp (g1.symm.trans hn)
  subst en
  have hrow := RB_row (W := Wc) (k := k) hz hb hs h6 ho
  obtain ⟨m1, m2, m3⟩ := mb_W_row (W := Wm) (k := k) ho
  obtain ⟨x1, x2, x3, x4, x5, x6, x7, x8, x9⟩ := m1
  obtain ⟨y0, ⟨y1, y1a⟩, ⟨y2, y2a⟩, y3, ⟨y4, y4a⟩, ⟨y5, y5a⟩, ⟨y6, y6a⟩, ⟨y7, y7a⟩, ⟨y8, y8a⟩⟩ := hrow
  have hoff : ∀ a, a ≠ 31 → a ≠ 35 + 2 * n2 → (cs_b5 Wc g z n2 k st).1 a = Wc a := fun a h1 h2 => by rw [cs_b5_off h2, cs_b0_off h2 h1]
  have h31 : ∀ p, p ≠ 2 → (cs_b5 Wc g z n2 k st).1 31 p = Wc 31 p := fun p hp => by
    rw [cs_b5_off (show 31 ≠ 35 + 2 * n2 by omega)]
    show cs_W0 Wc g z n2 k st 31 p = _
    unfold cs_W0
    rw [pm_u_at, pk_un hp, pm_s_off _ _ _ _ (by omega)]
  refine ⟨⟨n2 + 1, by omega, cs_b5_n (by omega), by rw [mb_W_17, if_pos ho], fun b hb2 => ?_⟩, (h31 3 (by decide)).trans t3, ?_, fun h hh => ?_⟩
  · by_cases e : b = n2
    · subst e
      refine ⟨bo_of (by rw [y0]; exact hk) y1a y2a (by rw [y3]; decide) y4a y5a y6a y7a y8a, y0.trans x1.symm, y1.trans x2.symm, fun p hp1 hp2 => ?_⟩
      rcases (show p = 2 ∨ p = 3 ∨ p = 4 ∨ p = 5 ∨ p = 6 ∨ p = 7 ∨ p = 8 by omega) with rfl | rfl | rfl | rfl | rfl | rfl | rfl
      · exact y2.trans x3.symm
      · exact y3.trans x4.symm
      · exact y4.trans x5.symm
      · exact y5.trans x6.symm
      · exact y6.trans x7.symm
      · exact y7.trans x8.symm
      · exact y8.trans x9.symm
    · obtain ⟨q1, q2, q3, q4⟩ := g3 b (by omega)
      rw [hoff (35 + 2 * b) (by omega) (by omega)]
      have m2b := m2 b (by omega)
      refine ⟨q1, q2.trans m2b.1.symm, q3.trans m2b.2.symm, fun p hp1 hp2 => ?_⟩
      rw [m3 _ (by omega)]
      exact q4 p hp1 hp2
  · rw [h31 4 (by decide), mb_W_102 (by decide)]
    exact t4
  · rw [hoff 32 (by decide) (by omega), mb_W_off (by decide) (by decide) (by decide) (by decide)]
    exact t5 h hh
theorem RR_cl {g : Nat → Int32} {z : Nat} {rc : cs_R} {rm : mt_R} (hz : z ≤ 240) (hb : rm.2.1 ≤ z) (ho : rm.2.2 = true) (h : RR z rc rm) : RR z (cs_cl g z rc) (mc_c1 rm.1 g z rm.2) := by
  obtain ⟨Wc, st⟩ := rc
  obtain ⟨Wm, mt⟩ := rm
  dsimp only at hb ho
  obtain ⟨hs, hT⟩ : st = (mt.1, -3) ∧ RT Wc Wm := by
    rcases h with h | h
    · exact h.2
    · exact absurd (h.1.symm.trans ho) Bool.false_ne_true
  have hR : RC z st mt := Or.inl ⟨ho, hs⟩
  have hm : mt = (mt.1, true) := by rw [← ho]
  have hT2 := hT
  obtain ⟨⟨n, g6, g1, g2, g3⟩, t3, t4, t5⟩ := hT2
  have ec : (Wc 31 2).toNatClampNeg = n := by rw [g1, nI_clamp (by omega)]
  have em : (Wm 102 17).toNatClampNeg = n := by rw [g2, nI_clamp (by omega)]
  have hb1 : st.1 = mt.1 := by rw [hs]
  have hf : RC z (cs_f st) (mt.1, false) := by
    rw [hs]
    exact Or.inr ⟨rfl, (show tk_f (-3) mt.1 = nI mt.1 from if_pos rfl), hb⟩
  have hfs : RC z (cs_sg g z (cs_f st)) (mt.1, false) := by
    have q := RC_sg (g := g) hz (mt := (mt.1, false)) hb hf
    rw [mt_sg_f] at q
    exact q
  unfold cs_cl cs_c1 mc_c1
  dsimp only
  rw [hb1]
  by_cases hk : cs_kd g z mt.1 = -3
  · rw [if_neg (show ¬ ¬ cs_kd g z mt.1 = -3 from fun q => q hk), if_neg (show ¬ ¬ mt_kd g z mt.1 < 0 from fun q => q (mt_kd_neg.mpr hk))]
    have rx : RC z (cs_x g z st) (mw0 g z mt) := by
      rw [hs]
      exact Or.inl ⟨rfl, rfl⟩
    have r1 : RC z (cs_num g z 0 23 (cs_x g z st)) (mw1 g z mt) := RC_num hz (mw0_le hb) rx 0 23
    have hwm : ∀ mo sg co, (∀ v : Int32, sg * v = if co = true then 0 - v else v) → RR z ((cs_wm Wc g z mo sg st).1, cs_sg g z (cs_wm Wc g z mo sg st).2) (mw_W Wm g z mo co mt, mw3 g z mo mt) := by
      intro mo sg co hsg
      have r2 : RC z (cs_num g z 0 mo (cs_num g z 0 23 (cs_x g z st))) (mw2 g z mo mt) := RC_num hz (mw1_le hb) r1 0 mo
      refine RR_of (RC_sg hz (mw2_le hb) r2) (fun h3 => ?_)
      have h3' : (mw3 g z mo mt).2 = true := h3
      have o2 : (mt_num g z 0 mo (mw1 g z mt)).2 = true := (mt_sg_ok h3).1
      have o1 : (mt_num g z 0 23 (mw0 g z mt)).2 = true := (mt_num_ok o2).1
      have v1 := RC_v rx o1
      have v2 := RC_v r1 o2
      unfold cs_wm mw_W
      dsimp only
      rw [if_pos h3', v1.1, v2.1, hsg]
      refine ⟨⟨n, g6, ?_, ?_, fun b hb2 => ?_⟩, ?_, ?_, fun h hh => ?_⟩
      · rw [pm_u_off (by decide)]; exact g1
      · rw [pm_u_off (by decide)]; exact g2
      · rw [pm_u_off (show 35 + 2 * b ≠ 32 by omega), pm_u_off (show 108 ≠ 111 by decide), pm_u_off (show 109 ≠ 111 by decide), pm_u_off (show 110 ≠ 111 by decide)]
        exact g3 b hb2
      · rw [pm_u_off (by decide)]; exact t3
      · rw [pm_u_off (by decide), pm_u_off (by decide)]; exact t4
      · rw [pm_u_at, pm_u_at]
        by_cases e : h = (tk_val g z (mw0 g z mt).1).toNatClampNeg
        · rw [← e, pk_us, pk_us]
        · rw [pk_un e, pk_un e]
          exact t5 h hh
    by_cases h12 : tk_nm g z mt.1 (pm_tx 12).2.2
    · rw [if_pos h12, if_pos h12]
      exact hwm 40 1 false (fun v => Int32.one_mul v)
    · rw [if_neg h12, if_neg h12]
      by_cases h13 : tk_nm g z mt.1 (pm_tx 13).2.2
      · rw [if_pos h13, if_pos h13]
        exact hwm 20 (-1) true (fun v => by rw [if_pos rfl]; grind)
      · rw [if_neg h13, if_neg h13]
        by_cases h14 : tk_nm g z mt.1 (pm_tx 14).2.2
        · rw [if_pos h14, if_pos h14]
          have r2 : RC z (cs_num g z 1 20 (cs_x g z st)) (mt_num g z 1 20 (mw0 g z mt)) := RC_num hz (mw0_le hb) rx 1 20
          refine RR_of (RC_sg hz (mt_num_le (mw0_le hb)) r2) (fun h3 => ?_)
          have v1 := RC_v rx (mt_sg_ok h3).1
          unfold cs_gp
          dsimp only
          rw [v1.1]
          refine ⟨⟨n, g6, ?_, ?_, fun b hb2 => ?_⟩, ?_, ?_, fun h hh => ?_⟩
          · rw [pm_u_at, pk_un (by decide)]; exact g1
          · rw [pm_u_at, pk_un (by decide)]; exact g2
          · rw [pm_u_off (show 35 + 2 * b ≠ 31 by omega), pm_u_off (show 108 ≠ 102 by decide), pm_u_off (show 109 ≠ 102 by decide), pm_u_off (show 110 ≠ 102 by decide)]
            exact g3 b hb2
          · rw [pm_u_at, pk_un (by decide)]; exact t3
          · rw [pm_u_at, pk_us, pm_u_at, pk_us]
          · rw [pm_u_off (by decide), pm_u_off (by decide)]; exact t5 h hh
        · rw [if_neg h14, if_neg h14]
          exact RR_of hfs (fun q => absurd q Bool.false_ne_true)
  · have hk2 : ¬ mt_kd g z mt.1 < 0 := fun q => hk (mt_kd_neg.mp q)
    rw [if_pos hk, if_pos hk2, mt_kd_pos hk2, ec, em]
    unfold cs_bal
    by_cases h6 : n = 6
    · rw [if_pos h6, mb9_6 (by omega)]
      exact RR_of hfs (fun q => absurd q Bool.false_ne_true)
    · rw [if_neg h6]
      have r8 := (RB_all (W := Wc) (g := g) (k := cs_kd g z mt.1) hz hb hs (show n < 6 by omega)).2.2.2.2.2.1
      have r9 : RC z (cs_sg g z (cs_b5 Wc g z n (cs_kd g z mt.1) st).2) (mb9 g z n mt) := RC_sg hz (mb8_le hb) r8
      exact RR_of r9 (fun q => RT_bal hz hb hs (by omega) q (cs_kd_in hk) g1 hT)
theorem RR_lp {g : Nat → Int32} {z : Nat} (hz : z ≤ 240) : ∀ (m : Nat) (rc : cs_R) (rm : mt_R), rm.2.1 ≤ z → RR z rc rm → RR z (cs_lp g z m rc) (mc_lp g z m rm)
  | 0, _, _, _, h => h
  | m + 1, rc, rm, hb, h => by
    unfold cs_lp mc_lp
    by_cases ho : rm.2.2 = true
    · have hs : rc.2 = (rm.2.1, -3) := by
        rcases h with h | h
        · exact h.2.1
        · exact absurd (h.1.symm.trans ho) Bool.false_ne_true
      have e1 : rc.2.1 = rm.2.1 := by rw [hs]
      have e2 : rc.2.2 = -3 := by rw [hs]
      by_cases q : tk_s g z rm.2.1 = 0
      · rw [if_neg (fun x => x.1 (by rw [e1]; exact q)), if_neg (fun x => x.2 q)]
        exact h
      · rw [if_pos ⟨by rw [e1]; exact q, e2⟩, if_pos ⟨ho, q⟩]
        have h2 := RR_cl (g := g) hz hb ho h
        refine RR_lp hz m _ _ ?_ h2
        rcases h2 with h2 | h2
        · have h3 := cs_sg_le (f := g) (z := z) (st := (cs_c1 rc.1 g z rc.2).2)
          have h4 : (cs_cl g z rc).2.1 = (mc_c1 rm.1 g z rm.2).2.1 := by rw [h2.2.1]
          rw [← h4]
          refine h3 ?_
          have hx : rc.2.1 ≤ z := by rw [e1]; exact hb
          unfold cs_c1
          split
          · exact cs_bal_le hx
          · split
            · exact cs_num_le (cs_num_le (cs_x_le hx))
            · split
              · exact cs_num_le (cs_num_le (cs_x_le hx))
              · split
                · exact cs_num_le (cs_x_le hx)
                · exact hx
        · exact h2.2.2
    · have h3 : rm.2.2 = false ∧ rc.2.2 = nI rm.2.1 ∧ rm.2.1 ≤ z := by
        rcases h with h | h
        · exact absurd h.1 ho
        · exact h
      rw [if_neg (fun x => by have := x.2; rw [h3.2.1] at this; exact nI_ne3 (by omega) this), if_neg (fun x => ho x.1)]
      exact h
