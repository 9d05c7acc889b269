/-! The class's reading: a clause, the whole text, town -/
theorem tps_off {I : pm_I} {z : Nat} {st : cs_T} {q : Nat} (h : q ≠ 46) : tps I z st q = I q := tp_off h
theorem tps_5 {I : pm_I} {z : Nat} {st : cs_T} : tps I z st 46 5 = st.2 := rfl
theorem tps_2 {I : pm_I} {z : Nat} {st : cs_T} : tps I z st 46 2 = nI (tk_s (I 47) z st.1) := rfl
theorem tps_u {I : pm_I} {z q p : Nat} {st : cs_T} {v : Int32} (h1 : q ≠ 46) (h2 : q ≠ 47) : pm_u (tps I z st) q p v = tps (pm_u I q p v) z st := tp_u h1 h2
theorem tps_s {I : pm_I} {z q : Nat} {st : cs_T} {g : Nat → Int32} (h1 : q ≠ 46) (h2 : q ≠ 47) : pm_s (tps I z st) q g = tps (pm_s I q g) z st := tp_s h1 h2
def cs_s1 (f : Nat → Int32) (z : Nat) (st : cs_T) : cs_T := cs_nm f z (pm_tx 6).2.2 (cs_num f z 0 9 (cs_x f z st))
def cs_s2 (f : Nat → Int32) (z : Nat) (st : cs_T) : cs_T := cs_num f z 0 5 (cs_s1 f z st)
/-- the told town with one balloon more, as at first -/
def cs_W0 (W : pm_I) (f : Nat → Int32) (z n : Nat) (k : Int32) (st : cs_T) : pm_I := pm_u (pm_s W (35 + 2 * n) (bl_first (W (35 + 2 * n)) k (cs_v f z 0 9 (cs_x f z st)) (cs_v f z 0 5 (cs_s1 f z st)))) 31 2 (nI (n + 1))
abbrev cs_R : Type := pm_I × cs_T
/-- one part read, if it is told -/
def cs_bp (f : Nat → Int32) (z q p i : Nat) (r : cs_R) : cs_R := (cs_pI r.1 f z q p (pm_tx i).2.2 ((pm_tv 1).getD p 0) ((pm_tv 2).getD p 0) r.2, cs_pt f z (pm_tx i).2.2 ((pm_tv 1).getD p 0) ((pm_tv 2).getD p 0) r.2)
def cs_b0 (W : pm_I) (f : Nat → Int32) (z n : Nat) (k : Int32) (st : cs_T) : cs_R := (cs_W0 W f z n k st, cs_s2 f z st)
def cs_b1 (W : pm_I) (f : Nat → Int32) (z n : Nat) (k : Int32) (st : cs_T) : cs_R := cs_bp f z (35 + 2 * n) 5 7 (cs_b0 W f z n k st)
def cs_b2 (W : pm_I) (f : Nat → Int32) (z n : Nat) (k : Int32) (st : cs_T) : cs_R := cs_bp f z (35 + 2 * n) 6 8 (cs_b1 W f z n k st)
def cs_b3 (W : pm_I) (f : Nat → Int32) (z n : Nat) (k : Int32) (st : cs_T) : cs_R := cs_bp f z (35 + 2 * n) 4 9 (cs_b2 W f z n k st)
def cs_b4 (W : pm_I) (f : Nat → Int32) (z n : Nat) (k : Int32) (st : cs_T) : cs_R := cs_bp f z (35 + 2 * n) 7 10 (cs_b3 W f z n k st)
def cs_b5 (W : pm_I) (f : Nat → Int32) (z n : Nat) (k : Int32) (st : cs_T) : cs_R := cs_bp f z (35 + 2 * n) 8 11 (cs_b4 W f z n k st)
def cs_bal (W : pm_I) (f : Nat → Int32) (z n : Nat) (k : Int32) (st : cs_T) : cs_R := if n = 6 then (W, cs_f st) else cs_b5 W f z n k st
theorem cs_pI_off {W : pm_I} {f : Nat → Int32} {z q p a : Nat} {t : List Int32} {lo hi : Int32} {st : cs_T} (h : a ≠ q) : cs_pI W f z q p t lo hi st a = W a := by
  unfold cs_pI
  split
  · exact pm_u_off h
  · rfl
theorem cs_bp_off {f : Nat → Int32} {z q p i a : Nat} {r : cs_R} (h : a ≠ q) : (cs_bp f z q p i r).1 a = r.1 a := by
  unfold cs_bp
  exact cs_pI_off h
theorem cs_bp_le {f : Nat → Int32} {z q p i : Nat} {r : cs_R} (h : r.2.1 ≤ z) : (cs_bp f z q p i r).2.1 ≤ z := by
  unfold cs_bp
  exact cs_pt_le h
theorem cs_b0_off {W : pm_I} {f : Nat → Int32} {z n a : Nat} {k : Int32} {st : cs_T} (h : a ≠ 35 + 2 * n) (h2 : a ≠ 31) : (cs_b0 W f z n k st).1 a = W a := by
  show cs_W0 W f z n k st a = _
  unfold cs_W0
  rw [pm_u_off h2, pm_s_off _ _ _ _ h]
theorem cs_b0_le {W : pm_I} {f : Nat → Int32} {z n : Nat} {k : Int32} {st : cs_T} (h : st.1 ≤ z) : (cs_b0 W f z n k st).2.1 ≤ z := by
  show (cs_s2 f z st).1 ≤ z
  unfold cs_s2 cs_s1
  exact cs_num_le (cs_nm_le (cs_num_le (cs_x_le h)))
theorem cs_b1_off {W : pm_I} {f : Nat → Int32} {z n a : Nat} {k : Int32} {st : cs_T} (h : a ≠ 35 + 2 * n) : (cs_b1 W f z n k st).1 a = (cs_b0 W f z n k st).1 a := by
  unfold cs_b1
  rw [cs_bp_off h]
theorem cs_b1_le {W : pm_I} {f : Nat → Int32} {z n : Nat} {k : Int32} {st : cs_T} (h : st.1 ≤ z) : (cs_b1 W f z n k st).2.1 ≤ z := by
  unfold cs_b1
  exact cs_bp_le (cs_b0_le h)
theorem cs_b2_off {W : pm_I} {f : Nat → Int32} {z n a : Nat} {k : Int32} {st : cs_T} (h : a ≠ 35 + 2 * n) : (cs_b2 W f z n k st).1 a = (cs_b0 W f z n k st).1 a := by
  unfold cs_b2
  rw [cs_bp_off h, cs_b1_off h]
theorem cs_b2_le {W : pm_I} {f : Nat → Int32} {z n : Nat} {k : Int32} {st : cs_T} (h : st.1 ≤ z) : (cs_b2 W f z n k st).2.1 ≤ z := by
  unfold cs_b2
  exact cs_bp_le (cs_b1_le h)
theorem cs_b3_off {W : pm_I} {f : Nat → Int32} {z n a : Nat} {k : Int32} {st : cs_T} (h : a ≠ 35 + 2 * n) : (cs_b3 W f z n k st).1 a = (cs_b0 W f z n k st).1 a := by
  unfold cs_b3
  rw [cs_bp_off h, cs_b2_off h]
theorem cs_b3_le {W : pm_I} {f : Nat → Int32} {z n : Nat} {k : Int32} {st : cs_T} (h : st.1 ≤ z) : (cs_b3 W f z n k st).2.1 ≤ z := by
  unfold cs_b3
  exact cs_bp_le (cs_b2_le h)
theorem cs_b4_off {W : pm_I} {f : Nat → Int32} {z n a : Nat} {k : Int32} {st : cs_T} (h : a ≠ 35 + 2 * n) : (cs_b4 W f z n k st).1 a = (cs_b0 W f z n k st).1 a := by
  unfold cs_b4
  rw [cs_bp_off h, cs_b3_off h]
theorem cs_b4_le {W : pm_I} {f : Nat → Int32} {z n : Nat} {k : Int32} {st : cs_T} (h : st.1 ≤ z) : (cs_b4 W f z n k st).2.1 ≤ z := by
  unfold cs_b4
  exact cs_bp_le (cs_b3_le h)
theorem cs_b5_off {W : pm_I} {f : Nat → Int32} {z n a : Nat} {k : Int32} {st : cs_T} (h : a ≠ 35 + 2 * n) : (cs_b5 W f z n k st).1 a = (cs_b0 W f z n k st).1 a := by
  unfold cs_b5
  rw [cs_bp_off h, cs_b4_off h]
theorem cs_b5_le {W : pm_I} {f : Nat → Int32} {z n : Nat} {k : Int32} {st : cs_T} (h : st.1 ≤ z) : (cs_b5 W f z n k st).2.1 ≤ z := by
  unfold cs_b5
  exact cs_bp_le (cs_b4_le h)
theorem cs_b0_n {W : pm_I} {f : Nat → Int32} {z n : Nat} {k : Int32} {st : cs_T} : (cs_b0 W f z n k st).1 31 2 = nI (n + 1) := by
  show cs_W0 W f z n k st 31 2 = _
  unfold cs_W0
  rw [pm_u_at, pk_us]
theorem cs_b5_n {W : pm_I} {f : Nat → Int32} {z n : Nat} {k : Int32} {st : cs_T} (h : n ≤ 6) : (cs_b5 W f z n k st).1 31 2 = nI (n + 1) := by
  rw [cs_b5_off (show 31 ≠ 35 + 2 * n by omega), cs_b0_n]
theorem w_part {d : Nat} {J : pm_J} {f : Nat → Int32} {z : Nat} {r : cs_R} (hf : r.1 47 = f) (hz2 : z ≤ 240) (hb : r.2.1 ≤ z) {i : Nat} (hi : i < 15) {q p : Nat} (hq : SHP[q]? = some (.inl (0, 9))) (q1 : q ≠ 46) (q2 : q ≠ 47) (hp : p < 9) : pm_M (d + 5) 0 0 yX4_readPart cX4_readPart 4 (none : Option Jvm.ClassFile.FieldType) [.ref 46, .ref (1000 + (10 + i)), .ref q, .int (nI p)] SHP (tps r.1 z r.2) J (pm_D none SHP (tps (cs_bp f z q p i r).1 z (cs_bp f z q p i r).2) J) := w_readPart hf hz2 hb hi hq q1 q2 hp
theorem cs_bal_off {W : pm_I} {f : Nat → Int32} {z n a : Nat} {k : Int32} {st : cs_T} (h6 : n ≤ 6) (h : n < 6 → a ≠ 35 + 2 * n) (h2 : a ≠ 31) : (cs_bal W f z n k st).1 a = W a := by
  unfold cs_bal
  split
  · rfl
  · next q => rw [cs_b5_off (h (by omega)), cs_b0_off (h (by omega)) h2]
theorem cs_bal_le {W : pm_I} {f : Nat → Int32} {z n : Nat} {k : Int32} {st : cs_T} (h : st.1 ≤ z) : (cs_bal W f z n k st).2.1 ≤ z := by
  unfold cs_bal
  split
  · exact h
  · exact cs_b5_le h
def cs_wm (W : pm_I) (f : Nat → Int32) (z : Nat) (mo sg : Int32) (st : cs_T) : cs_R := (pm_u W 32 (cs_v f z 0 23 (cs_x f z st)).toNatClampNeg (sg * cs_v f z 0 mo (cs_num f z 0 23 (cs_x f z st))), cs_num f z 0 mo (cs_num f z 0 23 (cs_x f z st)))
def cs_gp (W : pm_I) (f : Nat → Int32) (z : Nat) (st : cs_T) : cs_R := (pm_u W 31 4 (cs_v f z 1 20 (cs_x f z st)), cs_num f z 1 20 (cs_x f z st))
/-- a clause, all but its end -/
def cs_c1 (W : pm_I) (f : Nat → Int32) (z : Nat) (st : cs_T) : cs_R := if ¬ cs_kd f z st.1 = -3 then cs_bal W f z (W 31 2).toNatClampNeg (cs_kd f z st.1) st else if tk_nm f z st.1 (pm_tx 12).2.2 then cs_wm W f z 40 1 st else if tk_nm f z st.1 (pm_tx 13).2.2 then cs_wm W f z 20 (-1) st else if tk_nm f z st.1 (pm_tx 14).2.2 then cs_gp W f z st else (W, cs_f st)
def cs_cl (f : Nat → Int32) (z : Nat) (r : cs_R) : cs_R := ((cs_c1 r.1 f z r.2).1, cs_sg f z (cs_c1 r.1 f z r.2).2)
def cs_lp (f : Nat → Int32) (z : Nat) : Nat → cs_R → cs_R
  | 0, r => r
  | m + 1, r => if ¬ tk_s f z r.2.1 = 0 ∧ r.2.2 = -3 then cs_lp f z m (cs_cl f z r) else r
/-- what holds all along -/
def cs_ok (I : pm_I) (f : Nat → Int32) (z : Nat) (r : cs_R) : Prop := r.1 47 = f ∧ r.2.1 ≤ z ∧ (∃ n, n ≤ 6 ∧ r.1 31 2 = nI n) ∧ ∀ a, a ≠ 31 → a ≠ 32 → (∀ b, b < 6 → a ≠ 35 + 2 * b) → r.1 a = I a
theorem cs_c1_ok {I : pm_I} {f : Nat → Int32} {z : Nat} {r : cs_R} (h : cs_ok I f z r) : cs_ok I f z (cs_c1 r.1 f z r.2) := by
  obtain ⟨h1, h2, ⟨n, h6, hn⟩, h3⟩ := h
  unfold cs_c1
  rw [hn, nI_clamp (by omega)]
  split
  · refine ⟨?_, cs_bal_le h2, ?_, fun a a1 a2 a3 => ?_⟩
    · rw [cs_bal_off h6 (fun q => by omega) (by decide)]; exact h1
    · unfold cs_bal
      split
      · exact ⟨n, h6, hn⟩
      · exact ⟨n + 1, by omega, cs_b5_n h6⟩
    · rw [cs_bal_off h6 (fun q => a3 n q) a1]
      exact h3 a a1 a2 a3
  · have hw : ∀ mo sg, cs_ok I f z (cs_wm r.1 f z mo sg r.2) := fun mo sg => by
      refine ⟨?_, cs_num_le (cs_num_le (cs_x_le h2)), ⟨n, h6, ?_⟩, fun a a1 a2 a3 => ?_⟩
      · unfold cs_wm; dsimp only
        rw [pm_u_off (by decide)]; exact h1
      · unfold cs_wm; dsimp only
        rw [pm_u_off (by decide)]; exact hn
      · unfold cs_wm; dsimp only
        rw [pm_u_off a2]; exact h3 a a1 a2 a3
    split
    · exact hw _ _
    · split
      · exact hw _ _
      · split
        · refine ⟨?_, cs_num_le (cs_x_le h2), ⟨n, h6, ?_⟩, fun a a1 a2 a3 => ?_⟩
          · unfold cs_gp; dsimp only
            rw [pm_u_off (by decide)]; exact h1
          · unfold cs_gp; dsimp only
            rw [pm_u_at, pk_un (by decide)]; exact hn
          · unfold cs_gp; dsimp only
            rw [pm_u_off a1]; exact h3 a a1 a2 a3
        · exact ⟨h1, h2, ⟨n, h6, hn⟩, h3⟩
theorem cs_cl_ok {I : pm_I} {f : Nat → Int32} {z : Nat} {r : cs_R} (h : cs_ok I f z r) : cs_ok I f z (cs_cl f z r) := by
  obtain ⟨h1, h2, h3, h4⟩ := cs_c1_ok h
  exact ⟨h1, cs_sg_le h2, h3, h4⟩
theorem cs_lp_ok {I : pm_I} {f : Nat → Int32} {z : Nat} : ∀ {m : Nat} {r : cs_R}, cs_ok I f z r → cs_ok I f z (cs_lp f z m r)
  | 0, _, h => h
  | m + 1, r, h => by
    unfold cs_lp
    split
    · exact cs_lp_ok (cs_cl_ok h)
    · exact h
set_option maxHeartbeats 4000000 in
set_option maxRecDepth 100000 in
theorem c_X4_readBalloon {d : Nat} {I : pm_I} {J : pm_J} {f : Nat → Int32} {z : Nat} {st : cs_T} (hf : I 47 = f) (hz2 : z ≤ 240) (hb : st.1 ≤ z) {n : Nat} (hn : I 31 2 = nI n) (h6 : n ≤ 6) {k : Int32} : pm_M (d + 6) 0 0 yX4_readBalloon cX4_readBalloon 5 (none : Option Jvm.ClassFile.FieldType) [.ref 46, .ref 31, .int k] SHP (tps I z st) J (pm_D none SHP (tps (cs_bal I f z n k st).1 z (cs_bal I f z n k st).2) J) := by
  refine pm_start (own := RX4) (nm := "readBalloon") (by decide) rfl rfl (L := [(0, .ref 46), (1, .ref 31), (2, .int k)]) rfl (Nat.le_of_ble_eq_true rfl) (fun Γ C C2 => ?_)
  have e31 : tps I z st 31 2 = nI n := by rw [tps_off (by decide)]; exact hn
  refine g_aload_n (pc := 0) (i := 1) (j := 1) C dX4_readBalloon_0 rfl rfl ?_
  refine g_getI (pc := 1) C dX4_readBalloon_1 lfX4_74 (by first | rfl | assumption) rfl ?_
  rw [e31]
  refine g_bipush (pc := 4) (v := 6) C dX4_readBalloon_4 (by decide) ?_
  refine g_icmp_lt (pc := 6) (tgt := 14) C dX4_readBalloon_6 (by decide) (fun h6_ => ?_) (fun h6_ => ?_)
  · have hn6 : n < 6 := (nI_ltI (a := n) (b := 6) (by omega) (by decide)).mp h6_
    have e47_0 : (cs_b0 I f z n k st).1 47 = f := by rw [cs_b0_off (show 47 ≠ 35 + 2 * n by omega) (by decide)]; exact hf
    have e47_1 : (cs_b1 I f z n k st).1 47 = f := by rw [cs_b1_off (show 47 ≠ 35 + 2 * n by omega)]; exact e47_0
    have e47_2 : (cs_b2 I f z n k st).1 47 = f := by rw [cs_b2_off (show 47 ≠ 35 + 2 * n by omega)]; exact e47_0
    have e47_3 : (cs_b3 I f z n k st).1 47 = f := by rw [cs_b3_off (show 47 ≠ 35 + 2 * n by omega)]; exact e47_0
    have e47_4 : (cs_b4 I f z n k st).1 47 = f := by rw [cs_b4_off (show 47 ≠ 35 + 2 * n by omega)]; exact e47_0
    refine g_aload_n (pc := 14) (i := 0) (j := 0) C dX4_readBalloon_14 rfl rfl ?_
    refine g_callV (pc := 15) C dX4_readBalloon_15 lmX4_36 kcX4_advance (by decide) (by first | rfl | assumption) (w_advance hf hz2 hb) rfl rfl (Nat.le_of_ble_eq_true rfl) ?_
    intro r9 sh9 I9 J9 hD9; obtain ⟨rfl, rfl, rfl, rfl⟩ := pm_Dq hD9; clear hD9
    try simp only [Option.toList_some, Option.toList_none, List.cons_append, List.nil_append]
    refine g_aload_n (pc := 18) (i := 0) (j := 0) C dX4_readBalloon_18 rfl rfl ?_
    refine g_getsN (pc := 19) (j := 1) C dX4_readBalloon_19 (by decide) (by decide +kernel) ?_
    refine g_iconst (pc := 22) (v := 1) C dX4_readBalloon_22 (by decide) ?_
    refine g_tald (pc := 23) (j := 1) C dX4_readBalloon_23 (by decide) (show (1 : Int32) = nI 1 from rfl) (by decide) ?_
    refine g_getsN (pc := 24) (j := 2) C dX4_readBalloon_24 (by decide) (by decide +kernel) ?_
    refine g_iconst (pc := 27) (v := 1) C dX4_readBalloon_27 (by decide) ?_
    refine g_tald (pc := 28) (j := 2) C dX4_readBalloon_28 (by decide) (show (1 : Int32) = nI 1 from rfl) (by decide) ?_
    refine g_callV (pc := 29) C dX4_readBalloon_29 lmX4_61 kcX4_number (by decide) (by first | rfl | assumption) (w_number hf hz2 (cs_x_le hb)) rfl rfl (Nat.le_of_ble_eq_true rfl) ?_
    intro r9 sh9 I9 J9 hD9; obtain ⟨rfl, rfl, rfl, rfl⟩ := pm_Dq hD9; clear hD9
    try simp only [Option.toList_some, Option.toList_none, List.cons_append, List.nil_append]
    refine g_istore_n (pc := 32) (i := 3) (L2 := [(0, _), (1, _), (2, _), (3, _)]) C dX4_readBalloon_32 rfl (by decide) rfl ?_
    refine g_aload_n (pc := 33) (i := 0) (j := 0) C dX4_readBalloon_33 rfl rfl ?_
    refine g_ldcS (pc := 34) (i := 6) C dX4_readBalloon_34 rfl (by decide) ?_
    refine g_callV (pc := 36) C dX4_readBalloon_36 lmX4_86 kcX4_passName (by decide) (by first | rfl | assumption) (w_passName (i := 6) hf hz2 (cs_num_le (cs_x_le hb)) (by decide)) rfl rfl (Nat.le_of_ble_eq_true rfl) ?_
    intro r9 sh9 I9 J9 hD9; obtain ⟨rfl, rfl, rfl, rfl⟩ := pm_Dq hD9; clear hD9
    try simp only [Option.toList_some, Option.toList_none, List.cons_append, List.nil_append]
    refine g_aload_n (pc := 39) (i := 1) (j := 1) C dX4_readBalloon_39 rfl rfl ?_
    refine g_iload_n (pc := 40) (i := 2) (j := 2) C dX4_readBalloon_40 rfl rfl ?_
    refine g_iload_n (pc := 41) (i := 3) (j := 3) C dX4_readBalloon_41 rfl rfl ?_
    refine g_aload_n (pc := 42) (i := 0) (j := 0) C dX4_readBalloon_42 rfl rfl ?_
    refine g_getsN (pc := 43) (j := 1) C dX4_readBalloon_43 (by decide) (by decide +kernel) ?_
    refine g_iconst (pc := 46) (v := 2) C dX4_readBalloon_46 (by decide) ?_
    refine g_tald (pc := 47) (j := 1) C dX4_readBalloon_47 (by decide) (show (2 : Int32) = nI 2 from rfl) (by decide) ?_
    refine g_getsN (pc := 48) (j := 2) C dX4_readBalloon_48 (by decide) (by decide +kernel) ?_
    refine g_iconst (pc := 51) (v := 2) C dX4_readBalloon_51 (by decide) ?_
    refine g_tald (pc := 52) (j := 2) C dX4_readBalloon_52 (by decide) (show (2 : Int32) = nI 2 from rfl) (by decide) ?_
    refine g_callV (pc := 53) C dX4_readBalloon_53 lmX4_61 kcX4_number (by decide) (by first | rfl | assumption) (w_number hf hz2 (cs_nm_le (cs_num_le (cs_x_le hb)))) rfl rfl (Nat.le_of_ble_eq_true rfl) ?_
    intro r9 sh9 I9 J9 hD9; obtain ⟨rfl, rfl, rfl, rfl⟩ := pm_Dq hD9; clear hD9
    try simp only [Option.toList_some, Option.toList_none, List.cons_append, List.nil_append]
    refine g_callV (pc := 56) C dX4_readBalloon_56 lmX4_90 kcX5_add (by decide) (by first | rfl | assumption) (c_X5_add_31 (n := n) (by rw [tps_off (by decide)]; exact hn) hn6) rfl rfl (Nat.le_of_ble_eq_true rfl) ?_
    intro r9 sh9 I9 J9 hD9; obtain ⟨rfl, rfl, rfl, rfl⟩ := pm_Dq hD9; clear hD9
    try simp only [Option.toList_some, Option.toList_none, List.cons_append, List.nil_append]
    rw [tps_off (show 35 + 2 * n ≠ 46 by omega), tps_s (by omega) (by omega), tps_u (by decide) (by decide)]
    refine pm_Geq (I := tps (cs_b0 I f z n k st).1 z (cs_b0 I f z n k st).2) ?_ rfl rfl rfl rfl
    refine g_aload_n (pc := 59) (i := 1) (j := 1) C dX4_readBalloon_59 rfl rfl ?_
    refine g_getR (pc := 60) C dX4_readBalloon_60 lfX4_94 (by first | rfl | assumption) rfl ?_
    refine g_aload_n (pc := 63) (i := 1) (j := 1) C dX4_readBalloon_63 rfl rfl ?_
    refine g_getI (pc := 64) C dX4_readBalloon_64 lfX4_74 (by first | rfl | assumption) rfl ?_
    rw [show tps (cs_b0 I f z n k st).1 z (cs_b0 I f z n k st).2 31 2 = nI (n + 1) by rw [tps_off (by decide)]; exact cs_b0_n]
    refine g_iconst (pc := 67) (v := 1) C dX4_readBalloon_67 (by decide) ?_
    refine g_isub (pc := 68) C dX4_readBalloon_68 ?_
    rw [nI_pred]
    refine g_aald (pc := 69) C dX4_readBalloon_69 (by first | rfl | assumption) (fun _ => rfl) rfl (by decide) rfl (rsBt n hn6) ?_
    have eB := shBt n hn6
    refine g_getR (pc := 70) C dX4_readBalloon_70 lfX4_98 (by first | rfl | assumption) rfl ?_
    refine g_astore (pc := 73) (L2 := [(0, _), (1, _), (2, _), (3, _), (4, _)]) C dX4_readBalloon_73 (by decide) rfl ?_
    refine g_aload_n (pc := 75) (i := 0) (j := 0) C dX4_readBalloon_75 rfl rfl ?_
    refine g_ldcS (pc := 76) (i := 7) C dX4_readBalloon_76 rfl (by decide) ?_
    refine g_aload (pc := 78) (j := 4) C dX4_readBalloon_78 rfl ?_
    refine g_iconst (pc := 80) (v := 5) C dX4_readBalloon_80 (by decide) ?_
    refine g_callV (pc := 81) C dX4_readBalloon_81 lmX4_105 kcX4_readPart (by decide) (by first | rfl | assumption) (w_part (r := (cs_b0 I f z n k st)) (f := f) (i := 7) (q := 35 + 2 * n) (p := 5) e47_0 hz2 (cs_b0_le hb) (by decide) (shPt n hn6) (by omega) (by omega) (by decide)) rfl rfl (Nat.le_of_ble_eq_true rfl) ?_
    intro r9 sh9 I9 J9 hD9; obtain ⟨rfl, rfl, rfl, rfl⟩ := pm_Dq hD9; clear hD9
    try simp only [Option.toList_some, Option.toList_none, List.cons_append, List.nil_append]
    rw [show cs_bp f z (35 + 2 * n) 5 7 (cs_b0 I f z n k st) = (cs_b1 I f z n k st) from rfl]
    refine g_aload_n (pc := 84) (i := 0) (j := 0) C dX4_readBalloon_84 rfl rfl ?_
    refine g_ldcS (pc := 85) (i := 8) C dX4_readBalloon_85 rfl (by decide) ?_
    refine g_aload (pc := 87) (j := 4) C dX4_readBalloon_87 rfl ?_
    refine g_bipush (pc := 89) (v := 6) C dX4_readBalloon_89 (by decide) ?_
    refine g_callV (pc := 91) C dX4_readBalloon_91 lmX4_105 kcX4_readPart (by decide) (by first | rfl | assumption) (w_part (r := (cs_b1 I f z n k st)) (f := f) (i := 8) (q := 35 + 2 * n) (p := 6) e47_1 hz2 (cs_b1_le hb) (by decide) (shPt n hn6) (by omega) (by omega) (by decide)) rfl rfl (Nat.le_of_ble_eq_true rfl) ?_
    intro r9 sh9 I9 J9 hD9; obtain ⟨rfl, rfl, rfl, rfl⟩ := pm_Dq hD9; clear hD9
    try simp only [Option.toList_some, Option.toList_none, List.cons_append, List.nil_append]
    rw [show cs_bp f z (35 + 2 * n) 6 8 (cs_b1 I f z n k st) = (cs_b2 I f z n k st) from rfl]
    refine g_aload_n (pc := 94) (i := 0) (j := 0) C dX4_readBalloon_94 rfl rfl ?_
    refine g_ldcS (pc := 95) (i := 9) C dX4_readBalloon_95 rfl (by decide) ?_
    refine g_aload (pc := 97) (j := 4) C dX4_readBalloon_97 rfl ?_
    refine g_iconst (pc := 99) (v := 4) C dX4_readBalloon_99 (by decide) ?_
    refine g_callV (pc := 100) C dX4_readBalloon_100 lmX4_105 kcX4_readPart (by decide) (by first | rfl | assumption) (w_part (r := (cs_b2 I f z n k st)) (f := f) (i := 9) (q := 35 + 2 * n) (p := 4) e47_2 hz2 (cs_b2_le hb) (by decide) (shPt n hn6) (by omega) (by omega) (by decide)) rfl rfl (Nat.le_of_ble_eq_true rfl) ?_
    intro r9 sh9 I9 J9 hD9; obtain ⟨rfl, rfl, rfl, rfl⟩ := pm_Dq hD9; clear hD9
    try simp only [Option.toList_some, Option.toList_none, List.cons_append, List.nil_append]
    rw [show cs_bp f z (35 + 2 * n) 4 9 (cs_b2 I f z n k st) = (cs_b3 I f z n k st) from rfl]
    refine g_aload_n (pc := 103) (i := 0) (j := 0) C dX4_readBalloon_103 rfl rfl ?_
    refine g_ldcS (pc := 104) (i := 10) C dX4_readBalloon_104 rfl (by decide) ?_
    refine g_aload (pc := 106) (j := 4) C dX4_readBalloon_106 rfl ?_
    refine g_bipush (pc := 108) (v := 7) C dX4_readBalloon_108 (by decide) ?_
    refine g_callV (pc := 110) C dX4_readBalloon_110 lmX4_105 kcX4_readPart (by decide) (by first | rfl | assumption) (w_part (r := (cs_b3 I f z n k st)) (f := f) (i := 10) (q := 35 + 2 * n) (p := 7) e47_3 hz2 (cs_b3_le hb) (by decide) (shPt n hn6) (by omega) (by omega) (by decide)) rfl rfl (Nat.le_of_ble_eq_true rfl) ?_
    intro r9 sh9 I9 J9 hD9; obtain ⟨rfl, rfl, rfl, rfl⟩ := pm_Dq hD9; clear hD9
    try simp only [Option.toList_some, Option.toList_none, List.cons_append, List.nil_append]
    rw [show cs_bp f z (35 + 2 * n) 7 10 (cs_b3 I f z n k st) = (cs_b4 I f z n k st) from rfl]
    refine g_aload_n (pc := 113) (i := 0) (j := 0) C dX4_readBalloon_113 rfl rfl ?_
    refine g_ldcS (pc := 114) (i := 11) C dX4_readBalloon_114 rfl (by decide) ?_
    refine g_aload (pc := 116) (j := 4) C dX4_readBalloon_116 rfl ?_
    refine g_bipush (pc := 118) (v := 8) C dX4_readBalloon_118 (by decide) ?_
    refine g_callV (pc := 120) C dX4_readBalloon_120 lmX4_105 kcX4_readPart (by decide) (by first | rfl | assumption) (w_part (r := (cs_b4 I f z n k st)) (f := f) (i := 11) (q := 35 + 2 * n) (p := 8) e47_4 hz2 (cs_b4_le hb) (by decide) (shPt n hn6) (by omega) (by omega) (by decide)) rfl rfl (Nat.le_of_ble_eq_true rfl) ?_
    intro r9 sh9 I9 J9 hD9; obtain ⟨rfl, rfl, rfl, rfl⟩ := pm_Dq hD9; clear hD9
    try simp only [Option.toList_some, Option.toList_none, List.cons_append, List.nil_append]
    rw [show cs_bp f z (35 + 2 * n) 8 11 (cs_b4 I f z n k st) = (cs_b5 I f z n k st) from rfl]
    refine g_vret (pc := 123) C C2 dX4_readBalloon_123 (Nat.le_refl _) (Nat.le_refl _) ?_
    refine ⟨rfl, rfl, ?_, rfl⟩
    unfold cs_bal
    rw [if_neg (show ¬ n = 6 by omega)]
  · have hn6 : n = 6 := by have := (nI_leI (a := 6) (b := n) (by decide) (by omega)).mp (Int32.not_lt.mp h6_); omega
    refine g_aload_n (pc := 9) (i := 0) (j := 0) C dX4_readBalloon_9 rfl rfl ?_
    refine g_callV (pc := 10) C dX4_readBalloon_10 lmX4_67 kcX4_fail (by decide) (by first | rfl | assumption) (w_fail hf hz2 hb) rfl rfl (Nat.le_of_ble_eq_true rfl) ?_
    intro r9 sh9 I9 J9 hD9; obtain ⟨rfl, rfl, rfl, rfl⟩ := pm_Dq hD9; clear hD9
    try simp only [Option.toList_some, Option.toList_none, List.cons_append, List.nil_append]
    refine g_vret (pc := 13) C C2 dX4_readBalloon_13 (Nat.le_refl _) (Nat.le_refl _) ?_
    refine ⟨rfl, rfl, ?_, rfl⟩
    unfold cs_bal
    rw [if_pos hn6]

theorem w_readBalloon {d : Nat} {I : pm_I} {J : pm_J} {f : Nat → Int32} {z : Nat} {st : cs_T} (hf : I 47 = f) (hz2 : z ≤ 240) (hb : st.1 ≤ z) {n : Nat} (hn : I 31 2 = nI n) (h6 : n ≤ 6) {k : Int32} : pm_M (d + 6) 0 0 yX4_readBalloon cX4_readBalloon 5 (none : Option Jvm.ClassFile.FieldType) [.ref 46, .ref 31, .int k] SHP (tps I z st) J (pm_D none SHP (tps (cs_bal I f z n k st).1 z (cs_bal I f z n k st).2) J) := c_X4_readBalloon hf hz2 hb hn h6

set_option maxHeartbeats 4000000 in
set_option maxRecDepth 100000 in
theorem c_X4_readInto {d : Nat} {I : pm_I} {J : pm_J} {z : Nat} (hz : I 46 1 = nI z) (hz2 : z ≤ 240) : pm_M (d + 7) 0 0 yX4_readInto cX4_readInto 4 (some .int) [.ref 46, .ref 31] SHP I J (pm_D (some (.int (cs_lp (I 47) z 240 ((pm_u (pm_u (pm_u (pm_s I 32 (bl_zer (I 32) 24)) 31 2 0) 31 3 0) 31 4 3), (tk_b (I 47) z 0, -3))).2.2)) SHP (tps (cs_lp (I 47) z 240 ((pm_u (pm_u (pm_u (pm_s I 32 (bl_zer (I 32) 24)) 31 2 0) 31 3 0) 31 4 3), (tk_b (I 47) z 0, -3))).1 z (cs_lp (I 47) z 240 ((pm_u (pm_u (pm_u (pm_s I 32 (bl_zer (I 32) 24)) 31 2 0) 31 3 0) 31 4 3), (tk_b (I 47) z 0, -3))).2) J) := by
  refine pm_start (own := RX4) (nm := "readInto") (by decide) rfl rfl (L := [(0, .ref 46), (1, .ref 31)]) rfl (Nat.le_of_ble_eq_true rfl) (fun Γ C C2 => ?_)
  obtain ⟨f, hf⟩ : ∃ f, I 47 = f := ⟨_, rfl⟩
  rw [hf] at C2
  have hok0 : cs_ok I f z ((pm_u (pm_u (pm_u (pm_s I 32 (bl_zer (I 32) 24)) 31 2 0) 31 3 0) 31 4 3), (tk_b f z 0, -3)) := by
    refine ⟨?_, (tk_b_le (Nat.zero_le _)).2, ⟨0, by decide, ?_⟩, fun a a1 a2 a3 => ?_⟩
    · dsimp only
      rw [pm_u_off (by decide), pm_u_off (by decide), pm_u_off (by decide), pm_s_off _ _ _ _ (by decide)]; exact hf
    · dsimp only
      rw [pm_u_at, pk_un (by decide), pm_u_at, pk_un (by decide), pm_u_at, pk_us]; rfl
    · dsimp only
      rw [pm_u_off a1, pm_u_off a1, pm_u_off a1, pm_s_off _ _ _ _ a2]
  generalize hR : cs_lp f z 240 ((pm_u (pm_u (pm_u (pm_s I 32 (bl_zer (I 32) 24)) 31 2 0) 31 3 0) 31 4 3), (tk_b f z 0, -3)) = R at C2
  have hloop : ∀ j, j ≤ 240 → ∀ r : cs_R, cs_ok I f z r → cs_lp f z (240 - j) r = R → pm_G Γ 0 0 21 [(0, .ref 46), (1, .ref 31), (2, .int (nI j))] [] SHP (tps r.1 z r.2) J := by
    refine pm_up (fun j => ∀ r : cs_R, cs_ok I f z r → cs_lp f z (240 - j) r = R → pm_G Γ 0 0 21 [(0, .ref 46), (1, .ref 31), (2, .int (nI j))] [] SHP (tps r.1 z r.2) J) 240 (fun j hj ih r hok hr => ?_)
    have hf1 := hok.1
    have hb := hok.2.1
    have hok1 := cs_c1_ok hok
    obtain ⟨n, h6, hn⟩ := hok.2.2.1
    have s3 := tk_s_le (f := f) (z := z) (p := r.2.1)
    have e20 := nI_eq (a := tk_s f z r.2.1) (b := 0) (by omega) (by decide)
    have hstep : j < 240 → cs_lp f z (240 - j) r = if ¬ tk_s f z r.2.1 = 0 ∧ r.2.2 = -3 then cs_lp f z (240 - (j + 1)) (cs_cl f z r) else r := fun q => by rw [show 240 - j = (240 - (j + 1)) + 1 by omega, cs_lp]
    refine g_iload_n (pc := 21) (i := 2) (j := 2) C dX4_readInto_21 rfl rfl ?_
    refine g_sipush (pc := 22) (v := 240) C dX4_readInto_22 (by decide) ?_
    refine g_icmp_ge (pc := 25) (tgt := 147) C dX4_readInto_25 (by decide) (fun h25 => ?_) (fun h25 => ?_)
    · refine g_aload_n (pc := 147) (i := 0) (j := 0) C dX4_readInto_147 rfl rfl ?_
      have hfin : r = R := by
        rw [← hr]
        first
          | (rw [show j = 240 by have := (nI_leI (a := 240) (b := j) (by decide) (by omega)).mp h25; omega]; rfl)
          | (rw [hstep hlt, if_neg (fun q => h41 q.2)])
          | (rw [hstep hlt, if_neg (fun q => q.1 (e20.mp h32))])
      refine g_getI (pc := 148) C dX4_readInto_148 lfX4_28 (by first | rfl | assumption) rfl ?_
      refine g_iret (pc := 151) C C2 dX4_readInto_151 rfl (Nat.le_refl _) (Nat.le_refl _) ?_
      subst hfin
      refine ⟨?_, rfl, rfl, rfl⟩
      rw [tps_5]
    · have hlt : j < 240 := Nat.lt_of_not_le (fun q => h25 ((nI_leI (a := 240) (b := j) (by decide) (by omega)).mpr q))
      refine g_aload_n (pc := 28) (i := 0) (j := 0) C dX4_readInto_28 rfl rfl ?_
      refine g_getI (pc := 29) C dX4_readInto_29 lfX4_19 (by first | rfl | assumption) rfl ?_
      rw [tps_2, hf1]
      refine g_if_eq (pc := 32) (tgt := 147) C dX4_readInto_32 (by decide) (fun h32 => ?_) (fun h32 => ?_)
      · refine g_aload_n (pc := 147) (i := 0) (j := 0) C dX4_readInto_147 rfl rfl ?_
        have hfin : r = R := by
          rw [← hr]
          first
            | (rw [show j = 240 by have := (nI_leI (a := 240) (b := j) (by decide) (by omega)).mp h25; omega]; rfl)
            | (rw [hstep hlt, if_neg (fun q => h41 q.2)])
            | (rw [hstep hlt, if_neg (fun q => q.1 (e20.mp h32))])
        refine g_getI (pc := 148) C dX4_readInto_148 lfX4_28 (by first | rfl | assumption) rfl ?_
        refine g_iret (pc := 151) C C2 dX4_readInto_151 rfl (Nat.le_refl _) (Nat.le_refl _) ?_
        subst hfin
        refine ⟨?_, rfl, rfl, rfl⟩
        rw [tps_5]
      · refine g_aload_n (pc := 35) (i := 0) (j := 0) C dX4_readInto_35 rfl rfl ?_
        refine g_getI (pc := 36) C dX4_readInto_36 lfX4_28 (by first | rfl | assumption) rfl ?_
        rw [tps_5]
        refine g_bipush (pc := 39) (v := (-3)) C dX4_readInto_39 (by decide) ?_
        refine g_icmp_ne (pc := 41) (tgt := 147) C dX4_readInto_41 (by decide) (fun h41 => ?_) (fun h41 => ?_)
        · refine g_aload_n (pc := 147) (i := 0) (j := 0) C dX4_readInto_147 rfl rfl ?_
          have hfin : r = R := by
            rw [← hr]
            first
              | (rw [show j = 240 by have := (nI_leI (a := 240) (b := j) (by decide) (by omega)).mp h25; omega]; rfl)
              | (rw [hstep hlt, if_neg (fun q => h41 q.2)])
              | (rw [hstep hlt, if_neg (fun q => q.1 (e20.mp h32))])
          refine g_getI (pc := 148) C dX4_readInto_148 lfX4_28 (by first | rfl | assumption) rfl ?_
          refine g_iret (pc := 151) C C2 dX4_readInto_151 rfl (Nat.le_refl _) (Nat.le_refl _) ?_
          subst hfin
          refine ⟨?_, rfl, rfl, rfl⟩
          rw [tps_5]
        · refine g_aload_n (pc := 44) (i := 0) (j := 0) C dX4_readInto_44 rfl rfl ?_
          refine g_callV (pc := 45) C dX4_readInto_45 lmX4_39 kcX4_kindHere (by decide) (by first | rfl | assumption) (w_kindHere hf1 hz2 hb) rfl rfl (Nat.le_of_ble_eq_true rfl) ?_
          intro r9 sh9 I9 J9 hD9; obtain ⟨rfl, rfl, rfl, rfl⟩ := pm_Dq hD9; clear hD9
          try simp only [Option.toList_some, Option.toList_none, List.cons_append, List.nil_append]
          refine g_istore_n (pc := 48) (i := 3) (L2 := [(0, _), (1, _), (2, _), (3, _)]) C dX4_readInto_48 rfl (by decide) rfl ?_
          refine g_iload_n (pc := 49) (i := 3) (j := 3) C dX4_readInto_49 rfl rfl ?_
          refine g_bipush (pc := 50) (v := (-3)) C dX4_readInto_50 (by decide) ?_
          refine g_icmp_eq (pc := 52) (tgt := 64) C dX4_readInto_52 (by decide) (fun h52 => ?_) (fun h52 => ?_)
          · refine g_aload_n (pc := 64) (i := 0) (j := 0) C dX4_readInto_64 rfl rfl ?_
            refine g_ldcS (pc := 65) (i := 12) C dX4_readInto_65 rfl (by decide) ?_
            refine g_callV (pc := 67) C dX4_readInto_67 lmX4_49 kcX4_isName (by decide) (by first | rfl | assumption) (w_isName (i := 12) hf1 hz2 hb (by decide)) rfl rfl (Nat.le_of_ble_eq_true rfl) ?_
            intro r9 sh9 I9 J9 hD9; obtain ⟨rfl, rfl, rfl, rfl⟩ := pm_Dq hD9; clear hD9
            try simp only [Option.toList_some, Option.toList_none, List.cons_append, List.nil_append]
            refine g_if_eqB (pc := 70) (tgt := 84) C dX4_readInto_70 (by decide) (fun h70 => ?_) (fun h70 => ?_)
            · refine g_aload_n (pc := 84) (i := 0) (j := 0) C dX4_readInto_84 rfl rfl ?_
              refine g_ldcS (pc := 85) (i := 13) C dX4_readInto_85 rfl (by decide) ?_
              refine g_callV (pc := 87) C dX4_readInto_87 lmX4_49 kcX4_isName (by decide) (by first | rfl | assumption) (w_isName (i := 13) hf1 hz2 hb (by decide)) rfl rfl (Nat.le_of_ble_eq_true rfl) ?_
              intro r9 sh9 I9 J9 hD9; obtain ⟨rfl, rfl, rfl, rfl⟩ := pm_Dq hD9; clear hD9
              try simp only [Option.toList_some, Option.toList_none, List.cons_append, List.nil_append]
              refine g_if_eqB (pc := 90) (tgt := 104) C dX4_readInto_90 (by decide) (fun h90 => ?_) (fun h90 => ?_)
              · refine g_aload_n (pc := 104) (i := 0) (j := 0) C dX4_readInto_104 rfl rfl ?_
                refine g_ldcS (pc := 105) (i := 14) C dX4_readInto_105 rfl (by decide) ?_
                refine g_callV (pc := 107) C dX4_readInto_107 lmX4_49 kcX4_isName (by decide) (by first | rfl | assumption) (w_isName (i := 14) hf1 hz2 hb (by decide)) rfl rfl (Nat.le_of_ble_eq_true rfl) ?_
                intro r9 sh9 I9 J9 hD9; obtain ⟨rfl, rfl, rfl, rfl⟩ := pm_Dq hD9; clear hD9
                try simp only [Option.toList_some, Option.toList_none, List.cons_append, List.nil_append]
                refine g_if_eqB (pc := 110) (tgt := 131) C dX4_readInto_110 (by decide) (fun h110 => ?_) (fun h110 => ?_)
                · refine g_aload_n (pc := 131) (i := 0) (j := 0) C dX4_readInto_131 rfl rfl ?_
                  refine g_callV (pc := 132) C dX4_readInto_132 lmX4_67 kcX4_fail (by decide) (by first | rfl | assumption) (w_fail hf1 hz2 hb) rfl rfl (Nat.le_of_ble_eq_true rfl) ?_
                  intro r9 sh9 I9 J9 hD9; obtain ⟨rfl, rfl, rfl, rfl⟩ := pm_Dq hD9; clear hD9
                  try simp only [Option.toList_some, Option.toList_none, List.cons_append, List.nil_append]
                  first
                    | refine pm_Geq (I := tps (cs_c1 r.1 f z r.2).1 z (cs_c1 r.1 f z r.2).2) ?_ rfl rfl (by unfold cs_c1; rw [hn, nI_clamp (show n < 2 ^ 31 by omega), if_pos h52]) rfl
                    | refine pm_Geq (I := tps (cs_c1 r.1 f z r.2).1 z (cs_c1 r.1 f z r.2).2) ?_ rfl rfl (by unfold cs_c1; rw [if_neg (fun q => q h52), if_pos h70]; rfl) rfl
                    | refine pm_Geq (I := tps (cs_c1 r.1 f z r.2).1 z (cs_c1 r.1 f z r.2).2) ?_ rfl rfl (by unfold cs_c1; rw [if_neg (fun q => q h52), if_neg h70, if_pos h90]; rfl) rfl
                    | refine pm_Geq (I := tps (cs_c1 r.1 f z r.2).1 z (cs_c1 r.1 f z r.2).2) ?_ rfl rfl (by rw [tps_u (by decide) (by decide)]; unfold cs_c1; rw [if_neg (fun q => q h52), if_neg h70, if_neg h90, if_pos h110]; rfl) rfl
                    | refine pm_Geq (I := tps (cs_c1 r.1 f z r.2).1 z (cs_c1 r.1 f z r.2).2) ?_ rfl rfl (by unfold cs_c1; rw [if_neg (fun q => q h52), if_neg h70, if_neg h90, if_neg h110]) rfl
                  refine g_aload_n (pc := 135) (i := 0) (j := 0) C dX4_readInto_135 rfl rfl ?_
                  refine g_bipush (pc := 136) (v := 59) C dX4_readInto_136 (by decide) ?_
                  refine g_callV (pc := 138) C dX4_readInto_138 lmX4_70 kcX4_passSign (by decide) (by first | rfl | assumption) (w_passSign (I := (cs_c1 r.1 f z r.2).1) (st := (cs_c1 r.1 f z r.2).2) hok1.1 hz2 hok1.2.1) rfl rfl (Nat.le_of_ble_eq_true rfl) ?_
                  intro r9 sh9 I9 J9 hD9; obtain ⟨rfl, rfl, rfl, rfl⟩ := pm_Dq hD9; clear hD9
                  try simp only [Option.toList_some, Option.toList_none, List.cons_append, List.nil_append]
                  refine g_iinc (pc := 141) (j := 2) (v := _ + 1) (L2 := [(0, _), (1, _), (2, _), (3, _)]) C dX4_readInto_141 rfl rfl (by decide) rfl ?_
                  refine g_goto (pc := 144) (tgt := 21) C dX4_readInto_144 (by decide) ?_
                  refine pm_drop (L := [(0, _), (1, _), (2, _)]) ?_ [0, 1, 2] rfl
                  refine pm_Geq (ih hlt (cs_cl f z r) (cs_cl_ok hok) ?_) (by simp only [nI_1]) rfl rfl rfl
                  rw [← hr, hstep hlt, if_pos ⟨fun q => h32 (e20.mpr q), h41⟩]
                · refine g_aload_n (pc := 113) (i := 0) (j := 0) C dX4_readInto_113 rfl rfl ?_
                  refine g_callV (pc := 114) C dX4_readInto_114 lmX4_36 kcX4_advance (by decide) (by first | rfl | assumption) (w_advance hf1 hz2 hb) rfl rfl (Nat.le_of_ble_eq_true rfl) ?_
                  intro r9 sh9 I9 J9 hD9; obtain ⟨rfl, rfl, rfl, rfl⟩ := pm_Dq hD9; clear hD9
                  try simp only [Option.toList_some, Option.toList_none, List.cons_append, List.nil_append]
                  refine g_aload_n (pc := 117) (i := 1) (j := 1) C dX4_readInto_117 rfl rfl ?_
                  refine g_aload_n (pc := 118) (i := 0) (j := 0) C dX4_readInto_118 rfl rfl ?_
                  refine g_iconst (pc := 119) (v := 1) C dX4_readInto_119 (by decide) ?_
                  refine g_bipush (pc := 120) (v := 20) C dX4_readInto_120 (by decide) ?_
                  refine g_callV (pc := 122) C dX4_readInto_122 lmX4_61 kcX4_number (by decide) (by first | rfl | assumption) (w_number hf1 hz2 (cs_x_le hb)) rfl rfl (Nat.le_of_ble_eq_true rfl) ?_
                  intro r9 sh9 I9 J9 hD9; obtain ⟨rfl, rfl, rfl, rfl⟩ := pm_Dq hD9; clear hD9
                  try simp only [Option.toList_some, Option.toList_none, List.cons_append, List.nil_append]
                  refine g_putI (pc := 125) C dX4_readInto_125 lpX4_65 rfl rfl (by first | rfl | assumption) rfl ?_
                  refine g_goto (pc := 128) (tgt := 135) C dX4_readInto_128 (by decide) ?_
                  first
                    | refine pm_Geq (I := tps (cs_c1 r.1 f z r.2).1 z (cs_c1 r.1 f z r.2).2) ?_ rfl rfl (by unfold cs_c1; rw [hn, nI_clamp (show n < 2 ^ 31 by omega), if_pos h52]) rfl
                    | refine pm_Geq (I := tps (cs_c1 r.1 f z r.2).1 z (cs_c1 r.1 f z r.2).2) ?_ rfl rfl (by unfold cs_c1; rw [if_neg (fun q => q h52), if_pos h70]; rfl) rfl
                    | refine pm_Geq (I := tps (cs_c1 r.1 f z r.2).1 z (cs_c1 r.1 f z r.2).2) ?_ rfl rfl (by unfold cs_c1; rw [if_neg (fun q => q h52), if_neg h70, if_pos h90]; rfl) rfl
                    | refine pm_Geq (I := tps (cs_c1 r.1 f z r.2).1 z (cs_c1 r.1 f z r.2).2) ?_ rfl rfl (by rw [tps_u (by decide) (by decide)]; unfold cs_c1; rw [if_neg (fun q => q h52), if_neg h70, if_neg h90, if_pos h110]; rfl) rfl
                    | refine pm_Geq (I := tps (cs_c1 r.1 f z r.2).1 z (cs_c1 r.1 f z r.2).2) ?_ rfl rfl (by unfold cs_c1; rw [if_neg (fun q => q h52), if_neg h70, if_neg h90, if_neg h110]) rfl
                  refine g_aload_n (pc := 135) (i := 0) (j := 0) C dX4_readInto_135 rfl rfl ?_
                  refine g_bipush (pc := 136) (v := 59) C dX4_readInto_136 (by decide) ?_
                  refine g_callV (pc := 138) C dX4_readInto_138 lmX4_70 kcX4_passSign (by decide) (by first | rfl | assumption) (w_passSign (I := (cs_c1 r.1 f z r.2).1) (st := (cs_c1 r.1 f z r.2).2) hok1.1 hz2 hok1.2.1) rfl rfl (Nat.le_of_ble_eq_true rfl) ?_
                  intro r9 sh9 I9 J9 hD9; obtain ⟨rfl, rfl, rfl, rfl⟩ := pm_Dq hD9; clear hD9
                  try simp only [Option.toList_some, Option.toList_none, List.cons_append, List.nil_append]
                  refine g_iinc (pc := 141) (j := 2) (v := _ + 1) (L2 := [(0, _), (1, _), (2, _), (3, _)]) C dX4_readInto_141 rfl rfl (by decide) rfl ?_
                  refine g_goto (pc := 144) (tgt := 21) C dX4_readInto_144 (by decide) ?_
                  refine pm_drop (L := [(0, _), (1, _), (2, _)]) ?_ [0, 1, 2] rfl
                  refine pm_Geq (ih hlt (cs_cl f z r) (cs_cl_ok hok) ?_) (by simp only [nI_1]) rfl rfl rfl
                  rw [← hr, hstep hlt, if_pos ⟨fun q => h32 (e20.mpr q), h41⟩]
              · refine g_aload_n (pc := 93) (i := 0) (j := 0) C dX4_readInto_93 rfl rfl ?_
                refine g_aload_n (pc := 94) (i := 1) (j := 1) C dX4_readInto_94 rfl rfl ?_
                refine g_bipush (pc := 95) (v := 20) C dX4_readInto_95 (by decide) ?_
                refine g_iconst (pc := 97) (v := (-1)) C dX4_readInto_97 (by decide) ?_
                refine g_callV (pc := 98) C dX4_readInto_98 lmX4_53 kcX4_readWarmth (by decide) (by first | rfl | assumption) (w_readWarmth hf1 hz2 hb) rfl rfl (Nat.le_of_ble_eq_true rfl) ?_
                intro r9 sh9 I9 J9 hD9; obtain ⟨rfl, rfl, rfl, rfl⟩ := pm_Dq hD9; clear hD9
                try simp only [Option.toList_some, Option.toList_none, List.cons_append, List.nil_append]
                refine g_goto (pc := 101) (tgt := 135) C dX4_readInto_101 (by decide) ?_
                first
                  | refine pm_Geq (I := tps (cs_c1 r.1 f z r.2).1 z (cs_c1 r.1 f z r.2).2) ?_ rfl rfl (by unfold cs_c1; rw [hn, nI_clamp (show n < 2 ^ 31 by omega), if_pos h52]) rfl
                  | refine pm_Geq (I := tps (cs_c1 r.1 f z r.2).1 z (cs_c1 r.1 f z r.2).2) ?_ rfl rfl (by unfold cs_c1; rw [if_neg (fun q => q h52), if_pos h70]; rfl) rfl
                  | refine pm_Geq (I := tps (cs_c1 r.1 f z r.2).1 z (cs_c1 r.1 f z r.2).2) ?_ rfl rfl (by unfold cs_c1; rw [if_neg (fun q => q h52), if_neg h70, if_pos h90]; rfl) rfl
                  | refine pm_Geq (I := tps (cs_c1 r.1 f z r.2).1 z (cs_c1 r.1 f z r.2).2) ?_ rfl rfl (by rw [tps_u (by decide) (by decide)]; unfold cs_c1; rw [if_neg (fun q => q h52), if_neg h70, if_neg h90, if_pos h110]; rfl) rfl
                  | refine pm_Geq (I := tps (cs_c1 r.1 f z r.2).1 z (cs_c1 r.1 f z r.2).2) ?_ rfl rfl (by unfold cs_c1; rw [if_neg (fun q => q h52), if_neg h70, if_neg h90, if_neg h110]) rfl
                refine g_aload_n (pc := 135) (i := 0) (j := 0) C dX4_readInto_135 rfl rfl ?_
                refine g_bipush (pc := 136) (v := 59) C dX4_readInto_136 (by decide) ?_
                refine g_callV (pc := 138) C dX4_readInto_138 lmX4_70 kcX4_passSign (by decide) (by first | rfl | assumption) (w_passSign (I := (cs_c1 r.1 f z r.2).1) (st := (cs_c1 r.1 f z r.2).2) hok1.1 hz2 hok1.2.1) rfl rfl (Nat.le_of_ble_eq_true rfl) ?_
                intro r9 sh9 I9 J9 hD9; obtain ⟨rfl, rfl, rfl, rfl⟩ := pm_Dq hD9; clear hD9
                try simp only [Option.toList_some, Option.toList_none, List.cons_append, List.nil_append]
                refine g_iinc (pc := 141) (j := 2) (v := _ + 1) (L2 := [(0, _), (1, _), (2, _), (3, _)]) C dX4_readInto_141 rfl rfl (by decide) rfl ?_
                refine g_goto (pc := 144) (tgt := 21) C dX4_readInto_144 (by decide) ?_
                refine pm_drop (L := [(0, _), (1, _), (2, _)]) ?_ [0, 1, 2] rfl
                refine pm_Geq (ih hlt (cs_cl f z r) (cs_cl_ok hok) ?_) (by simp only [nI_1]) rfl rfl rfl
                rw [← hr, hstep hlt, if_pos ⟨fun q => h32 (e20.mpr q), h41⟩]
            · refine g_aload_n (pc := 73) (i := 0) (j := 0) C dX4_readInto_73 rfl rfl ?_
              refine g_aload_n (pc := 74) (i := 1) (j := 1) C dX4_readInto_74 rfl rfl ?_
              refine g_bipush (pc := 75) (v := 40) C dX4_readInto_75 (by decide) ?_
              refine g_iconst (pc := 77) (v := 1) C dX4_readInto_77 (by decide) ?_
              refine g_callV (pc := 78) C dX4_readInto_78 lmX4_53 kcX4_readWarmth (by decide) (by first | rfl | assumption) (w_readWarmth hf1 hz2 hb) rfl rfl (Nat.le_of_ble_eq_true rfl) ?_
              intro r9 sh9 I9 J9 hD9; obtain ⟨rfl, rfl, rfl, rfl⟩ := pm_Dq hD9; clear hD9
              try simp only [Option.toList_some, Option.toList_none, List.cons_append, List.nil_append]
              refine g_goto (pc := 81) (tgt := 135) C dX4_readInto_81 (by decide) ?_
              first
                | refine pm_Geq (I := tps (cs_c1 r.1 f z r.2).1 z (cs_c1 r.1 f z r.2).2) ?_ rfl rfl (by unfold cs_c1; rw [hn, nI_clamp (show n < 2 ^ 31 by omega), if_pos h52]) rfl
                | refine pm_Geq (I := tps (cs_c1 r.1 f z r.2).1 z (cs_c1 r.1 f z r.2).2) ?_ rfl rfl (by unfold cs_c1; rw [if_neg (fun q => q h52), if_pos h70]; rfl) rfl
                | refine pm_Geq (I := tps (cs_c1 r.1 f z r.2).1 z (cs_c1 r.1 f z r.2).2) ?_ rfl rfl (by unfold cs_c1; rw [if_neg (fun q => q h52), if_neg h70, if_pos h90]; rfl) rfl
                | refine pm_Geq (I := tps (cs_c1 r.1 f z r.2).1 z (cs_c1 r.1 f z r.2).2) ?_ rfl rfl (by rw [tps_u (by decide) (by decide)]; unfold cs_c1; rw [if_neg (fun q => q h52), if_neg h70, if_neg h90, if_pos h110]; rfl) rfl
                | refine pm_Geq (I := tps (cs_c1 r.1 f z r.2).1 z (cs_c1 r.1 f z r.2).2) ?_ rfl rfl (by unfold cs_c1; rw [if_neg (fun q => q h52), if_neg h70, if_neg h90, if_neg h110]) rfl
              refine g_aload_n (pc := 135) (i := 0) (j := 0) C dX4_readInto_135 rfl rfl ?_
              refine g_bipush (pc := 136) (v := 59) C dX4_readInto_136 (by decide) ?_
              refine g_callV (pc := 138) C dX4_readInto_138 lmX4_70 kcX4_passSign (by decide) (by first | rfl | assumption) (w_passSign (I := (cs_c1 r.1 f z r.2).1) (st := (cs_c1 r.1 f z r.2).2) hok1.1 hz2 hok1.2.1) rfl rfl (Nat.le_of_ble_eq_true rfl) ?_
              intro r9 sh9 I9 J9 hD9; obtain ⟨rfl, rfl, rfl, rfl⟩ := pm_Dq hD9; clear hD9
              try simp only [Option.toList_some, Option.toList_none, List.cons_append, List.nil_append]
              refine g_iinc (pc := 141) (j := 2) (v := _ + 1) (L2 := [(0, _), (1, _), (2, _), (3, _)]) C dX4_readInto_141 rfl rfl (by decide) rfl ?_
              refine g_goto (pc := 144) (tgt := 21) C dX4_readInto_144 (by decide) ?_
              refine pm_drop (L := [(0, _), (1, _), (2, _)]) ?_ [0, 1, 2] rfl
              refine pm_Geq (ih hlt (cs_cl f z r) (cs_cl_ok hok) ?_) (by simp only [nI_1]) rfl rfl rfl
              rw [← hr, hstep hlt, if_pos ⟨fun q => h32 (e20.mpr q), h41⟩]
          · refine g_aload_n (pc := 55) (i := 0) (j := 0) C dX4_readInto_55 rfl rfl ?_
            refine g_aload_n (pc := 56) (i := 1) (j := 1) C dX4_readInto_56 rfl rfl ?_
            refine g_iload_n (pc := 57) (i := 3) (j := 3) C dX4_readInto_57 rfl rfl ?_
            refine g_callV (pc := 58) C dX4_readInto_58 lmX4_43 kcX4_readBalloon (by decide) (by first | rfl | assumption) (w_readBalloon hf1 hz2 hb hn h6) rfl rfl (Nat.le_of_ble_eq_true rfl) ?_
            intro r9 sh9 I9 J9 hD9; obtain ⟨rfl, rfl, rfl, rfl⟩ := pm_Dq hD9; clear hD9
            try simp only [Option.toList_some, Option.toList_none, List.cons_append, List.nil_append]
            refine g_goto (pc := 61) (tgt := 135) C dX4_readInto_61 (by decide) ?_
            first
              | refine pm_Geq (I := tps (cs_c1 r.1 f z r.2).1 z (cs_c1 r.1 f z r.2).2) ?_ rfl rfl (by unfold cs_c1; rw [hn, nI_clamp (show n < 2 ^ 31 by omega), if_pos h52]) rfl
              | refine pm_Geq (I := tps (cs_c1 r.1 f z r.2).1 z (cs_c1 r.1 f z r.2).2) ?_ rfl rfl (by unfold cs_c1; rw [if_neg (fun q => q h52), if_pos h70]; rfl) rfl
              | refine pm_Geq (I := tps (cs_c1 r.1 f z r.2).1 z (cs_c1 r.1 f z r.2).2) ?_ rfl rfl (by unfold cs_c1; rw [if_neg (fun q => q h52), if_neg h70, if_pos h90]; rfl) rfl
              | refine pm_Geq (I := tps (cs_c1 r.1 f z r.2).1 z (cs_c1 r.1 f z r.2).2) ?_ rfl rfl (by rw [tps_u (by decide) (by decide)]; unfold cs_c1; rw [if_neg (fun q => q h52), if_neg h70, if_neg h90, if_pos h110]; rfl) rfl
              | refine pm_Geq (I := tps (cs_c1 r.1 f z r.2).1 z (cs_c1 r.1 f z r.2).2) ?_ rfl rfl (by unfold cs_c1; rw [if_neg (fun q => q h52), if_neg h70, if_neg h90, if_neg h110]) rfl
            refine g_aload_n (pc := 135) (i := 0) (j := 0) C dX4_readInto_135 rfl rfl ?_
            refine g_bipush (pc := 136) (v := 59) C dX4_readInto_136 (by decide) ?_
            refine g_callV (pc := 138) C dX4_readInto_138 lmX4_70 kcX4_passSign (by decide) (by first | rfl | assumption) (w_passSign (I := (cs_c1 r.1 f z r.2).1) (st := (cs_c1 r.1 f z r.2).2) hok1.1 hz2 hok1.2.1) rfl rfl (Nat.le_of_ble_eq_true rfl) ?_
            intro r9 sh9 I9 J9 hD9; obtain ⟨rfl, rfl, rfl, rfl⟩ := pm_Dq hD9; clear hD9
            try simp only [Option.toList_some, Option.toList_none, List.cons_append, List.nil_append]
            refine g_iinc (pc := 141) (j := 2) (v := _ + 1) (L2 := [(0, _), (1, _), (2, _), (3, _)]) C dX4_readInto_141 rfl rfl (by decide) rfl ?_
            refine g_goto (pc := 144) (tgt := 21) C dX4_readInto_144 (by decide) ?_
            refine pm_drop (L := [(0, _), (1, _), (2, _)]) ?_ [0, 1, 2] rfl
            refine pm_Geq (ih hlt (cs_cl f z r) (cs_cl_ok hok) ?_) (by simp only [nI_1]) rfl rfl rfl
            rw [← hr, hstep hlt, if_pos ⟨fun q => h32 (e20.mpr q), h41⟩]
  refine g_aload_n (pc := 0) (i := 1) (j := 1) C dX4_readInto_0 rfl rfl ?_
  refine g_callV (pc := 1) C dX4_readInto_1 lmX4_31 kcX5_becomeEmpty (by decide) (by first | rfl | assumption) (c_X5_becomeEmpty) rfl rfl (Nat.le_of_ble_eq_true rfl) ?_
  intro r9 sh9 I9 J9 hD9; obtain ⟨rfl, rfl, rfl, rfl⟩ := pm_Dq hD9; clear hD9
  try simp only [Option.toList_some, Option.toList_none, List.cons_append, List.nil_append]
  refine g_aload_n (pc := 4) (i := 0) (j := 0) C dX4_readInto_4 rfl rfl ?_
  refine g_bipush (pc := 5) (v := (-3)) C dX4_readInto_5 (by decide) ?_
  refine g_putI (pc := 7) C dX4_readInto_7 lpX4_28 rfl rfl (by first | rfl | assumption) rfl ?_
  refine g_aload_n (pc := 10) (i := 0) (j := 0) C dX4_readInto_10 rfl rfl ?_
  refine g_iconst (pc := 11) (v := 0) C dX4_readInto_11 (by decide) ?_
  refine g_putI (pc := 12) C dX4_readInto_12 lpX4_25 rfl rfl (by first | rfl | assumption) rfl ?_
  refine g_aload_n (pc := 15) (i := 0) (j := 0) C dX4_readInto_15 rfl rfl ?_
  refine g_callV (pc := 16) C dX4_readInto_16 lmX4_36 kcX4_advance (by decide) (by first | rfl | assumption) (c_X4_advance (I := (pm_u (pm_u (pm_u (pm_u (pm_u (pm_s I 32 (bl_zer (I 32) 24)) 31 2 0) 31 3 0) 31 4 3) 46 5 (-3)) 46 4 0)) (z := z) (p := 0) (by rw [pm_u_at, pk_un (by decide), pm_u_at, pk_un (by decide), pm_u_off (by decide), pm_u_off (by decide), pm_u_off (by decide), pm_s_off _ _ _ _ (by decide)]; exact hz) hz2 (by rw [pm_u_at, pk_us]; rfl) (Nat.zero_le _)) rfl rfl (Nat.le_of_ble_eq_true rfl) ?_
  intro r9 sh9 I9 J9 hD9; obtain ⟨rfl, rfl, rfl, rfl⟩ := pm_Dq hD9; clear hD9
  try simp only [Option.toList_some, Option.toList_none, List.cons_append, List.nil_append]
  refine pm_Geq (I := tps (pm_u (pm_u (pm_u (pm_s I 32 (bl_zer (I 32) 24)) 31 2 0) 31 3 0) 31 4 3) z (tk_b f z 0, -3)) ?_ rfl rfl (by rw [show (pm_u (pm_u (pm_u (pm_u (pm_u (pm_s I 32 (bl_zer (I 32) 24)) 31 2 0) 31 3 0) 31 4 3) 46 5 (-3)) 46 4 0) 46 5 = -3 by rw [pm_u_at, pk_un (by decide), pm_u_at, pk_us], tp_46 (by decide) (by decide), tp_46 (by decide) (by decide), show (pm_u (pm_u (pm_u (pm_u (pm_u (pm_s I 32 (bl_zer (I 32) 24)) 31 2 0) 31 3 0) 31 4 3) 46 5 (-3)) 46 4 0) 47 = f by rw [pm_u_off (by decide), pm_u_off (by decide)]; exact hok0.1]) rfl
  refine g_iconst (pc := 19) (v := 0) C dX4_readInto_19 (by decide) ?_
  refine g_istore_n (pc := 20) (i := 2) (L2 := [(0, _), (1, _), (2, _)]) C dX4_readInto_20 rfl (by decide) rfl ?_
  exact hloop 0 (Nat.zero_le _) _ hok0 hR
