/-! The model: sheets, warms, feed, towns kept -/
def pm_sJ (J : pm_J) (q : Nat) (f : Nat → Int64) : pm_J := fun b => if b = q then f else J b
theorem pm_uJ_s (J : pm_J) (q k : Nat) (x : Int64) : pm_uJ J q k x = pm_sJ J q (vp_updL (J q) k x) := rfl
theorem pm_sJ_at (J : pm_J) (q : Nat) (f : Nat → Int64) : pm_sJ J q f q = f := if_pos rfl
theorem pm_sJ_off (J : pm_J) (q b : Nat) (f : Nat → Int64) (h : b ≠ q) : pm_sJ J q f b = J b := if_neg h
theorem pm_sJ_s (J : pm_J) (q : Nat) (f g : Nat → Int64) : pm_sJ (pm_sJ J q f) q g = pm_sJ J q g := by
  funext b
  unfold pm_sJ
  split <;> rfl
def mz_J (f : Nat → Int64) (s k : Nat) : Nat → Int64 := fun j => if 40 * s ≤ j ∧ j < 40 * s + k then 0 else f j
def mw_row (g : Nat → Int32) (f : Nat → Int64) (i h k : Nat) : Nat → Int32 := fun j => if h ≤ j ∧ j < h + k then (if f (i + (j - h)) < -20 then -20 else if 40 < f (i + (j - h)) then 40 else (f (i + (j - h))).toInt32) else g j
def mf_b (e : Int64) (k : Nat) : Int32 := ((e >>> ((8 * nI k).toInt64 &&& 63)) &&& 255).toInt32
def mf_row (g : Nat → Int32) (e : Int64) (z k : Nat) : Nat → Int32 := fun j => if z ≤ j ∧ j < z + k then mf_b e (j - z) else g j
def mv_k (f g : Nat → Int32) (m N : Nat) : Nat → Int32 := fun j => if m ≤ j ∧ j < m + N then g (j - m) else f j
def mv_a (f g : Nat → Int32) (m N : Nat) : Nat → Int32 := fun j => if j < N then g (m + j) else f j
def mvK (W : pm_I) (q m N : Nat) : pm_I := pm_s (pm_u W 102 41 (nI (m + N))) 121 (mv_k (W 121) (W q) m N)
def mvA (W : pm_I) (q m N : Nat) : pm_I := pm_s (pm_u W 102 41 (nI (m + N))) q (mv_a (W q) (W 121) m N)
def mv_0 (I : pm_I) : pm_I := pm_u (pm_u (pm_u (pm_u I 102 41 0) 122 0 (I 102 2)) 122 1 (I 102 1)) 122 2 (I 102 8)
theorem mvK_off {W : pm_I} {q m N a : Nat} (h1 : a ≠ 102) (h2 : a ≠ 121) : mvK W q m N a = W a := by
  unfold mvK
  rw [pm_s_off _ _ _ _ h2, pm_u_off h1]
theorem mvK_102 {W : pm_I} {q m N p : Nat} (h : p ≠ 41) : mvK W q m N 102 p = W 102 p := by
  unfold mvK
  rw [pm_s_off _ _ _ _ (by decide), pm_u_at, pk_un h]
theorem mvK_41 {W : pm_I} {q m N : Nat} : mvK W q m N 102 41 = nI (m + N) := by
  unfold mvK
  rw [pm_s_off _ _ _ _ (by decide), pm_u_at, pk_us]
theorem mvK_121 {W : pm_I} {q m N : Nat} : mvK W q m N 121 = mv_k (W 121) (W q) m N := by
  unfold mvK
  rw [pm_s_at]
theorem mvA_off {W : pm_I} {q m N a : Nat} (h1 : a ≠ 102) (h2 : a ≠ q) : mvA W q m N a = W a := by
  unfold mvA
  rw [pm_s_off _ _ _ _ h2, pm_u_off h1]
theorem mvA_102 {W : pm_I} {q m N p : Nat} (hq : q ≠ 102) (h : p ≠ 41) : mvA W q m N 102 p = W 102 p := by
  unfold mvA
  rw [pm_s_off _ _ _ _ (Ne.symm hq), pm_u_at, pk_un h]
theorem mvA_41 {W : pm_I} {q m N : Nat} (hq : q ≠ 102) : mvA W q m N 102 41 = nI (m + N) := by
  unfold mvA
  rw [pm_s_off _ _ _ _ (Ne.symm hq), pm_u_at, pk_us]
theorem mvA_q {W : pm_I} {q m N : Nat} : mvA W q m N q = mv_a (W q) (W 121) m N := by
  unfold mvA
  rw [pm_s_at]
def mv_K5 (W : pm_I) : pm_I := mvK (mvK (mvK (mvK (mvK W 122 0 3) 103 3 24) 104 27 6) 105 33 6) 106 39 43
def mv_A5 (W : pm_I) : pm_I := mvA (mvA (mvA (mvA (mvA W 122 0 3) 103 3 24) 104 27 6) 105 33 6) 106 39 43
theorem mv_0_off {I : pm_I} {a : Nat} (h1 : a ≠ 102) (h2 : a ≠ 122) : mv_0 I a = I a := by
  unfold mv_0
  rw [pm_u_off h2, pm_u_off h2, pm_u_off h2, pm_u_off h1]
theorem mv_0_102 {I : pm_I} {p : Nat} (h : p ≠ 41) : mv_0 I 102 p = I 102 p := by
  unfold mv_0
  rw [pm_u_off (by decide), pm_u_off (by decide), pm_u_off (by decide), pm_u_at, pk_un h]
theorem mv_0_41 {I : pm_I} : mv_0 I 102 41 = nI 0 := by
  unfold mv_0
  rw [pm_u_off (by decide), pm_u_off (by decide), pm_u_off (by decide), pm_u_at, pk_us]
  rfl
theorem mv_0_122 {I : pm_I} : mv_0 I 122 0 = I 102 2 ∧ mv_0 I 122 1 = I 102 1 ∧ mv_0 I 122 2 = I 102 8 := by
  unfold mv_0
  refine ⟨?_, ?_, ?_⟩
  · rw [pm_u_at, pk_un (by decide), pm_u_at, pk_un (by decide), pm_u_at, pk_us]
  · rw [pm_u_at, pk_un (by decide), pm_u_at, pk_us]
  · rw [pm_u_at, pk_us]
/-- what is kept -/
def mv_kept (I I2 : pm_I) : Prop := (∀ a, a ≠ 102 → a ≠ 121 → a ≠ 122 → I2 a = I a) ∧ (∀ p, p ≠ 41 → p ≠ 39 → I2 102 p = I 102 p) ∧ I2 102 39 = 1 ∧ (I2 121 0 = I 102 2 ∧ I2 121 1 = I 102 1 ∧ I2 121 2 = I 102 8) ∧ (∀ h, h < 24 → I2 121 (3 + h) = I 103 h) ∧ (∀ b, b < 6 → I2 121 (27 + b) = I 104 b) ∧ (∀ b, b < 6 → I2 121 (33 + b) = I 105 b) ∧ ∀ k, k < 43 → I2 121 (39 + k) = I 106 k
theorem mv_k_in {f g : Nat → Int32} {m N j : Nat} (h : j < N) : mv_k f g m N (m + j) = g j := by
  unfold mv_k
  rw [if_pos (by omega), show m + j - m = j by omega]
theorem mv_k_out {f g : Nat → Int32} {m N j : Nat} (h : j < m ∨ m + N ≤ j) : mv_k f g m N j = f j := by
  unfold mv_k
  rw [if_neg (by omega)]
theorem mv_kept_of {I : pm_I} : mv_kept I (pm_u (mv_K5 (mv_0 I)) 102 39 1) := by
  have o : ∀ a, a ≠ 102 → a ≠ 121 → mv_K5 (mv_0 I) a = mv_0 I a := by
    intro a h1 h2
    unfold mv_K5
    rw [mvK_off h1 h2, mvK_off h1 h2, mvK_off h1 h2, mvK_off h1 h2, mvK_off h1 h2]
  obtain ⟨s0, s1, s2⟩ := mv_0_122 (I := I)
  refine ⟨fun a h1 h2 h3 => ?_, fun p p1 p2 => ?_, ?_, ⟨?_, ?_, ?_⟩, fun h hh => ?_, fun b hb => ?_, fun b hb => ?_, fun k hk => ?_⟩
  · rw [pm_u_off h1, o a h1 h2, mv_0_off h1 h3]
  · rw [pm_u_at, pk_un p2]
    unfold mv_K5
    rw [mvK_102 p1, mvK_102 p1, mvK_102 p1, mvK_102 p1, mvK_102 p1, mv_0_102 p1]
  · rw [pm_u_at, pk_us]
  all_goals rw [pm_u_off (by decide)]; unfold mv_K5
  · rw [mvK_121, mv_k_out (by omega), mvK_121, mv_k_out (by omega), mvK_121, mv_k_out (by omega), mvK_121, mv_k_out (by omega), mvK_121, show (0 : Nat) = 0 + 0 from rfl, mv_k_in (by omega), s0]
  · rw [mvK_121, mv_k_out (by omega), mvK_121, mv_k_out (by omega), mvK_121, mv_k_out (by omega), mvK_121, mv_k_out (by omega), mvK_121, show (1 : Nat) = 0 + 1 from rfl, mv_k_in (by omega), s1]
  · rw [mvK_121, mv_k_out (by omega), mvK_121, mv_k_out (by omega), mvK_121, mv_k_out (by omega), mvK_121, mv_k_out (by omega), mvK_121, show (2 : Nat) = 0 + 2 from rfl, mv_k_in (by omega), s2]
  · rw [mvK_121, mv_k_out (by omega), mvK_121, mv_k_out (by omega), mvK_121, mv_k_out (by omega), mvK_121, mv_k_in (by omega), mvK_off (by decide) (by decide), mv_0_off (by decide) (by decide)]
  · rw [mvK_121, mv_k_out (by omega), mvK_121, mv_k_out (by omega), mvK_121, mv_k_in (by omega), mvK_off (by decide) (by decide), mvK_off (by decide) (by decide), mv_0_off (by decide) (by decide)]
  · rw [mvK_121, mv_k_out (by omega), mvK_121, mv_k_in (by omega), mvK_off (by decide) (by decide), mvK_off (by decide) (by decide), mvK_off (by decide) (by decide), mv_0_off (by decide) (by decide)]
  · rw [mvK_121, mv_k_in (by omega), mvK_off (by decide) (by decide), mvK_off (by decide) (by decide), mvK_off (by decide) (by decide), mvK_off (by decide) (by decide), mv_0_off (by decide) (by decide)]
/-- what comes back -/
def mv_back (I I2 : pm_I) : Prop := (∀ a, a ≠ 102 → a ≠ 103 → a ≠ 104 → a ≠ 105 → a ≠ 106 → a ≠ 122 → I2 a = I a) ∧ (∀ p, p ≠ 1 → p ≠ 2 → p ≠ 8 → p ≠ 41 → I2 102 p = I 102 p) ∧ (I2 102 2 = I 121 0 ∧ I2 102 1 = I 121 1 ∧ I2 102 8 = I 121 2) ∧ (∀ h, h < 24 → I2 103 h = I 121 (3 + h)) ∧ (∀ b, b < 6 → I2 104 b = I 121 (27 + b)) ∧ (∀ b, b < 6 → I2 105 b = I 121 (33 + b)) ∧ ∀ k, k < 43 → I2 106 k = I 121 (39 + k)
theorem mv_A5_off {W : pm_I} {a : Nat} (h1 : a ≠ 102) (h3 : a ≠ 103) (h4 : a ≠ 104) (h5 : a ≠ 105) (h6 : a ≠ 106) (h7 : a ≠ 122) : mv_A5 W a = W a := by
  unfold mv_A5
  rw [mvA_off h1 h6, mvA_off h1 h5, mvA_off h1 h4, mvA_off h1 h3, mvA_off h1 h7]
theorem mv_A5_102 {W : pm_I} {p : Nat} (h : p ≠ 41) : mv_A5 W 102 p = W 102 p := by
  unfold mv_A5
  rw [mvA_102 (by decide) h, mvA_102 (by decide) h, mvA_102 (by decide) h, mvA_102 (by decide) h, mvA_102 (by decide) h]
theorem mv_a_in {f g : Nat → Int32} {m N j : Nat} (h : j < N) : mv_a f g m N j = g (m + j) := if_pos h
theorem mv_A5_rows {W : pm_I} : (∀ k, k < 3 → mv_A5 W 122 k = W 121 (0 + k)) ∧ (∀ h, h < 24 → mv_A5 W 103 h = W 121 (3 + h)) ∧ (∀ b, b < 6 → mv_A5 W 104 b = W 121 (27 + b)) ∧ (∀ b, b < 6 → mv_A5 W 105 b = W 121 (33 + b)) ∧ ∀ k, k < 43 → mv_A5 W 106 k = W 121 (39 + k) := by
  unfold mv_A5
  refine ⟨fun k hk => ?_, fun k hk => ?_, fun k hk => ?_, fun k hk => ?_, fun k hk => ?_⟩
  · rw [mvA_off (by decide) (by decide), mvA_off (by decide) (by decide), mvA_off (by decide) (by decide), mvA_off (by decide) (by decide), mvA_q, mv_a_in hk]
  · rw [mvA_off (by decide) (by decide), mvA_off (by decide) (by decide), mvA_off (by decide) (by decide), mvA_q, mv_a_in hk, mvA_off (by decide) (by decide)]
  · rw [mvA_off (by decide) (by decide), mvA_off (by decide) (by decide), mvA_q, mv_a_in hk, mvA_off (by decide) (by decide), mvA_off (by decide) (by decide)]
  · rw [mvA_off (by decide) (by decide), mvA_q, mv_a_in hk, mvA_off (by decide) (by decide), mvA_off (by decide) (by decide), mvA_off (by decide) (by decide)]
  · rw [mvA_q, mv_a_in hk, mvA_off (by decide) (by decide), mvA_off (by decide) (by decide), mvA_off (by decide) (by decide), mvA_off (by decide) (by decide)]
def mv_fin (W : pm_I) : pm_I := pm_u (pm_u (pm_u W 102 2 (W 122 0)) 102 1 (W 122 1)) 102 8 (W 122 2)
theorem mv_back_of {I : pm_I} : mv_back I (mv_fin (mv_A5 (mv_0 I))) := by
  obtain ⟨r0, r1, r2, r3, r4⟩ := mv_A5_rows (W := mv_0 I)
  have e121 : mv_0 I 121 = I 121 := mv_0_off (by decide) (by decide)
  rw [e121] at r0 r1 r2 r3 r4
  unfold mv_fin
  refine ⟨fun a h1 h3 h4 h5 h6 h7 => ?_, fun p p1 p2 p3 p4 => ?_, ⟨?_, ?_, ?_⟩, fun h hh => ?_, fun b hb => ?_, fun b hb => ?_, fun k hk => ?_⟩
  · rw [pm_u_off h1, pm_u_off h1, pm_u_off h1, mv_A5_off h1 h3 h4 h5 h6 h7, mv_0_off h1 h7]
  · rw [pm_u_at, pk_un p3, pm_u_at, pk_un p1, pm_u_at, pk_un p2, mv_A5_102 p4, mv_0_102 p4]
  · rw [pm_u_at, pk_un (by decide), pm_u_at, pk_un (by decide), pm_u_at, pk_us, r0 0 (by decide)]
  · rw [pm_u_at, pk_un (by decide), pm_u_at, pk_us, r0 1 (by decide)]
  · rw [pm_u_at, pk_us, r0 2 (by decide)]
  · rw [pm_u_off (by decide), pm_u_off (by decide), pm_u_off (by decide), r1 h hh]
  · rw [pm_u_off (by decide), pm_u_off (by decide), pm_u_off (by decide), r2 b hb]
  · rw [pm_u_off (by decide), pm_u_off (by decide), pm_u_off (by decide), r3 b hb]
  · rw [pm_u_off (by decide), pm_u_off (by decide), pm_u_off (by decide), r4 k hk]
set_option maxHeartbeats 4000000 in
set_option maxRecDepth 100000 in
theorem c_X8_moveK {d : Nat} {I : pm_I} {J : pm_J} {q M m N : Nat} (hq : SHP[q]? = some (.inl (0, M))) (hM : M ≤ 100000) (hN : N ≤ M) (hm : I 102 41 = nI m) (hmN : m + N ≤ 90) (q1 : q ≠ 102) (q2 : q ≠ 121)  : pm_M d 0 0 yX8_moveRow cX8_moveRow 5 (none : Option Jvm.ClassFile.FieldType) [.ref 102, .ref q, .int (nI N), .int 1] SHP I J (pm_D none SHP (mvK I q m N) J) := by
  refine pm_start (own := RX8) (nm := "moveRow") (by decide) rfl rfl (L := [(0, .ref 102), (1, .ref q), (2, .int (nI N)), (3, .int 1)]) rfl (Nat.le_of_ble_eq_true rfl) (fun Γ C C2 => ?_)
  have hloop : ∀ j, j ≤ N → pm_G Γ 0 0 3 [(0, .ref 102), (1, .ref q), (2, .int (nI N)), (3, .int 1), (4, .int (nI j))] [] SHP (mvK I q m j) J := by
    refine pm_up (fun j => pm_G Γ 0 0 3 [(0, .ref 102), (1, .ref q), (2, .int (nI N)), (3, .int 1), (4, .int (nI j))] [] SHP (mvK I q m j) J) N (fun j hj ih => ?_)
    refine g_iload (pc := 3) (j := 4) C dX8_moveRow_3 rfl ?_
    refine g_iload_n (pc := 5) (i := 2) (j := 2) C dX8_moveRow_5 rfl rfl ?_
    refine g_icmp_ge (pc := 6) (tgt := 58) C dX8_moveRow_6 (by decide) (fun h6 => ?_) (fun h6 => ?_)
    · have ej : j = N := by (try rw [hn] at h6); have := (nI_leI (a := N) (b := j) (by omega) (by omega)).mp h6; omega
      subst ej
      refine g_vret (pc := 58) C C2 dX8_moveRow_58 (Nat.le_refl _) (Nat.le_refl _) ?_
      exact ⟨rfl, rfl, rfl, rfl⟩
    · have hlt : j < N := by (try rw [hn] at h6); exact Nat.lt_of_not_le (fun q => h6 ((nI_leI (a := N) (b := j) (by omega) (by omega)).mpr q))
      have e41 : (mvK I q m j) 102 41 = nI (m + j) := mvK_41
      refine g_iload_n (pc := 9) (i := 3) (j := 3) C dX8_moveRow_9 rfl rfl ?_
      refine g_if_eq (pc := 10) (tgt := 29) C dX8_moveRow_10 (by decide) (fun h10 => absurd h10 (by decide)) (fun h10 => ?_)
      refine g_aload_n (pc := 13) (i := 0) (j := 0) C dX8_moveRow_13 rfl rfl ?_
      refine g_getR (pc := 14) C dX8_moveRow_14 lfX8_72 (by first | rfl | assumption) rfl ?_
      refine g_aload_n (pc := 17) (i := 0) (j := 0) C dX8_moveRow_17 rfl rfl ?_
      refine g_getI (pc := 18) C dX8_moveRow_18 lfX8_388 (by first | rfl | assumption) rfl ?_
      refine g_aload_n (pc := 21) (i := 1) (j := 1) C dX8_moveRow_21 rfl rfl ?_
      refine g_iload (pc := 22) (j := 4) C dX8_moveRow_22 rfl ?_
      refine g_iald (pc := 24) (j := j) C dX8_moveRow_24 hq hM rfl (by omega) ?_
      refine g_iast (pc := 25) (j := m + j) C dX8_moveRow_25 (by first | rfl | assumption) (by decide) e41 (by omega) ?_
      refine g_goto (pc := 26) (tgt := 42) C dX8_moveRow_26 (by decide) ?_
      refine g_aload_n (pc := 42) (i := 0) (j := 0) C dX8_moveRow_42 rfl rfl ?_
      refine g_dup (pc := 43) C dX8_moveRow_43 rfl ?_
      refine g_getI (pc := 44) C dX8_moveRow_44 lfX8_388 (by first | rfl | assumption) rfl ?_
      refine g_iconst (pc := 47) (v := 1) C dX8_moveRow_47 (by decide) ?_
      refine g_iadd (pc := 48) C dX8_moveRow_48 ?_
      refine g_putI (pc := 49) C dX8_moveRow_49 lpX8_388 rfl rfl (by first | rfl | assumption) rfl ?_
      refine g_iinc (pc := 52) (j := 4) (v := _ + 1) (L2 := [(0, _), (1, _), (2, _), (3, _), (4, _)]) C dX8_moveRow_52 rfl rfl (by decide) rfl ?_
      refine g_goto (pc := 55) (tgt := 3) C dX8_moveRow_55 (by decide) ?_
      refine pm_Geq (ih hlt) (by simp only [nI_1]) rfl ?_ rfl
      rw [show mvK I q m j q = I q from mvK_off q1 q2, pm_u_off (show (102 : Nat) ≠ 121 by decide), e41]
      unfold mvK
      funext a
      by_cases e : a = 121
      · subst e; rw [pm_u_off (by decide), pm_u_at, pm_s_at, pm_s_at]; funext k; unfold mv_k upd; have ek : m + j - m = j := by omega
        grind
      · rw [pm_s_off _ _ _ _ e]
        by_cases e2 : a = 102
        · subst e2; rw [pm_u_at, pm_u_off (by decide), pm_s_off _ _ _ _ (by decide), pm_u_at, pm_u_at]; funext k; unfold upd; rw [show nI (m + j) + 1 = nI (m + (j + 1)) by rw [nI_1]; rfl]; grind
        · rw [pm_u_off e2, pm_u_off e, pm_s_off _ _ _ _ e, pm_u_off e2, pm_u_off e2]
  refine g_iconst (pc := 0) (v := 0) C dX8_moveRow_0 (by decide) ?_
  refine g_istore (pc := 1) (L2 := [(0, _), (1, _), (2, _), (3, _), (4, _)]) C dX8_moveRow_1 (by decide) rfl ?_
  refine pm_Geq (hloop 0 (Nat.zero_le _)) rfl rfl ?_ rfl
  unfold mvK
  funext a
  by_cases e : a = 121
  · subst e; rw [pm_s_at]; funext k; unfold mv_k; rw [if_neg (by omega)]
  · rw [pm_s_off _ _ _ _ e]
    by_cases e2 : a = 102
    · subst e2; rw [pm_u_at, Nat.add_zero, ← hm]; funext k; unfold upd; split
      · next z => rw [z]
      · rfl
    · rw [pm_u_off e2]

set_option maxHeartbeats 4000000 in
set_option maxRecDepth 100000 in
theorem c_X8_moveA {d : Nat} {I : pm_I} {J : pm_J} {q M m N : Nat} (hq : SHP[q]? = some (.inl (0, M))) (hM : M ≤ 100000) (hN : N ≤ M) (hm : I 102 41 = nI m) (hmN : m + N ≤ 90) (q1 : q ≠ 102) (q2 : q ≠ 121)  : pm_M d 0 0 yX8_moveRow cX8_moveRow 5 (none : Option Jvm.ClassFile.FieldType) [.ref 102, .ref q, .int (nI N), .int 0] SHP I J (pm_D none SHP (mvA I q m N) J) := by
  refine pm_start (own := RX8) (nm := "moveRow") (by decide) rfl rfl (L := [(0, .ref 102), (1, .ref q), (2, .int (nI N)), (3, .int 0)]) rfl (Nat.le_of_ble_eq_true rfl) (fun Γ C C2 => ?_)
  have hloop : ∀ j, j ≤ N → pm_G Γ 0 0 3 [(0, .ref 102), (1, .ref q), (2, .int (nI N)), (3, .int 0), (4, .int (nI j))] [] SHP (mvA I q m j) J := by
    refine pm_up (fun j => pm_G Γ 0 0 3 [(0, .ref 102), (1, .ref q), (2, .int (nI N)), (3, .int 0), (4, .int (nI j))] [] SHP (mvA I q m j) J) N (fun j hj ih => ?_)
    refine g_iload (pc := 3) (j := 4) C dX8_moveRow_3 rfl ?_
    refine g_iload_n (pc := 5) (i := 2) (j := 2) C dX8_moveRow_5 rfl rfl ?_
    refine g_icmp_ge (pc := 6) (tgt := 58) C dX8_moveRow_6 (by decide) (fun h6 => ?_) (fun h6 => ?_)
    · have ej : j = N := by (try rw [hn] at h6); have := (nI_leI (a := N) (b := j) (by omega) (by omega)).mp h6; omega
      subst ej
      refine g_vret (pc := 58) C C2 dX8_moveRow_58 (Nat.le_refl _) (Nat.le_refl _) ?_
      exact ⟨rfl, rfl, rfl, rfl⟩
    · have hlt : j < N := by (try rw [hn] at h6); exact Nat.lt_of_not_le (fun q => h6 ((nI_leI (a := N) (b := j) (by omega) (by omega)).mpr q))
      have e41 : (mvA I q m j) 102 41 = nI (m + j) := mvA_41 q1
      refine g_iload_n (pc := 9) (i := 3) (j := 3) C dX8_moveRow_9 rfl rfl ?_
      refine g_if_eq (pc := 10) (tgt := 29) C dX8_moveRow_10 (by decide) (fun h10 => ?_) (fun h10 => absurd (by decide : (0 : Int32) = 0) h10)
      refine g_aload_n (pc := 29) (i := 1) (j := 1) C dX8_moveRow_29 rfl rfl ?_
      refine g_iload (pc := 30) (j := 4) C dX8_moveRow_30 rfl ?_
      refine g_aload_n (pc := 32) (i := 0) (j := 0) C dX8_moveRow_32 rfl rfl ?_
      refine g_getR (pc := 33) C dX8_moveRow_33 lfX8_72 (by first | rfl | assumption) rfl ?_
      refine g_aload_n (pc := 36) (i := 0) (j := 0) C dX8_moveRow_36 rfl rfl ?_
      refine g_getI (pc := 37) C dX8_moveRow_37 lfX8_388 (by first | rfl | assumption) rfl ?_
      refine g_iald (pc := 40) (j := m + j) C dX8_moveRow_40 (by first | rfl | assumption) (by decide) e41 (by omega) ?_
      refine g_iast (pc := 41) (j := j) C dX8_moveRow_41 hq hM rfl (by omega) ?_
      refine g_aload_n (pc := 42) (i := 0) (j := 0) C dX8_moveRow_42 rfl rfl ?_
      refine g_dup (pc := 43) C dX8_moveRow_43 rfl ?_
      refine g_getI (pc := 44) C dX8_moveRow_44 lfX8_388 (by first | rfl | assumption) rfl ?_
      refine g_iconst (pc := 47) (v := 1) C dX8_moveRow_47 (by decide) ?_
      refine g_iadd (pc := 48) C dX8_moveRow_48 ?_
      refine g_putI (pc := 49) C dX8_moveRow_49 lpX8_388 rfl rfl (by first | rfl | assumption) rfl ?_
      refine g_iinc (pc := 52) (j := 4) (v := _ + 1) (L2 := [(0, _), (1, _), (2, _), (3, _), (4, _)]) C dX8_moveRow_52 rfl rfl (by decide) rfl ?_
      refine g_goto (pc := 55) (tgt := 3) C dX8_moveRow_55 (by decide) ?_
      refine pm_Geq (ih hlt) (by simp only [nI_1]) rfl ?_ rfl
      rw [show mvA I q m j 121 = I 121 from mvA_off (by decide) (Ne.symm q2), pm_u_off (show (102 : Nat) ≠ q from Ne.symm q1), e41]
      unfold mvA
      funext a
      by_cases e : a = q
      · subst e; rw [pm_u_off q1, pm_u_at, pm_s_at, pm_s_at]; funext k; unfold mv_a upd; grind
      · rw [pm_s_off _ _ _ _ e]
        by_cases e2 : a = 102
        · subst e2; rw [pm_u_at, pm_u_off e, pm_s_off _ _ _ _ e, pm_u_at, pm_u_at]; funext k; unfold upd; rw [show nI (m + j) + 1 = nI (m + (j + 1)) by rw [nI_1]; rfl]; grind
        · rw [pm_u_off e2, pm_u_off e, pm_s_off _ _ _ _ e, pm_u_off e2, pm_u_off e2]
  refine g_iconst (pc := 0) (v := 0) C dX8_moveRow_0 (by decide) ?_
  refine g_istore (pc := 1) (L2 := [(0, _), (1, _), (2, _), (3, _), (4, _)]) C dX8_moveRow_1 (by decide) rfl ?_
  refine pm_Geq (hloop 0 (Nat.zero_le _)) rfl rfl ?_ rfl
  unfold mvA
  funext a
  by_cases e : a = q
  · subst e; rw [pm_s_at]; funext k; unfold mv_a; rw [if_neg (by omega)]
  · rw [pm_s_off _ _ _ _ e]
    by_cases e2 : a = 102
    · subst e2; rw [pm_u_at, Nat.add_zero, ← hm]; funext k; unfold upd; split
      · next z => rw [z]
      · rfl
    · rw [pm_u_off e2]

set_option maxHeartbeats 4000000 in
set_option maxRecDepth 100000 in
theorem c_X8_moveAllK {d : Nat} {I : pm_I} {J : pm_J} : pm_M (d + 1) 0 0 yX8_moveAll cX8_moveAll 2 (none : Option Jvm.ClassFile.FieldType) [.ref 102, .int 1] SHP I J (pm_D none SHP (mv_K5 (mv_0 I)) J) := by
  refine pm_start (own := RX8) (nm := "moveAll") (by decide) rfl rfl (L := [(0, .ref 102), (1, .int 1)]) rfl (Nat.le_of_ble_eq_true rfl) (fun Γ C C2 => ?_)
  refine g_aload_n (pc := 0) (i := 0) (j := 0) C dX8_moveAll_0 rfl rfl ?_
  refine g_iconst (pc := 1) (v := 0) C dX8_moveAll_1 (by decide) ?_
  refine g_putI (pc := 2) C dX8_moveAll_2 lpX8_388 rfl rfl (by first | rfl | assumption) rfl ?_
  refine g_aload_n (pc := 5) (i := 0) (j := 0) C dX8_moveAll_5 rfl rfl ?_
  refine g_getR (pc := 6) C dX8_moveAll_6 lfX8_75 (by first | rfl | assumption) rfl ?_
  refine g_iconst (pc := 9) (v := 0) C dX8_moveAll_9 (by decide) ?_
  refine g_aload_n (pc := 10) (i := 0) (j := 0) C dX8_moveAll_10 rfl rfl ?_
  refine g_getI (pc := 11) C dX8_moveAll_11 lfX8_82 (by first | rfl | assumption) rfl ?_
  refine g_iast (pc := 14) C dX8_moveAll_14 (by first | rfl | assumption) (by decide) (by first | rfl | assumption) (by first | assumption | decide | omega) ?_
  refine g_aload_n (pc := 15) (i := 0) (j := 0) C dX8_moveAll_15 rfl rfl ?_
  refine g_getR (pc := 16) C dX8_moveAll_16 lfX8_75 (by first | rfl | assumption) rfl ?_
  refine g_iconst (pc := 19) (v := 1) C dX8_moveAll_19 (by decide) ?_
  refine g_aload_n (pc := 20) (i := 0) (j := 0) C dX8_moveAll_20 rfl rfl ?_
  refine g_getI (pc := 21) C dX8_moveAll_21 lfX8_13 (by first | rfl | assumption) rfl ?_
  refine g_iast (pc := 24) C dX8_moveAll_24 (by first | rfl | assumption) (by decide) (by first | rfl | assumption) (by first | assumption | decide | omega) ?_
  refine g_aload_n (pc := 25) (i := 0) (j := 0) C dX8_moveAll_25 rfl rfl ?_
  refine g_getR (pc := 26) C dX8_moveAll_26 lfX8_75 (by first | rfl | assumption) rfl ?_
  refine g_iconst (pc := 29) (v := 2) C dX8_moveAll_29 (by decide) ?_
  refine g_aload_n (pc := 30) (i := 0) (j := 0) C dX8_moveAll_30 rfl rfl ?_
  refine g_getI (pc := 31) C dX8_moveAll_31 lfX8_26 (by first | rfl | assumption) rfl ?_
  refine g_iast (pc := 34) C dX8_moveAll_34 (by first | rfl | assumption) (by decide) (by first | rfl | assumption) (by first | assumption | decide | omega) ?_
  refine pm_Geq (I := mv_0 I) ?_ rfl rfl ?_ rfl
  rotate_left
  · unfold mv_0
    simp only [pm_u_off (show (102 : Nat) ≠ 122 by decide), pm_u_at, pk_un (show (2 : Nat) ≠ 41 by decide), pk_un (show (1 : Nat) ≠ 41 by decide), pk_un (show (8 : Nat) ≠ 41 by decide)]
  refine g_aload_n (pc := 35) (i := 0) (j := 0) C dX8_moveAll_35 rfl rfl ?_
  refine g_aload_n (pc := 36) (i := 0) (j := 0) C dX8_moveAll_36 rfl rfl ?_
  refine g_getR (pc := 37) C dX8_moveAll_37 lfX8_75 (by first | rfl | assumption) rfl ?_
  refine g_iconst (pc := 40) (v := 3) C dX8_moveAll_40 (by decide) ?_
  refine g_iload_n (pc := 41) (i := 1) (j := 1) C dX8_moveAll_41 rfl rfl ?_
  refine g_callV (pc := 42) C dX8_moveAll_42 lmX8_391 kcX8_moveRow (by decide) (by first | rfl | assumption) (c_X8_moveK (q := 122) (M := 3) (m := 0) (N := 3) rfl (by decide) (by decide) mv_0_41 (by decide) (by decide) (by decide)) rfl rfl (Nat.le_of_ble_eq_true rfl) ?_
  intro r9 sh9 I9 J9 hD9; obtain ⟨rfl, rfl, rfl, rfl⟩ := pm_Dq hD9; clear hD9
  try simp only [Option.toList_some, Option.toList_none, List.cons_append, List.nil_append]
  refine g_aload_n (pc := 45) (i := 0) (j := 0) C dX8_moveAll_45 rfl rfl ?_
  refine g_aload_n (pc := 46) (i := 0) (j := 0) C dX8_moveAll_46 rfl rfl ?_
  refine g_getR (pc := 47) C dX8_moveAll_47 lfX8_7 (by first | rfl | assumption) rfl ?_
  refine g_bipush (pc := 50) (v := 24) C dX8_moveAll_50 (by decide) ?_
  refine g_iload_n (pc := 52) (i := 1) (j := 1) C dX8_moveAll_52 rfl rfl ?_
  refine g_callV (pc := 53) C dX8_moveAll_53 lmX8_391 kcX8_moveRow (by decide) (by first | rfl | assumption) (c_X8_moveK (q := 103) (M := 24) (m := 3) (N := 24) rfl (by decide) (by decide) mvK_41 (by decide) (by decide) (by decide)) rfl rfl (Nat.le_of_ble_eq_true rfl) ?_
  intro r9 sh9 I9 J9 hD9; obtain ⟨rfl, rfl, rfl, rfl⟩ := pm_Dq hD9; clear hD9
  try simp only [Option.toList_some, Option.toList_none, List.cons_append, List.nil_append]
  refine g_aload_n (pc := 56) (i := 0) (j := 0) C dX8_moveAll_56 rfl rfl ?_
  refine g_aload_n (pc := 57) (i := 0) (j := 0) C dX8_moveAll_57 rfl rfl ?_
  refine g_getR (pc := 58) C dX8_moveAll_58 lfX8_17 (by first | rfl | assumption) rfl ?_
  refine g_bipush (pc := 61) (v := 6) C dX8_moveAll_61 (by decide) ?_
  refine g_iload_n (pc := 63) (i := 1) (j := 1) C dX8_moveAll_63 rfl rfl ?_
  refine g_callV (pc := 64) C dX8_moveAll_64 lmX8_391 kcX8_moveRow (by decide) (by first | rfl | assumption) (c_X8_moveK (q := 104) (M := 6) (m := 27) (N := 6) rfl (by decide) (by decide) mvK_41 (by decide) (by decide) (by decide)) rfl rfl (Nat.le_of_ble_eq_true rfl) ?_
  intro r9 sh9 I9 J9 hD9; obtain ⟨rfl, rfl, rfl, rfl⟩ := pm_Dq hD9; clear hD9
  try simp only [Option.toList_some, Option.toList_none, List.cons_append, List.nil_append]
  refine g_aload_n (pc := 67) (i := 0) (j := 0) C dX8_moveAll_67 rfl rfl ?_
  refine g_aload_n (pc := 68) (i := 0) (j := 0) C dX8_moveAll_68 rfl rfl ?_
  refine g_getR (pc := 69) C dX8_moveAll_69 lfX8_20 (by first | rfl | assumption) rfl ?_
  refine g_bipush (pc := 72) (v := 6) C dX8_moveAll_72 (by decide) ?_
  refine g_iload_n (pc := 74) (i := 1) (j := 1) C dX8_moveAll_74 rfl rfl ?_
  refine g_callV (pc := 75) C dX8_moveAll_75 lmX8_391 kcX8_moveRow (by decide) (by first | rfl | assumption) (c_X8_moveK (q := 105) (M := 6) (m := 33) (N := 6) rfl (by decide) (by decide) mvK_41 (by decide) (by decide) (by decide)) rfl rfl (Nat.le_of_ble_eq_true rfl) ?_
  intro r9 sh9 I9 J9 hD9; obtain ⟨rfl, rfl, rfl, rfl⟩ := pm_Dq hD9; clear hD9
  try simp only [Option.toList_some, Option.toList_none, List.cons_append, List.nil_append]
  refine g_aload_n (pc := 78) (i := 0) (j := 0) C dX8_moveAll_78 rfl rfl ?_
  refine g_aload_n (pc := 79) (i := 0) (j := 0) C dX8_moveAll_79 rfl rfl ?_
  refine g_getR (pc := 80) C dX8_moveAll_80 lfX8_23 (by first | rfl | assumption) rfl ?_
  refine g_bipush (pc := 83) (v := 43) C dX8_moveAll_83 (by decide) ?_
  refine g_iload_n (pc := 85) (i := 1) (j := 1) C dX8_moveAll_85 rfl rfl ?_
  refine g_callV (pc := 86) C dX8_moveAll_86 lmX8_391 kcX8_moveRow (by decide) (by first | rfl | assumption) (c_X8_moveK (q := 106) (M := 86) (m := 39) (N := 43) rfl (by decide) (by decide) mvK_41 (by decide) (by decide) (by decide)) rfl rfl (Nat.le_of_ble_eq_true rfl) ?_
  intro r9 sh9 I9 J9 hD9; obtain ⟨rfl, rfl, rfl, rfl⟩ := pm_Dq hD9; clear hD9
  try simp only [Option.toList_some, Option.toList_none, List.cons_append, List.nil_append]
  refine g_vret (pc := 89) C C2 dX8_moveAll_89 (Nat.le_refl _) (Nat.le_refl _) ?_
  exact ⟨rfl, rfl, rfl, rfl⟩

set_option maxHeartbeats 4000000 in
set_option maxRecDepth 100000 in
theorem c_X8_moveAllA {d : Nat} {I : pm_I} {J : pm_J} : pm_M (d + 1) 0 0 yX8_moveAll cX8_moveAll 2 (none : Option Jvm.ClassFile.FieldType) [.ref 102, .int 0] SHP I J (pm_D none SHP (mv_A5 (mv_0 I)) J) := by
  refine pm_start (own := RX8) (nm := "moveAll") (by decide) rfl rfl (L := [(0, .ref 102), (1, .int 0)]) rfl (Nat.le_of_ble_eq_true rfl) (fun Γ C C2 => ?_)
  refine g_aload_n (pc := 0) (i := 0) (j := 0) C dX8_moveAll_0 rfl rfl ?_
  refine g_iconst (pc := 1) (v := 0) C dX8_moveAll_1 (by decide) ?_
  refine g_putI (pc := 2) C dX8_moveAll_2 lpX8_388 rfl rfl (by first | rfl | assumption) rfl ?_
  refine g_aload_n (pc := 5) (i := 0) (j := 0) C dX8_moveAll_5 rfl rfl ?_
  refine g_getR (pc := 6) C dX8_moveAll_6 lfX8_75 (by first | rfl | assumption) rfl ?_
  refine g_iconst (pc := 9) (v := 0) C dX8_moveAll_9 (by decide) ?_
  refine g_aload_n (pc := 10) (i := 0) (j := 0) C dX8_moveAll_10 rfl rfl ?_
  refine g_getI (pc := 11) C dX8_moveAll_11 lfX8_82 (by first | rfl | assumption) rfl ?_
  refine g_iast (pc := 14) C dX8_moveAll_14 (by first | rfl | assumption) (by decide) (by first | rfl | assumption) (by first | assumption | decide | omega) ?_
  refine g_aload_n (pc := 15) (i := 0) (j := 0) C dX8_moveAll_15 rfl rfl ?_
  refine g_getR (pc := 16) C dX8_moveAll_16 lfX8_75 (by first | rfl | assumption) rfl ?_
  refine g_iconst (pc := 19) (v := 1) C dX8_moveAll_19 (by decide) ?_
  refine g_aload_n (pc := 20) (i := 0) (j := 0) C dX8_moveAll_20 rfl rfl ?_
  refine g_getI (pc := 21) C dX8_moveAll_21 lfX8_13 (by first | rfl | assumption) rfl ?_
  refine g_iast (pc := 24) C dX8_moveAll_24 (by first | rfl | assumption) (by decide) (by first | rfl | assumption) (by first | assumption | decide | omega) ?_
  refine g_aload_n (pc := 25) (i := 0) (j := 0) C dX8_moveAll_25 rfl rfl ?_
  refine g_getR (pc := 26) C dX8_moveAll_26 lfX8_75 (by first | rfl | assumption) rfl ?_
  refine g_iconst (pc := 29) (v := 2) C dX8_moveAll_29 (by decide) ?_
  refine g_aload_n (pc := 30) (i := 0) (j := 0) C dX8_moveAll_30 rfl rfl ?_
  refine g_getI (pc := 31) C dX8_moveAll_31 lfX8_26 (by first | rfl | assumption) rfl ?_
  refine g_iast (pc := 34) C dX8_moveAll_34 (by first | rfl | assumption) (by decide) (by first | rfl | assumption) (by first | assumption | decide | omega) ?_
  refine pm_Geq (I := mv_0 I) ?_ rfl rfl ?_ rfl
  rotate_left
  · unfold mv_0
    simp only [pm_u_off (show (102 : Nat) ≠ 122 by decide), pm_u_at, pk_un (show (2 : Nat) ≠ 41 by decide), pk_un (show (1 : Nat) ≠ 41 by decide), pk_un (show (8 : Nat) ≠ 41 by decide)]
  refine g_aload_n (pc := 35) (i := 0) (j := 0) C dX8_moveAll_35 rfl rfl ?_
  refine g_aload_n (pc := 36) (i := 0) (j := 0) C dX8_moveAll_36 rfl rfl ?_
  refine g_getR (pc := 37) C dX8_moveAll_37 lfX8_75 (by first | rfl | assumption) rfl ?_
  refine g_iconst (pc := 40) (v := 3) C dX8_moveAll_40 (by decide) ?_
  refine g_iload_n (pc := 41) (i := 1) (j := 1) C dX8_moveAll_41 rfl rfl ?_
  refine g_callV (pc := 42) C dX8_moveAll_42 lmX8_391 kcX8_moveRow (by decide) (by first | rfl | assumption) (c_X8_moveA (q := 122) (M := 3) (m := 0) (N := 3) rfl (by decide) (by decide) mv_0_41 (by decide) (by decide) (by decide)) rfl rfl (Nat.le_of_ble_eq_true rfl) ?_
  intro r9 sh9 I9 J9 hD9; obtain ⟨rfl, rfl, rfl, rfl⟩ := pm_Dq hD9; clear hD9
  try simp only [Option.toList_some, Option.toList_none, List.cons_append, List.nil_append]
  refine g_aload_n (pc := 45) (i := 0) (j := 0) C dX8_moveAll_45 rfl rfl ?_
  refine g_aload_n (pc := 46) (i := 0) (j := 0) C dX8_moveAll_46 rfl rfl ?_
  refine g_getR (pc := 47) C dX8_moveAll_47 lfX8_7 (by first | rfl | assumption) rfl ?_
  refine g_bipush (pc := 50) (v := 24) C dX8_moveAll_50 (by decide) ?_
  refine g_iload_n (pc := 52) (i := 1) (j := 1) C dX8_moveAll_52 rfl rfl ?_
  refine g_callV (pc := 53) C dX8_moveAll_53 lmX8_391 kcX8_moveRow (by decide) (by first | rfl | assumption) (c_X8_moveA (q := 103) (M := 24) (m := 3) (N := 24) rfl (by decide) (by decide) (mvA_41 (by decide)) (by decide) (by decide) (by decide)) rfl rfl (Nat.le_of_ble_eq_true rfl) ?_
  intro r9 sh9 I9 J9 hD9; obtain ⟨rfl, rfl, rfl, rfl⟩ := pm_Dq hD9; clear hD9
  try simp only [Option.toList_some, Option.toList_none, List.cons_append, List.nil_append]
  refine g_aload_n (pc := 56) (i := 0) (j := 0) C dX8_moveAll_56 rfl rfl ?_
  refine g_aload_n (pc := 57) (i := 0) (j := 0) C dX8_moveAll_57 rfl rfl ?_
  refine g_getR (pc := 58) C dX8_moveAll_58 lfX8_17 (by first | rfl | assumption) rfl ?_
  refine g_bipush (pc := 61) (v := 6) C dX8_moveAll_61 (by decide) ?_
  refine g_iload_n (pc := 63) (i := 1) (j := 1) C dX8_moveAll_63 rfl rfl ?_
  refine g_callV (pc := 64) C dX8_moveAll_64 lmX8_391 kcX8_moveRow (by decide) (by first | rfl | assumption) (c_X8_moveA (q := 104) (M := 6) (m := 27) (N := 6) rfl (by decide) (by decide) (mvA_41 (by decide)) (by decide) (by decide) (by decide)) rfl rfl (Nat.le_of_ble_eq_true rfl) ?_
  intro r9 sh9 I9 J9 hD9; obtain ⟨rfl, rfl, rfl, rfl⟩ := pm_Dq hD9; clear hD9
  try simp only [Option.toList_some, Option.toList_none, List.cons_append, List.nil_append]
  refine g_aload_n (pc := 67) (i := 0) (j := 0) C dX8_moveAll_67 rfl rfl ?_
  refine g_aload_n (pc := 68) (i := 0) (j := 0) C dX8_moveAll_68 rfl rfl ?_
  refine g_getR (pc := 69) C dX8_moveAll_69 lfX8_20 (by first | rfl | assumption) rfl ?_
  refine g_bipush (pc := 72) (v := 6) C dX8_moveAll_72 (by decide) ?_
  refine g_iload_n (pc := 74) (i := 1) (j := 1) C dX8_moveAll_74 rfl rfl ?_
  refine g_callV (pc := 75) C dX8_moveAll_75 lmX8_391 kcX8_moveRow (by decide) (by first | rfl | assumption) (c_X8_moveA (q := 105) (M := 6) (m := 33) (N := 6) rfl (by decide) (by decide) (mvA_41 (by decide)) (by decide) (by decide) (by decide)) rfl rfl (Nat.le_of_ble_eq_true rfl) ?_
  intro r9 sh9 I9 J9 hD9; obtain ⟨rfl, rfl, rfl, rfl⟩ := pm_Dq hD9; clear hD9
  try simp only [Option.toList_some, Option.toList_none, List.cons_append, List.nil_append]
  refine g_aload_n (pc := 78) (i := 0) (j := 0) C dX8_moveAll_78 rfl rfl ?_
  refine g_aload_n (pc := 79) (i := 0) (j := 0) C dX8_moveAll_79 rfl rfl ?_
  refine g_getR (pc := 80) C dX8_moveAll_80 lfX8_23 (by first | rfl | assumption) rfl ?_
  refine g_bipush (pc := 83) (v := 43) C dX8_moveAll_83 (by decide) ?_
  refine g_iload_n (pc := 85) (i := 1) (j := 1) C dX8_moveAll_85 rfl rfl ?_
  refine g_callV (pc := 86) C dX8_moveAll_86 lmX8_391 kcX8_moveRow (by decide) (by first | rfl | assumption) (c_X8_moveA (q := 106) (M := 86) (m := 39) (N := 43) rfl (by decide) (by decide) (mvA_41 (by decide)) (by decide) (by decide) (by decide)) rfl rfl (Nat.le_of_ble_eq_true rfl) ?_
  intro r9 sh9 I9 J9 hD9; obtain ⟨rfl, rfl, rfl, rfl⟩ := pm_Dq hD9; clear hD9
  try simp only [Option.toList_some, Option.toList_none, List.cons_append, List.nil_append]
  refine g_vret (pc := 89) C C2 dX8_moveAll_89 (Nat.le_refl _) (Nat.le_refl _) ?_
  exact ⟨rfl, rfl, rfl, rfl⟩

set_option maxHeartbeats 4000000 in
set_option maxRecDepth 100000 in
theorem c_X8_keep {d : Nat} {I : pm_I} {J : pm_J} : pm_M (d + 2) 0 0 yX8_keep cX8_keep 1 (some .int) [.ref 102] SHP I J (fun r sh2 I2 J2 => r = some (.int 1) ∧ sh2 = SHP ∧ J2 = J ∧ mv_kept I I2) := by
  refine pm_start (own := RX8) (nm := "keep") (by decide) rfl rfl (L := [(0, .ref 102)]) rfl (Nat.le_of_ble_eq_true rfl) (fun Γ C C2 => ?_)
  refine g_aload_n (pc := 0) (i := 0) (j := 0) C dX8_keep_0 rfl rfl ?_
  refine g_iconst (pc := 1) (v := 1) C dX8_keep_1 (by decide) ?_
  refine g_callV (pc := 2) C dX8_keep_2 lmX8_395 kcX8_moveAll (by decide) (by first | rfl | assumption) (c_X8_moveAllK) rfl rfl (Nat.le_of_ble_eq_true rfl) ?_
  intro r9 sh9 I9 J9 hD9; obtain ⟨rfl, rfl, rfl, rfl⟩ := pm_Dq hD9; clear hD9
  try simp only [Option.toList_some, Option.toList_none, List.cons_append, List.nil_append]
  refine g_aload_n (pc := 5) (i := 0) (j := 0) C dX8_keep_5 rfl rfl ?_
  refine g_iconst (pc := 6) (v := 1) C dX8_keep_6 (by decide) ?_
  refine g_putI (pc := 7) C dX8_keep_7 lpX8_398 (by first | rfl | exact pm_nz | assumption) rfl (by first | rfl | assumption) rfl ?_
  refine g_iconst (pc := 10) (v := 1) C dX8_keep_10 (by decide) ?_
  refine g_iret (pc := 11) C C2 dX8_keep_11 rfl (Nat.le_refl _) (Nat.le_refl _) ?_
  exact ⟨rfl, rfl, rfl, mv_kept_of⟩

set_option maxHeartbeats 4000000 in
set_option maxRecDepth 100000 in
theorem c_X8_again0 {d : Nat} {I : pm_I} {J : pm_J} (hz : I 102 39 = 0) : pm_M d 0 0 yX8_again cX8_again 1 (some .int) [.ref 102] SHP I J (pm_D (some (.int (-3))) SHP I J) := by
  refine pm_start (own := RX8) (nm := "again") (by decide) rfl rfl (L := [(0, .ref 102)]) rfl (Nat.le_of_ble_eq_true rfl) (fun Γ C C2 => ?_)
  refine g_aload_n (pc := 0) (i := 0) (j := 0) C dX8_again_0 rfl rfl ?_
  refine g_getI (pc := 1) C dX8_again_1 lfX8_398 (by first | rfl | assumption) rfl ?_
  refine g_if_ne (pc := 4) (tgt := 10) C dX8_again_4 (by decide) (fun h4 => absurd hz h4) (fun h4 => ?_)
  refine g_bipush (pc := 7) (v := (-3)) C dX8_again_7 (by decide) ?_
  refine g_iret (pc := 9) C C2 dX8_again_9 rfl (Nat.le_refl _) (Nat.le_refl _) ?_
  exact ⟨rfl, rfl, rfl, rfl⟩

set_option maxHeartbeats 4000000 in
set_option maxRecDepth 100000 in
theorem c_X8_again1 {d : Nat} {I : pm_I} {J : pm_J} (hz : ¬ I 102 39 = 0) : pm_M (d + 2) 0 0 yX8_again cX8_again 1 (some .int) [.ref 102] SHP I J (fun r sh2 I2 J2 => r = some (.int (I 121 39)) ∧ sh2 = SHP ∧ J2 = J ∧ mv_back I I2) := by
  refine pm_start (own := RX8) (nm := "again") (by decide) rfl rfl (L := [(0, .ref 102)]) rfl (Nat.le_of_ble_eq_true rfl) (fun Γ C C2 => ?_)
  refine g_aload_n (pc := 0) (i := 0) (j := 0) C dX8_again_0 rfl rfl ?_
  refine g_getI (pc := 1) C dX8_again_1 lfX8_398 (by first | rfl | assumption) rfl ?_
  refine g_if_ne (pc := 4) (tgt := 10) C dX8_again_4 (by decide) (fun h4 => ?_) (fun h4 => absurd h4 hz)
  refine g_aload_n (pc := 10) (i := 0) (j := 0) C dX8_again_10 rfl rfl ?_
  refine g_iconst (pc := 11) (v := 0) C dX8_again_11 (by decide) ?_
  refine g_callV (pc := 12) C dX8_again_12 lmX8_395 kcX8_moveAll (by decide) (by first | rfl | assumption) (c_X8_moveAllA) rfl rfl (Nat.le_of_ble_eq_true rfl) ?_
  intro r9 sh9 I9 J9 hD9; obtain ⟨rfl, rfl, rfl, rfl⟩ := pm_Dq hD9; clear hD9
  try simp only [Option.toList_some, Option.toList_none, List.cons_append, List.nil_append]
  refine g_aload_n (pc := 15) (i := 0) (j := 0) C dX8_again_15 rfl rfl ?_
  refine g_aload_n (pc := 16) (i := 0) (j := 0) C dX8_again_16 rfl rfl ?_
  refine g_getR (pc := 17) C dX8_again_17 lfX8_75 (by first | rfl | assumption) rfl ?_
  refine g_iconst (pc := 20) (v := 0) C dX8_again_20 (by decide) ?_
  refine g_iald (pc := 21) C dX8_again_21 (by first | rfl | assumption) (by decide) (by first | rfl | assumption) (by first | assumption | decide | omega) ?_
  refine g_putI (pc := 22) C dX8_again_22 lpX8_82 rfl rfl (by first | rfl | assumption) rfl ?_
  refine g_aload_n (pc := 25) (i := 0) (j := 0) C dX8_again_25 rfl rfl ?_
  refine g_aload_n (pc := 26) (i := 0) (j := 0) C dX8_again_26 rfl rfl ?_
  refine g_getR (pc := 27) C dX8_again_27 lfX8_75 (by first | rfl | assumption) rfl ?_
  refine g_iconst (pc := 30) (v := 1) C dX8_again_30 (by decide) ?_
  refine g_iald (pc := 31) C dX8_again_31 (by first | rfl | assumption) (by decide) (by first | rfl | assumption) (by first | assumption | decide | omega) ?_
  refine g_putI (pc := 32) C dX8_again_32 lpX8_13 rfl rfl (by first | rfl | assumption) rfl ?_
  refine g_aload_n (pc := 35) (i := 0) (j := 0) C dX8_again_35 rfl rfl ?_
  refine g_aload_n (pc := 36) (i := 0) (j := 0) C dX8_again_36 rfl rfl ?_
  refine g_getR (pc := 37) C dX8_again_37 lfX8_75 (by first | rfl | assumption) rfl ?_
  refine g_iconst (pc := 40) (v := 2) C dX8_again_40 (by decide) ?_
  refine g_iald (pc := 41) C dX8_again_41 (by first | rfl | assumption) (by decide) (by first | rfl | assumption) (by first | assumption | decide | omega) ?_
  refine g_putI (pc := 42) C dX8_again_42 lpX8_26 rfl rfl (by first | rfl | assumption) rfl ?_
  refine g_aload_n (pc := 45) (i := 0) (j := 0) C dX8_again_45 rfl rfl ?_
  refine g_getR (pc := 46) C dX8_again_46 lfX8_23 (by first | rfl | assumption) rfl ?_
  refine g_iconst (pc := 49) (v := 0) C dX8_again_49 (by decide) ?_
  refine g_iald (pc := 50) C dX8_again_50 (by first | rfl | assumption) (by decide) (by first | rfl | assumption) (by first | assumption | decide | omega) ?_
  refine g_iret (pc := 51) C C2 dX8_again_51 rfl (Nat.le_refl _) (Nat.le_refl _) ?_
  have hB := mv_back_of (I := I)
  unfold mv_fin at hB
  refine ⟨?_, rfl, rfl, ?_⟩
  · have := mv_A5_rows (W := mv_0 I)
    rw [pm_u_off (by decide), pm_u_off (by decide), pm_u_off (by decide), this.2.2.2.2 0 (by decide), show mv_0 I 121 = I 121 from mv_0_off (by decide) (by decide)]
  · simpa only [pm_u_off (show (122 : Nat) ≠ 102 by decide)] using hB

set_option maxHeartbeats 4000000 in
set_option maxRecDepth 100000 in
theorem c_X8_lacksSort {d : Nat} {I : pm_I} {J : pm_J} {s : Nat} {w : Int32} (hs : s < 4) : pm_M d 0 0 yX8_lacksSort cX8_lacksSort 3 (some .int) [.ref 102, .int (nI s), .int w] SHP I J (pm_D (some (.int (if I 114 s < 0 then -11 else if I 114 s = w then 0 else -13))) SHP I J) := by
  refine pm_start (own := RX8) (nm := "lacksSort") (by decide) rfl rfl (L := [(0, .ref 102), (1, .int (nI s)), (2, .int w)]) rfl (Nat.le_of_ble_eq_true rfl) (fun Γ C C2 => ?_)
  refine g_aload_n (pc := 0) (i := 0) (j := 0) C dX8_lacksSort_0 rfl rfl ?_
  refine g_getR (pc := 1) C dX8_lacksSort_1 lfX8_50 (by first | rfl | assumption) rfl ?_
  refine g_iload_n (pc := 4) (i := 1) (j := 1) C dX8_lacksSort_4 rfl rfl ?_
  refine g_iald (pc := 5) C dX8_lacksSort_5 (by first | rfl | assumption) (by decide) (by first | rfl | assumption) (by first | assumption | decide | omega) ?_
  refine g_if_ge (pc := 6) (tgt := 14) C dX8_lacksSort_6 (by decide) (fun h6 => ?_) (fun h6 => ?_)
  · refine g_aload_n (pc := 14) (i := 0) (j := 0) C dX8_lacksSort_14 rfl rfl ?_
    refine g_getR (pc := 15) C dX8_lacksSort_15 lfX8_50 (by first | rfl | assumption) rfl ?_
    refine g_iload_n (pc := 18) (i := 1) (j := 1) C dX8_lacksSort_18 rfl rfl ?_
    refine g_iald (pc := 19) C dX8_lacksSort_19 (by first | rfl | assumption) (by decide) (by first | rfl | assumption) (by first | assumption | decide | omega) ?_
    refine g_iload_n (pc := 20) (i := 2) (j := 2) C dX8_lacksSort_20 rfl rfl ?_
    refine g_icmp_eq (pc := 21) (tgt := 29) C dX8_lacksSort_21 (by decide) (fun h21 => ?_) (fun h21 => ?_)
    · refine g_iconst (pc := 29) (v := 0) C dX8_lacksSort_29 (by decide) ?_
      refine g_iret (pc := 30) C C2 dX8_lacksSort_30 rfl (Nat.le_refl _) (Nat.le_refl _) ?_
      clear C C2
      exact ⟨by grind, rfl, rfl, rfl⟩
    · refine g_bipush (pc := 24) (v := (-13)) C dX8_lacksSort_24 (by decide) ?_
      refine g_goto (pc := 26) (tgt := 30) C dX8_lacksSort_26 (by decide) ?_
      refine g_iret (pc := 30) C C2 dX8_lacksSort_30 rfl (Nat.le_refl _) (Nat.le_refl _) ?_
      clear C C2
      exact ⟨by grind, rfl, rfl, rfl⟩
  · refine g_bipush (pc := 9) (v := (-11)) C dX8_lacksSort_9 (by decide) ?_
    refine g_goto (pc := 11) (tgt := 30) C dX8_lacksSort_11 (by decide) ?_
    refine g_iret (pc := 30) C C2 dX8_lacksSort_30 rfl (Nat.le_refl _) (Nat.le_refl _) ?_
    clear C C2
    exact ⟨by grind, rfl, rfl, rfl⟩

set_option maxHeartbeats 4000000 in
set_option maxRecDepth 100000 in
theorem c_X8_sheet {d : Nat} {x w v : Int32} {I : pm_I} {J : pm_J} : pm_M (d + 2) 0 0 yX8_sheet cX8_sheet 5 (some .int) [.ref 102, .int x, .int w, .int v] SHP I J (pm_D (some (.int (if (0 ≤ x ∧ x ≤ 3) ∧ (-1 ≤ w ∧ w ≤ 3) ∧ ¬ (0 ≤ w ∧ 40 < v) then (if 0 ≤ w ∧ v < 0 then -14 else 1) else -1))) SHP (if ((0 ≤ x ∧ x ≤ 3) ∧ (-1 ≤ w ∧ w ≤ 3) ∧ ¬ (0 ≤ w ∧ 40 < v)) ∧ ¬ (0 ≤ w ∧ v < 0) then pm_u (pm_u I 114 x.toNatClampNeg w) 115 x.toNatClampNeg (if w < 0 then 0 else v) else I) (if ((0 ≤ x ∧ x ≤ 3) ∧ (-1 ≤ w ∧ w ≤ 3) ∧ ¬ (0 ≤ w ∧ 40 < v)) ∧ ¬ (0 ≤ w ∧ v < 0) then pm_sJ J 116 (mz_J (J 116) x.toNatClampNeg 40) else J)) := by
  refine pm_start (own := RX8) (nm := "sheet") (by decide) rfl rfl (L := [(0, .ref 102), (1, .int x), (2, .int w), (3, .int v)]) rfl (Nat.le_of_ble_eq_true rfl) (fun Γ C C2 => ?_)
  refine g_iload_n (pc := 0) (i := 1) (j := 1) C dX8_sheet_0 rfl rfl ?_
  refine g_callS (pc := 1) C dX8_sheet_1 lmX8_324 kcX8_isShelf (by decide) (c_X8_isShelf) rfl rfl (Nat.le_of_ble_eq_true rfl) ?_
  intro r9 sh9 I9 J9 hD9; obtain ⟨rfl, rfl, rfl, rfl⟩ := pm_Dq hD9; clear hD9
  try simp only [Option.toList_some, Option.toList_none, List.cons_append, List.nil_append]
  refine g_if_eqB (pc := 4) (tgt := 26) C dX8_sheet_4 (by decide) (fun h4 => ?_) (fun h4 => ?_)
  · refine g_iconst (pc := 26) (v := (-1)) C dX8_sheet_26 (by decide) ?_
    refine g_iret (pc := 27) C C2 dX8_sheet_27 rfl (Nat.le_refl _) (Nat.le_refl _) ?_
    clear C C2
    exact ⟨by grind, rfl, by grind, by grind⟩
  · have v4 := h4
    obtain ⟨s, hs, rfl⟩ := pm_ix (N := 4) h4.1 h4.2 (by decide)
    have ecs : (nI s).toNatClampNeg = s := nI_clamp (by omega)
    refine g_iload_n (pc := 7) (i := 2) (j := 2) C dX8_sheet_7 rfl rfl ?_
    refine g_iconst (pc := 8) (v := (-1)) C dX8_sheet_8 (by decide) ?_
    refine g_iconst (pc := 9) (v := 3) C dX8_sheet_9 (by decide) ?_
    refine g_callS (pc := 10) C dX8_sheet_10 lmX8_78 kcX8_in (by decide) (c_X8_in) rfl rfl (Nat.le_of_ble_eq_true rfl) ?_
    intro r9 sh9 I9 J9 hD9; obtain ⟨rfl, rfl, rfl, rfl⟩ := pm_Dq hD9; clear hD9
    try simp only [Option.toList_some, Option.toList_none, List.cons_append, List.nil_append]
    refine g_if_eqB (pc := 13) (tgt := 26) C dX8_sheet_13 (by decide) (fun h13 => ?_) (fun h13 => ?_)
    · refine g_iconst (pc := 26) (v := (-1)) C dX8_sheet_26 (by decide) ?_
      refine g_iret (pc := 27) C C2 dX8_sheet_27 rfl (Nat.le_refl _) (Nat.le_refl _) ?_
      clear C C2
      exact ⟨by grind, rfl, by grind, by grind⟩
    · refine g_iload_n (pc := 16) (i := 2) (j := 2) C dX8_sheet_16 rfl rfl ?_
      refine g_if_lt (pc := 17) (tgt := 28) C dX8_sheet_17 (by decide) (fun h17 => ?_) (fun h17 => ?_)
      · refine g_iload_n (pc := 28) (i := 2) (j := 2) C dX8_sheet_28 rfl rfl ?_
        refine g_if_lt (pc := 29) (tgt := 39) C dX8_sheet_29 (by decide) (fun h29 => ?_) (fun h29 => ?_)
        · refine g_aload_n (pc := 39) (i := 0) (j := 0) C dX8_sheet_39 rfl rfl ?_
          refine g_getR (pc := 40) C dX8_sheet_40 lfX8_50 (by first | rfl | assumption) rfl ?_
          refine g_iload_n (pc := 43) (i := 1) (j := 1) C dX8_sheet_43 rfl rfl ?_
          refine g_iload_n (pc := 44) (i := 2) (j := 2) C dX8_sheet_44 rfl rfl ?_
          refine g_iast (pc := 45) C dX8_sheet_45 (by first | rfl | assumption) (by decide) (by first | rfl | assumption) (by first | assumption | decide | omega) ?_
          refine g_aload_n (pc := 46) (i := 0) (j := 0) C dX8_sheet_46 rfl rfl ?_
          refine g_getR (pc := 47) C dX8_sheet_47 lfX8_53 (by first | rfl | assumption) rfl ?_
          refine g_iload_n (pc := 50) (i := 1) (j := 1) C dX8_sheet_50 rfl rfl ?_
          refine g_iload_n (pc := 51) (i := 2) (j := 2) C dX8_sheet_51 rfl rfl ?_
          refine g_if_ge (pc := 52) (tgt := 59) C dX8_sheet_52 (by decide) (fun h52 => ?_) (fun h52 => ?_)
          · refine g_iload_n (pc := 59) (i := 3) (j := 3) C dX8_sheet_59 rfl rfl ?_
            refine g_iast (pc := 60) C dX8_sheet_60 (by first | rfl | assumption) (by decide) (by first | rfl | assumption) (by first | assumption | decide | omega) ?_
            refine g_iconst (pc := 61) (v := 0) C dX8_sheet_61 (by decide) ?_
            refine g_istore (pc := 62) (L2 := [(0, _), (1, _), (2, _), (3, _), (4, _)]) C dX8_sheet_62 (by decide) rfl ?_
            have vok : (0 ≤ nI s ∧ nI s ≤ 3) ∧ (-1 ≤ w ∧ w ≤ 3) ∧ ¬ (0 ≤ w ∧ 40 < v) := ⟨v4, h13, fun q => by first | exact absurd q.1 (Int32.not_le.mpr h17) | exact absurd q.2 (Int32.not_lt.mpr h23)⟩
            have vok2 : ¬ (0 ≤ w ∧ v < 0) := fun q => by first | exact absurd q.1 (Int32.not_le.mpr h17) | exact absurd q.2 (Int32.not_lt.mpr h33) | exact absurd q.1 (Int32.not_le.mpr h29)
            have hloop : ∀ j, j ≤ 40 → pm_G Γ 0 0 64 [(0, .ref 102), (1, .int (nI s)), (2, .int w), (3, .int v), (4, .int (nI j))] [] SHP (pm_u (pm_u I 114 s w) 115 s (if w < 0 then 0 else v)) (pm_sJ J 116 (mz_J (J 116) s j)) := by
              refine pm_up (fun j => pm_G Γ 0 0 64 [(0, .ref 102), (1, .int (nI s)), (2, .int w), (3, .int v), (4, .int (nI j))] [] SHP (pm_u (pm_u I 114 s w) 115 s (if w < 0 then 0 else v)) (pm_sJ J 116 (mz_J (J 116) s j))) 40 (fun j hj ih => ?_)
              refine g_iload (pc := 64) (j := 4) C dX8_sheet_64 rfl ?_
              refine g_bipush (pc := 66) (v := 40) C dX8_sheet_66 (by decide) ?_
              refine g_icmp_ge (pc := 68) (tgt := 90) C dX8_sheet_68 (by decide) (fun h68 => ?_) (fun h68 => ?_)
              · have ej : j = 40 := by have := (nI_leI (a := 40) (b := j) (by decide) (by omega)).mp h68; omega
                subst ej
                refine g_iconst (pc := 90) (v := 1) C dX8_sheet_90 (by decide) ?_
                refine g_iret (pc := 91) C C2 dX8_sheet_91 rfl (Nat.le_refl _) (Nat.le_refl _) ?_
                have vv := And.intro vok vok2
                exact ⟨by rw [if_pos vok, if_neg vok2], rfl, by rw [if_pos vv, ecs], by rw [if_pos vv, ecs]⟩
              · have hlt : j < 40 := Nat.lt_of_not_le (fun q => h68 ((nI_leI (a := 40) (b := j) (by decide) (by omega)).mpr q))
                refine g_aload_n (pc := 71) (i := 0) (j := 0) C dX8_sheet_71 rfl rfl ?_
                refine g_getR (pc := 72) C dX8_sheet_72 lfX8_56 (by first | rfl | assumption) rfl ?_
                refine g_bipush (pc := 75) (v := 40) C dX8_sheet_75 (by decide) ?_
                refine g_iload_n (pc := 77) (i := 1) (j := 1) C dX8_sheet_77 rfl rfl ?_
                refine g_imul (pc := 78) C dX8_sheet_78 ?_
                refine g_iload (pc := 79) (j := 4) C dX8_sheet_79 rfl ?_
                refine g_iadd (pc := 81) C dX8_sheet_81 ?_
                refine g_lconst (pc := 82) (v := 0) C dX8_sheet_82 (by decide) ?_
                refine g_last (pc := 83) (j := 40 * s + j) C dX8_sheet_83 (by first | rfl | assumption) (by decide) (show (40 : Int32) * nI s + nI j = nI (40 * s + j) by rw [show (40 : Int32) = nI 40 from rfl, pk_mul, nI_add]) (by omega) ?_
                refine g_iinc (pc := 84) (j := 4) (v := _ + 1) (L2 := [(0, _), (1, _), (2, _), (3, _), (4, _)]) C dX8_sheet_84 rfl rfl (by decide) rfl ?_
                refine g_goto (pc := 87) (tgt := 64) C dX8_sheet_87 (by decide) ?_
                refine pm_Geq (ih hlt) (by simp only [nI_1]) rfl rfl ?_
                rw [pm_uJ_s, pm_sJ_at, pm_sJ_s]
                congr 1
                funext k
                unfold mz_J vp_updL
                grind
            refine pm_Geq (hloop 0 (Nat.zero_le _)) rfl rfl ?_ ?_
            · clear C C2 hloop; grind
            · funext a
              by_cases e : a = 116
              · subst e; rw [pm_sJ_at]; funext k; unfold mz_J; rw [if_neg (by omega)]
              · rw [pm_sJ_off _ _ _ _ e]
          · refine g_iconst (pc := 55) (v := 0) C dX8_sheet_55 (by decide) ?_
            refine g_goto (pc := 56) (tgt := 60) C dX8_sheet_56 (by decide) ?_
            refine g_iast (pc := 60) C dX8_sheet_60 (by first | rfl | assumption) (by decide) (by first | rfl | assumption) (by first | assumption | decide | omega) ?_
            refine g_iconst (pc := 61) (v := 0) C dX8_sheet_61 (by decide) ?_
            refine g_istore (pc := 62) (L2 := [(0, _), (1, _), (2, _), (3, _), (4, _)]) C dX8_sheet_62 (by decide) rfl ?_
            have vok : (0 ≤ nI s ∧ nI s ≤ 3) ∧ (-1 ≤ w ∧ w ≤ 3) ∧ ¬ (0 ≤ w ∧ 40 < v) := ⟨v4, h13, fun q => by first | exact absurd q.1 (Int32.not_le.mpr h17) | exact absurd q.2 (Int32.not_lt.mpr h23)⟩
            have vok2 : ¬ (0 ≤ w ∧ v < 0) := fun q => by first | exact absurd q.1 (Int32.not_le.mpr h17) | exact absurd q.2 (Int32.not_lt.mpr h33) | exact absurd q.1 (Int32.not_le.mpr h29)
            have hloop : ∀ j, j ≤ 40 → pm_G Γ 0 0 64 [(0, .ref 102), (1, .int (nI s)), (2, .int w), (3, .int v), (4, .int (nI j))] [] SHP (pm_u (pm_u I 114 s w) 115 s (if w < 0 then 0 else v)) (pm_sJ J 116 (mz_J (J 116) s j)) := by
              refine pm_up (fun j => pm_G Γ 0 0 64 [(0, .ref 102), (1, .int (nI s)), (2, .int w), (3, .int v), (4, .int (nI j))] [] SHP (pm_u (pm_u I 114 s w) 115 s (if w < 0 then 0 else v)) (pm_sJ J 116 (mz_J (J 116) s j))) 40 (fun j hj ih => ?_)
              refine g_iload (pc := 64) (j := 4) C dX8_sheet_64 rfl ?_
              refine g_bipush (pc := 66) (v := 40) C dX8_sheet_66 (by decide) ?_
              refine g_icmp_ge (pc := 68) (tgt := 90) C dX8_sheet_68 (by decide) (fun h68 => ?_) (fun h68 => ?_)
              · have ej : j = 40 := by have := (nI_leI (a := 40) (b := j) (by decide) (by omega)).mp h68; omega
                subst ej
                refine g_iconst (pc := 90) (v := 1) C dX8_sheet_90 (by decide) ?_
                refine g_iret (pc := 91) C C2 dX8_sheet_91 rfl (Nat.le_refl _) (Nat.le_refl _) ?_
                have vv := And.intro vok vok2
                exact ⟨by rw [if_pos vok, if_neg vok2], rfl, by rw [if_pos vv, ecs], by rw [if_pos vv, ecs]⟩
              · have hlt : j < 40 := Nat.lt_of_not_le (fun q => h68 ((nI_leI (a := 40) (b := j) (by decide) (by omega)).mpr q))
                refine g_aload_n (pc := 71) (i := 0) (j := 0) C dX8_sheet_71 rfl rfl ?_
                refine g_getR (pc := 72) C dX8_sheet_72 lfX8_56 (by first | rfl | assumption) rfl ?_
                refine g_bipush (pc := 75) (v := 40) C dX8_sheet_75 (by decide) ?_
                refine g_iload_n (pc := 77) (i := 1) (j := 1) C dX8_sheet_77 rfl rfl ?_
                refine g_imul (pc := 78) C dX8_sheet_78 ?_
                refine g_iload (pc := 79) (j := 4) C dX8_sheet_79 rfl ?_
                refine g_iadd (pc := 81) C dX8_sheet_81 ?_
                refine g_lconst (pc := 82) (v := 0) C dX8_sheet_82 (by decide) ?_
                refine g_last (pc := 83) (j := 40 * s + j) C dX8_sheet_83 (by first | rfl | assumption) (by decide) (show (40 : Int32) * nI s + nI j = nI (40 * s + j) by rw [show (40 : Int32) = nI 40 from rfl, pk_mul, nI_add]) (by omega) ?_
                refine g_iinc (pc := 84) (j := 4) (v := _ + 1) (L2 := [(0, _), (1, _), (2, _), (3, _), (4, _)]) C dX8_sheet_84 rfl rfl (by decide) rfl ?_
                refine g_goto (pc := 87) (tgt := 64) C dX8_sheet_87 (by decide) ?_
                refine pm_Geq (ih hlt) (by simp only [nI_1]) rfl rfl ?_
                rw [pm_uJ_s, pm_sJ_at, pm_sJ_s]
                congr 1
                funext k
                unfold mz_J vp_updL
                grind
            refine pm_Geq (hloop 0 (Nat.zero_le _)) rfl rfl ?_ ?_
            · clear C C2 hloop; grind
            · funext a
              by_cases e : a = 116
              · subst e; rw [pm_sJ_at]; funext k; unfold mz_J; rw [if_neg (by omega)]
              · rw [pm_sJ_off _ _ _ _ e]
        · refine g_iload_n (pc := 32) (i := 3) (j := 3) C dX8_sheet_32 rfl rfl ?_
          refine g_if_ge (pc := 33) (tgt := 39) C dX8_sheet_33 (by decide) (fun h33 => ?_) (fun h33 => ?_)
          · refine g_aload_n (pc := 39) (i := 0) (j := 0) C dX8_sheet_39 rfl rfl ?_
            refine g_getR (pc := 40) C dX8_sheet_40 lfX8_50 (by first | rfl | assumption) rfl ?_
            refine g_iload_n (pc := 43) (i := 1) (j := 1) C dX8_sheet_43 rfl rfl ?_
            refine g_iload_n (pc := 44) (i := 2) (j := 2) C dX8_sheet_44 rfl rfl ?_
            refine g_iast (pc := 45) C dX8_sheet_45 (by first | rfl | assumption) (by decide) (by first | rfl | assumption) (by first | assumption | decide | omega) ?_
            refine g_aload_n (pc := 46) (i := 0) (j := 0) C dX8_sheet_46 rfl rfl ?_
            refine g_getR (pc := 47) C dX8_sheet_47 lfX8_53 (by first | rfl | assumption) rfl ?_
            refine g_iload_n (pc := 50) (i := 1) (j := 1) C dX8_sheet_50 rfl rfl ?_
            refine g_iload_n (pc := 51) (i := 2) (j := 2) C dX8_sheet_51 rfl rfl ?_
            refine g_if_ge (pc := 52) (tgt := 59) C dX8_sheet_52 (by decide) (fun h52 => ?_) (fun h52 => ?_)
            · refine g_iload_n (pc := 59) (i := 3) (j := 3) C dX8_sheet_59 rfl rfl ?_
              refine g_iast (pc := 60) C dX8_sheet_60 (by first | rfl | assumption) (by decide) (by first | rfl | assumption) (by first | assumption | decide | omega) ?_
              refine g_iconst (pc := 61) (v := 0) C dX8_sheet_61 (by decide) ?_
              refine g_istore (pc := 62) (L2 := [(0, _), (1, _), (2, _), (3, _), (4, _)]) C dX8_sheet_62 (by decide) rfl ?_
              have vok : (0 ≤ nI s ∧ nI s ≤ 3) ∧ (-1 ≤ w ∧ w ≤ 3) ∧ ¬ (0 ≤ w ∧ 40 < v) := ⟨v4, h13, fun q => by first | exact absurd q.1 (Int32.not_le.mpr h17) | exact absurd q.2 (Int32.not_lt.mpr h23)⟩
              have vok2 : ¬ (0 ≤ w ∧ v < 0) := fun q => by first | exact absurd q.1 (Int32.not_le.mpr h17) | exact absurd q.2 (Int32.not_lt.mpr h33) | exact absurd q.1 (Int32.not_le.mpr h29)
              have hloop : ∀ j, j ≤ 40 → pm_G Γ 0 0 64 [(0, .ref 102), (1, .int (nI s)), (2, .int w), (3, .int v), (4, .int (nI j))] [] SHP (pm_u (pm_u I 114 s w) 115 s (if w < 0 then 0 else v)) (pm_sJ J 116 (mz_J (J 116) s j)) := by
                refine pm_up (fun j => pm_G Γ 0 0 64 [(0, .ref 102), (1, .int (nI s)), (2, .int w), (3, .int v), (4, .int (nI j))] [] SHP (pm_u (pm_u I 114 s w) 115 s (if w < 0 then 0 else v)) (pm_sJ J 116 (mz_J (J 116) s j))) 40 (fun j hj ih => ?_)
                refine g_iload (pc := 64) (j := 4) C dX8_sheet_64 rfl ?_
                refine g_bipush (pc := 66) (v := 40) C dX8_sheet_66 (by decide) ?_
                refine g_icmp_ge (pc := 68) (tgt := 90) C dX8_sheet_68 (by decide) (fun h68 => ?_) (fun h68 => ?_)
                · have ej : j = 40 := by have := (nI_leI (a := 40) (b := j) (by decide) (by omega)).mp h68; omega
                  subst ej
                  refine g_iconst (pc := 90) (v := 1) C dX8_sheet_90 (by decide) ?_
                  refine g_iret (pc := 91) C C2 dX8_sheet_91 rfl (Nat.le_refl _) (Nat.le_refl _) ?_
                  have vv := And.intro vok vok2
                  exact ⟨by rw [if_pos vok, if_neg vok2], rfl, by rw [if_pos vv, ecs], by rw [if_pos vv, ecs]⟩
                · have hlt : j < 40 := Nat.lt_of_not_le (fun q => h68 ((nI_leI (a := 40) (b := j) (by decide) (by omega)).mpr q))
                  refine g_aload_n (pc := 71) (i := 0) (j := 0) C dX8_sheet_71 rfl rfl ?_
                  refine g_getR (pc := 72) C dX8_sheet_72 lfX8_56 (by first | rfl | assumption) rfl ?_
                  refine g_bipush (pc := 75) (v := 40) C dX8_sheet_75 (by decide) ?_
                  refine g_iload_n (pc := 77) (i := 1) (j := 1) C dX8_sheet_77 rfl rfl ?_
                  refine g_imul (pc := 78) C dX8_sheet_78 ?_
                  refine g_iload (pc := 79) (j := 4) C dX8_sheet_79 rfl ?_
                  refine g_iadd (pc := 81) C dX8_sheet_81 ?_
                  refine g_lconst (pc := 82) (v := 0) C dX8_sheet_82 (by decide) ?_
                  refine g_last (pc := 83) (j := 40 * s + j) C dX8_sheet_83 (by first | rfl | assumption) (by decide) (show (40 : Int32) * nI s + nI j = nI (40 * s + j) by rw [show (40 : Int32) = nI 40 from rfl, pk_mul, nI_add]) (by omega) ?_
                  refine g_iinc (pc := 84) (j := 4) (v := _ + 1) (L2 := [(0, _), (1, _), (2, _), (3, _), (4, _)]) C dX8_sheet_84 rfl rfl (by decide) rfl ?_
                  refine g_goto (pc := 87) (tgt := 64) C dX8_sheet_87 (by decide) ?_
                  refine pm_Geq (ih hlt) (by simp only [nI_1]) rfl rfl ?_
                  rw [pm_uJ_s, pm_sJ_at, pm_sJ_s]
                  congr 1
                  funext k
                  unfold mz_J vp_updL
                  grind
              refine pm_Geq (hloop 0 (Nat.zero_le _)) rfl rfl ?_ ?_
              · clear C C2 hloop; grind
              · funext a
                by_cases e : a = 116
                · subst e; rw [pm_sJ_at]; funext k; unfold mz_J; rw [if_neg (by omega)]
                · rw [pm_sJ_off _ _ _ _ e]
            · refine g_iconst (pc := 55) (v := 0) C dX8_sheet_55 (by decide) ?_
              refine g_goto (pc := 56) (tgt := 60) C dX8_sheet_56 (by decide) ?_
              refine g_iast (pc := 60) C dX8_sheet_60 (by first | rfl | assumption) (by decide) (by first | rfl | assumption) (by first | assumption | decide | omega) ?_
              refine g_iconst (pc := 61) (v := 0) C dX8_sheet_61 (by decide) ?_
              refine g_istore (pc := 62) (L2 := [(0, _), (1, _), (2, _), (3, _), (4, _)]) C dX8_sheet_62 (by decide) rfl ?_
              have vok : (0 ≤ nI s ∧ nI s ≤ 3) ∧ (-1 ≤ w ∧ w ≤ 3) ∧ ¬ (0 ≤ w ∧ 40 < v) := ⟨v4, h13, fun q => by first | exact absurd q.1 (Int32.not_le.mpr h17) | exact absurd q.2 (Int32.not_lt.mpr h23)⟩
              have vok2 : ¬ (0 ≤ w ∧ v < 0) := fun q => by first | exact absurd q.1 (Int32.not_le.mpr h17) | exact absurd q.2 (Int32.not_lt.mpr h33) | exact absurd q.1 (Int32.not_le.mpr h29)
              have hloop : ∀ j, j ≤ 40 → pm_G Γ 0 0 64 [(0, .ref 102), (1, .int (nI s)), (2, .int w), (3, .int v), (4, .int (nI j))] [] SHP (pm_u (pm_u I 114 s w) 115 s (if w < 0 then 0 else v)) (pm_sJ J 116 (mz_J (J 116) s j)) := by
                refine pm_up (fun j => pm_G Γ 0 0 64 [(0, .ref 102), (1, .int (nI s)), (2, .int w), (3, .int v), (4, .int (nI j))] [] SHP (pm_u (pm_u I 114 s w) 115 s (if w < 0 then 0 else v)) (pm_sJ J 116 (mz_J (J 116) s j))) 40 (fun j hj ih => ?_)
                refine g_iload (pc := 64) (j := 4) C dX8_sheet_64 rfl ?_
                refine g_bipush (pc := 66) (v := 40) C dX8_sheet_66 (by decide) ?_
                refine g_icmp_ge (pc := 68) (tgt := 90) C dX8_sheet_68 (by decide) (fun h68 => ?_) (fun h68 => ?_)
                · have ej : j = 40 := by have := (nI_leI (a := 40) (b := j) (by decide) (by omega)).mp h68; omega
                  subst ej
                  refine g_iconst (pc := 90) (v := 1) C dX8_sheet_90 (by decide) ?_
                  refine g_iret (pc := 91) C C2 dX8_sheet_91 rfl (Nat.le_refl _) (Nat.le_refl _) ?_
                  have vv := And.intro vok vok2
                  exact ⟨by rw [if_pos vok, if_neg vok2], rfl, by rw [if_pos vv, ecs], by rw [if_pos vv, ecs]⟩
                · have hlt : j < 40 := Nat.lt_of_not_le (fun q => h68 ((nI_leI (a := 40) (b := j) (by decide) (by omega)).mpr q))
                  refine g_aload_n (pc := 71) (i := 0) (j := 0) C dX8_sheet_71 rfl rfl ?_
                  refine g_getR (pc := 72) C dX8_sheet_72 lfX8_56 (by first | rfl | assumption) rfl ?_
                  refine g_bipush (pc := 75) (v := 40) C dX8_sheet_75 (by decide) ?_
                  refine g_iload_n (pc := 77) (i := 1) (j := 1) C dX8_sheet_77 rfl rfl ?_
                  refine g_imul (pc := 78) C dX8_sheet_78 ?_
                  refine g_iload (pc := 79) (j := 4) C dX8_sheet_79 rfl ?_
                  refine g_iadd (pc := 81) C dX8_sheet_81 ?_
                  refine g_lconst (pc := 82) (v := 0) C dX8_sheet_82 (by decide) ?_
                  refine g_last (pc := 83) (j := 40 * s + j) C dX8_sheet_83 (by first | rfl | assumption) (by decide) (show (40 : Int32) * nI s + nI j = nI (40 * s + j) by rw [show (40 : Int32) = nI 40 from rfl, pk_mul, nI_add]) (by omega) ?_
                  refine g_iinc (pc := 84) (j := 4) (v := _ + 1) (L2 := [(0, _), (1, _), (2, _), (3, _), (4, _)]) C dX8_sheet_84 rfl rfl (by decide) rfl ?_
                  refine g_goto (pc := 87) (tgt := 64) C dX8_sheet_87 (by decide) ?_
                  refine pm_Geq (ih hlt) (by simp only [nI_1]) rfl rfl ?_
                  rw [pm_uJ_s, pm_sJ_at, pm_sJ_s]
                  congr 1
                  funext k
                  unfold mz_J vp_updL
                  grind
              refine pm_Geq (hloop 0 (Nat.zero_le _)) rfl rfl ?_ ?_
              · clear C C2 hloop; grind
              · funext a
                by_cases e : a = 116
                · subst e; rw [pm_sJ_at]; funext k; unfold mz_J; rw [if_neg (by omega)]
                · rw [pm_sJ_off _ _ _ _ e]
          · refine g_bipush (pc := 36) (v := (-14)) C dX8_sheet_36 (by decide) ?_
            refine g_iret (pc := 38) C C2 dX8_sheet_38 rfl (Nat.le_refl _) (Nat.le_refl _) ?_
            clear C C2
            exact ⟨by grind, rfl, by grind, by grind⟩
      · refine g_iload_n (pc := 20) (i := 3) (j := 3) C dX8_sheet_20 rfl rfl ?_
        refine g_bipush (pc := 21) (v := 40) C dX8_sheet_21 (by decide) ?_
        refine g_icmp_le (pc := 23) (tgt := 28) C dX8_sheet_23 (by decide) (fun h23 => ?_) (fun h23 => ?_)
        · refine g_iload_n (pc := 28) (i := 2) (j := 2) C dX8_sheet_28 rfl rfl ?_
          refine g_if_lt (pc := 29) (tgt := 39) C dX8_sheet_29 (by decide) (fun h29 => ?_) (fun h29 => ?_)
          · refine g_aload_n (pc := 39) (i := 0) (j := 0) C dX8_sheet_39 rfl rfl ?_
            refine g_getR (pc := 40) C dX8_sheet_40 lfX8_50 (by first | rfl | assumption) rfl ?_
            refine g_iload_n (pc := 43) (i := 1) (j := 1) C dX8_sheet_43 rfl rfl ?_
            refine g_iload_n (pc := 44) (i := 2) (j := 2) C dX8_sheet_44 rfl rfl ?_
            refine g_iast (pc := 45) C dX8_sheet_45 (by first | rfl | assumption) (by decide) (by first | rfl | assumption) (by first | assumption | decide | omega) ?_
            refine g_aload_n (pc := 46) (i := 0) (j := 0) C dX8_sheet_46 rfl rfl ?_
            refine g_getR (pc := 47) C dX8_sheet_47 lfX8_53 (by first | rfl | assumption) rfl ?_
            refine g_iload_n (pc := 50) (i := 1) (j := 1) C dX8_sheet_50 rfl rfl ?_
            refine g_iload_n (pc := 51) (i := 2) (j := 2) C dX8_sheet_51 rfl rfl ?_
            refine g_if_ge (pc := 52) (tgt := 59) C dX8_sheet_52 (by decide) (fun h52 => ?_) (fun h52 => ?_)
            · refine g_iload_n (pc := 59) (i := 3) (j := 3) C dX8_sheet_59 rfl rfl ?_
              refine g_iast (pc := 60) C dX8_sheet_60 (by first | rfl | assumption) (by decide) (by first | rfl | assumption) (by first | assumption | decide | omega) ?_
              refine g_iconst (pc := 61) (v := 0) C dX8_sheet_61 (by decide) ?_
              refine g_istore (pc := 62) (L2 := [(0, _), (1, _), (2, _), (3, _), (4, _)]) C dX8_sheet_62 (by decide) rfl ?_
              have vok : (0 ≤ nI s ∧ nI s ≤ 3) ∧ (-1 ≤ w ∧ w ≤ 3) ∧ ¬ (0 ≤ w ∧ 40 < v) := ⟨v4, h13, fun q => by first | exact absurd q.1 (Int32.not_le.mpr h17) | exact absurd q.2 (Int32.not_lt.mpr h23)⟩
              have vok2 : ¬ (0 ≤ w ∧ v < 0) := fun q => by first | exact absurd q.1 (Int32.not_le.mpr h17) | exact absurd q.2 (Int32.not_lt.mpr h33) | exact absurd q.1 (Int32.not_le.mpr h29)
              have hloop : ∀ j, j ≤ 40 → pm_G Γ 0 0 64 [(0, .ref 102), (1, .int (nI s)), (2, .int w), (3, .int v), (4, .int (nI j))] [] SHP (pm_u (pm_u I 114 s w) 115 s (if w < 0 then 0 else v)) (pm_sJ J 116 (mz_J (J 116) s j)) := by
                refine pm_up (fun j => pm_G Γ 0 0 64 [(0, .ref 102), (1, .int (nI s)), (2, .int w), (3, .int v), (4, .int (nI j))] [] SHP (pm_u (pm_u I 114 s w) 115 s (if w < 0 then 0 else v)) (pm_sJ J 116 (mz_J (J 116) s j))) 40 (fun j hj ih => ?_)
                refine g_iload (pc := 64) (j := 4) C dX8_sheet_64 rfl ?_
                refine g_bipush (pc := 66) (v := 40) C dX8_sheet_66 (by decide) ?_
                refine g_icmp_ge (pc := 68) (tgt := 90) C dX8_sheet_68 (by decide) (fun h68 => ?_) (fun h68 => ?_)
                · have ej : j = 40 := by have := (nI_leI (a := 40) (b := j) (by decide) (by omega)).mp h68; omega
                  subst ej
                  refine g_iconst (pc := 90) (v := 1) C dX8_sheet_90 (by decide) ?_
                  refine g_iret (pc := 91) C C2 dX8_sheet_91 rfl (Nat.le_refl _) (Nat.le_refl _) ?_
                  have vv := And.intro vok vok2
                  exact ⟨by rw [if_pos vok, if_neg vok2], rfl, by rw [if_pos vv, ecs], by rw [if_pos vv, ecs]⟩
                · have hlt : j < 40 := Nat.lt_of_not_le (fun q => h68 ((nI_leI (a := 40) (b := j) (by decide) (by omega)).mpr q))
                  refine g_aload_n (pc := 71) (i := 0) (j := 0) C dX8_sheet_71 rfl rfl ?_
                  refine g_getR (pc := 72) C dX8_sheet_72 lfX8_56 (by first | rfl | assumption) rfl ?_
                  refine g_bipush (pc := 75) (v := 40) C dX8_sheet_75 (by decide) ?_
                  refine g_iload_n (pc := 77) (i := 1) (j := 1) C dX8_sheet_77 rfl rfl ?_
                  refine g_imul (pc := 78) C dX8_sheet_78 ?_
                  refine g_iload (pc := 79) (j := 4) C dX8_sheet_79 rfl ?_
                  refine g_iadd (pc := 81) C dX8_sheet_81 ?_
                  refine g_lconst (pc := 82) (v := 0) C dX8_sheet_82 (by decide) ?_
                  refine g_last (pc := 83) (j := 40 * s + j) C dX8_sheet_83 (by first | rfl | assumption) (by decide) (show (40 : Int32) * nI s + nI j = nI (40 * s + j) by rw [show (40 : Int32) = nI 40 from rfl, pk_mul, nI_add]) (by omega) ?_
                  refine g_iinc (pc := 84) (j := 4) (v := _ + 1) (L2 := [(0, _), (1, _), (2, _), (3, _), (4, _)]) C dX8_sheet_84 rfl rfl (by decide) rfl ?_
                  refine g_goto (pc := 87) (tgt := 64) C dX8_sheet_87 (by decide) ?_
                  refine pm_Geq (ih hlt) (by simp only [nI_1]) rfl rfl ?_
                  rw [pm_uJ_s, pm_sJ_at, pm_sJ_s]
                  congr 1
                  funext k
                  unfold mz_J vp_updL
                  grind
              refine pm_Geq (hloop 0 (Nat.zero_le _)) rfl rfl ?_ ?_
              · clear C C2 hloop; grind
              · funext a
                by_cases e : a = 116
                · subst e; rw [pm_sJ_at]; funext k; unfold mz_J; rw [if_neg (by omega)]
                · rw [pm_sJ_off _ _ _ _ e]
            · refine g_iconst (pc := 55) (v := 0) C dX8_sheet_55 (by decide) ?_
              refine g_goto (pc := 56) (tgt := 60) C dX8_sheet_56 (by decide) ?_
              refine g_iast (pc := 60) C dX8_sheet_60 (by first | rfl | assumption) (by decide) (by first | rfl | assumption) (by first | assumption | decide | omega) ?_
              refine g_iconst (pc := 61) (v := 0) C dX8_sheet_61 (by decide) ?_
              refine g_istore (pc := 62) (L2 := [(0, _), (1, _), (2, _), (3, _), (4, _)]) C dX8_sheet_62 (by decide) rfl ?_
              have vok : (0 ≤ nI s ∧ nI s ≤ 3) ∧ (-1 ≤ w ∧ w ≤ 3) ∧ ¬ (0 ≤ w ∧ 40 < v) := ⟨v4, h13, fun q => by first | exact absurd q.1 (Int32.not_le.mpr h17) | exact absurd q.2 (Int32.not_lt.mpr h23)⟩
              have vok2 : ¬ (0 ≤ w ∧ v < 0) := fun q => by first | exact absurd q.1 (Int32.not_le.mpr h17) | exact absurd q.2 (Int32.not_lt.mpr h33) | exact absurd q.1 (Int32.not_le.mpr h29)
              have hloop : ∀ j, j ≤ 40 → pm_G Γ 0 0 64 [(0, .ref 102), (1, .int (nI s)), (2, .int w), (3, .int v), (4, .int (nI j))] [] SHP (pm_u (pm_u I 114 s w) 115 s (if w < 0 then 0 else v)) (pm_sJ J 116 (mz_J (J 116) s j)) := by
                refine pm_up (fun j => pm_G Γ 0 0 64 [(0, .ref 102), (1, .int (nI s)), (2, .int w), (3, .int v), (4, .int (nI j))] [] SHP (pm_u (pm_u I 114 s w) 115 s (if w < 0 then 0 else v)) (pm_sJ J 116 (mz_J (J 116) s j))) 40 (fun j hj ih => ?_)
                refine g_iload (pc := 64) (j := 4) C dX8_sheet_64 rfl ?_
                refine g_bipush (pc := 66) (v := 40) C dX8_sheet_66 (by decide) ?_
                refine g_icmp_ge (pc := 68) (tgt := 90) C dX8_sheet_68 (by decide) (fun h68 => ?_) (fun h68 => ?_)
                · have ej : j = 40 := by have := (nI_leI (a := 40) (b := j) (by decide) (by omega)).mp h68; omega
                  subst ej
                  refine g_iconst (pc := 90) (v := 1) C dX8_sheet_90 (by decide) ?_
                  refine g_iret (pc := 91) C C2 dX8_sheet_91 rfl (Nat.le_refl _) (Nat.le_refl _) ?_
                  have vv := And.intro vok vok2
                  exact ⟨by rw [if_pos vok, if_neg vok2], rfl, by rw [if_pos vv, ecs], by rw [if_pos vv, ecs]⟩
                · have hlt : j < 40 := Nat.lt_of_not_le (fun q => h68 ((nI_leI (a := 40) (b := j) (by decide) (by omega)).mpr q))
                  refine g_aload_n (pc := 71) (i := 0) (j := 0) C dX8_sheet_71 rfl rfl ?_
                  refine g_getR (pc := 72) C dX8_sheet_72 lfX8_56 (by first | rfl | assumption) rfl ?_
                  refine g_bipush (pc := 75) (v := 40) C dX8_sheet_75 (by decide) ?_
                  refine g_iload_n (pc := 77) (i := 1) (j := 1) C dX8_sheet_77 rfl rfl ?_
                  refine g_imul (pc := 78) C dX8_sheet_78 ?_
                  refine g_iload (pc := 79) (j := 4) C dX8_sheet_79 rfl ?_
                  refine g_iadd (pc := 81) C dX8_sheet_81 ?_
                  refine g_lconst (pc := 82) (v := 0) C dX8_sheet_82 (by decide) ?_
                  refine g_last (pc := 83) (j := 40 * s + j) C dX8_sheet_83 (by first | rfl | assumption) (by decide) (show (40 : Int32) * nI s + nI j = nI (40 * s + j) by rw [show (40 : Int32) = nI 40 from rfl, pk_mul, nI_add]) (by omega) ?_
                  refine g_iinc (pc := 84) (j := 4) (v := _ + 1) (L2 := [(0, _), (1, _), (2, _), (3, _), (4, _)]) C dX8_sheet_84 rfl rfl (by decide) rfl ?_
                  refine g_goto (pc := 87) (tgt := 64) C dX8_sheet_87 (by decide) ?_
                  refine pm_Geq (ih hlt) (by simp only [nI_1]) rfl rfl ?_
                  rw [pm_uJ_s, pm_sJ_at, pm_sJ_s]
                  congr 1
                  funext k
                  unfold mz_J vp_updL
                  grind
              refine pm_Geq (hloop 0 (Nat.zero_le _)) rfl rfl ?_ ?_
              · clear C C2 hloop; grind
              · funext a
                by_cases e : a = 116
                · subst e; rw [pm_sJ_at]; funext k; unfold mz_J; rw [if_neg (by omega)]
                · rw [pm_sJ_off _ _ _ _ e]
          · refine g_iload_n (pc := 32) (i := 3) (j := 3) C dX8_sheet_32 rfl rfl ?_
            refine g_if_ge (pc := 33) (tgt := 39) C dX8_sheet_33 (by decide) (fun h33 => ?_) (fun h33 => ?_)
            · refine g_aload_n (pc := 39) (i := 0) (j := 0) C dX8_sheet_39 rfl rfl ?_
              refine g_getR (pc := 40) C dX8_sheet_40 lfX8_50 (by first | rfl | assumption) rfl ?_
              refine g_iload_n (pc := 43) (i := 1) (j := 1) C dX8_sheet_43 rfl rfl ?_
              refine g_iload_n (pc := 44) (i := 2) (j := 2) C dX8_sheet_44 rfl rfl ?_
              refine g_iast (pc := 45) C dX8_sheet_45 (by first | rfl | assumption) (by decide) (by first | rfl | assumption) (by first | assumption | decide | omega) ?_
              refine g_aload_n (pc := 46) (i := 0) (j := 0) C dX8_sheet_46 rfl rfl ?_
              refine g_getR (pc := 47) C dX8_sheet_47 lfX8_53 (by first | rfl | assumption) rfl ?_
              refine g_iload_n (pc := 50) (i := 1) (j := 1) C dX8_sheet_50 rfl rfl ?_
              refine g_iload_n (pc := 51) (i := 2) (j := 2) C dX8_sheet_51 rfl rfl ?_
              refine g_if_ge (pc := 52) (tgt := 59) C dX8_sheet_52 (by decide) (fun h52 => ?_) (fun h52 => ?_)
              · refine g_iload_n (pc := 59) (i := 3) (j := 3) C dX8_sheet_59 rfl rfl ?_
                refine g_iast (pc := 60) C dX8_sheet_60 (by first | rfl | assumption) (by decide) (by first | rfl | assumption) (by first | assumption | decide | omega) ?_
                refine g_iconst (pc := 61) (v := 0) C dX8_sheet_61 (by decide) ?_
                refine g_istore (pc := 62) (L2 := [(0, _), (1, _), (2, _), (3, _), (4, _)]) C dX8_sheet_62 (by decide) rfl ?_
                have vok : (0 ≤ nI s ∧ nI s ≤ 3) ∧ (-1 ≤ w ∧ w ≤ 3) ∧ ¬ (0 ≤ w ∧ 40 < v) := ⟨v4, h13, fun q => by first | exact absurd q.1 (Int32.not_le.mpr h17) | exact absurd q.2 (Int32.not_lt.mpr h23)⟩
                have vok2 : ¬ (0 ≤ w ∧ v < 0) := fun q => by first | exact absurd q.1 (Int32.not_le.mpr h17) | exact absurd q.2 (Int32.not_lt.mpr h33) | exact absurd q.1 (Int32.not_le.mpr h29)
                have hloop : ∀ j, j ≤ 40 → pm_G Γ 0 0 64 [(0, .ref 102), (1, .int (nI s)), (2, .int w), (3, .int v), (4, .int (nI j))] [] SHP (pm_u (pm_u I 114 s w) 115 s (if w < 0 then 0 else v)) (pm_sJ J 116 (mz_J (J 116) s j)) := by
                  refine pm_up (fun j => pm_G Γ 0 0 64 [(0, .ref 102), (1, .int (nI s)), (2, .int w), (3, .int v), (4, .int (nI j))] [] SHP (pm_u (pm_u I 114 s w) 115 s (if w < 0 then 0 else v)) (pm_sJ J 116 (mz_J (J 116) s j))) 40 (fun j hj ih => ?_)
                  refine g_iload (pc := 64) (j := 4) C dX8_sheet_64 rfl ?_
                  refine g_bipush (pc := 66) (v := 40) C dX8_sheet_66 (by decide) ?_
                  refine g_icmp_ge (pc := 68) (tgt := 90) C dX8_sheet_68 (by decide) (fun h68 => ?_) (fun h68 => ?_)
                  · have ej : j = 40 := by have := (nI_leI (a := 40) (b := j) (by decide) (by omega)).mp h68; omega
                    subst ej
                    refine g_iconst (pc := 90) (v := 1) C dX8_sheet_90 (by decide) ?_
                    refine g_iret (pc := 91) C C2 dX8_sheet_91 rfl (Nat.le_refl _) (Nat.le_refl _) ?_
                    have vv := And.intro vok vok2
                    exact ⟨by rw [if_pos vok, if_neg vok2], rfl, by rw [if_pos vv, ecs], by rw [if_pos vv, ecs]⟩
                  · have hlt : j < 40 := Nat.lt_of_not_le (fun q => h68 ((nI_leI (a := 40) (b := j) (by decide) (by omega)).mpr q))
                    refine g_aload_n (pc := 71) (i := 0) (j := 0) C dX8_sheet_71 rfl rfl ?_
                    refine g_getR (pc := 72) C dX8_sheet_72 lfX8_56 (by first | rfl | assumption) rfl ?_
                    refine g_bipush (pc := 75) (v := 40) C dX8_sheet_75 (by decide) ?_
                    refine g_iload_n (pc := 77) (i := 1) (j := 1) C dX8_sheet_77 rfl rfl ?_
                    refine g_imul (pc := 78) C dX8_sheet_78 ?_
                    refine g_iload (pc := 79) (j := 4) C dX8_sheet_79 rfl ?_
                    refine g_iadd (pc := 81) C dX8_sheet_81 ?_
                    refine g_lconst (pc := 82) (v := 0) C dX8_sheet_82 (by decide) ?_
                    refine g_last (pc := 83) (j := 40 * s + j) C dX8_sheet_83 (by first | rfl | assumption) (by decide) (show (40 : Int32) * nI s + nI j = nI (40 * s + j) by rw [show (40 : Int32) = nI 40 from rfl, pk_mul, nI_add]) (by omega) ?_
                    refine g_iinc (pc := 84) (j := 4) (v := _ + 1) (L2 := [(0, _), (1, _), (2, _), (3, _), (4, _)]) C dX8_sheet_84 rfl rfl (by decide) rfl ?_
                    refine g_goto (pc := 87) (tgt := 64) C dX8_sheet_87 (by decide) ?_
                    refine pm_Geq (ih hlt) (by simp only [nI_1]) rfl rfl ?_
                    rw [pm_uJ_s, pm_sJ_at, pm_sJ_s]
                    congr 1
                    funext k
                    unfold mz_J vp_updL
                    grind
                refine pm_Geq (hloop 0 (Nat.zero_le _)) rfl rfl ?_ ?_
                · clear C C2 hloop; grind
                · funext a
                  by_cases e : a = 116
                  · subst e; rw [pm_sJ_at]; funext k; unfold mz_J; rw [if_neg (by omega)]
                  · rw [pm_sJ_off _ _ _ _ e]
              · refine g_iconst (pc := 55) (v := 0) C dX8_sheet_55 (by decide) ?_
                refine g_goto (pc := 56) (tgt := 60) C dX8_sheet_56 (by decide) ?_
                refine g_iast (pc := 60) C dX8_sheet_60 (by first | rfl | assumption) (by decide) (by first | rfl | assumption) (by first | assumption | decide | omega) ?_
                refine g_iconst (pc := 61) (v := 0) C dX8_sheet_61 (by decide) ?_
                refine g_istore (pc := 62) (L2 := [(0, _), (1, _), (2, _), (3, _), (4, _)]) C dX8_sheet_62 (by decide) rfl ?_
                have vok : (0 ≤ nI s ∧ nI s ≤ 3) ∧ (-1 ≤ w ∧ w ≤ 3) ∧ ¬ (0 ≤ w ∧ 40 < v) := ⟨v4, h13, fun q => by first | exact absurd q.1 (Int32.not_le.mpr h17) | exact absurd q.2 (Int32.not_lt.mpr h23)⟩
                have vok2 : ¬ (0 ≤ w ∧ v < 0) := fun q => by first | exact absurd q.1 (Int32.not_le.mpr h17) | exact absurd q.2 (Int32.not_lt.mpr h33) | exact absurd q.1 (Int32.not_le.mpr h29)
                have hloop : ∀ j, j ≤ 40 → pm_G Γ 0 0 64 [(0, .ref 102), (1, .int (nI s)), (2, .int w), (3, .int v), (4, .int (nI j))] [] SHP (pm_u (pm_u I 114 s w) 115 s (if w < 0 then 0 else v)) (pm_sJ J 116 (mz_J (J 116) s j)) := by
                  refine pm_up (fun j => pm_G Γ 0 0 64 [(0, .ref 102), (1, .int (nI s)), (2, .int w), (3, .int v), (4, .int (nI j))] [] SHP (pm_u (pm_u I 114 s w) 115 s (if w < 0 then 0 else v)) (pm_sJ J 116 (mz_J (J 116) s j))) 40 (fun j hj ih => ?_)
                  refine g_iload (pc := 64) (j := 4) C dX8_sheet_64 rfl ?_
                  refine g_bipush (pc := 66) (v := 40) C dX8_sheet_66 (by decide) ?_
                  refine g_icmp_ge (pc := 68) (tgt := 90) C dX8_sheet_68 (by decide) (fun h68 => ?_) (fun h68 => ?_)
                  · have ej : j = 40 := by have := (nI_leI (a := 40) (b := j) (by decide) (by omega)).mp h68; omega
                    subst ej
                    refine g_iconst (pc := 90) (v := 1) C dX8_sheet_90 (by decide) ?_
                    refine g_iret (pc := 91) C C2 dX8_sheet_91 rfl (Nat.le_refl _) (Nat.le_refl _) ?_
                    have vv := And.intro vok vok2
                    exact ⟨by rw [if_pos vok, if_neg vok2], rfl, by rw [if_pos vv, ecs], by rw [if_pos vv, ecs]⟩
                  · have hlt : j < 40 := Nat.lt_of_not_le (fun q => h68 ((nI_leI (a := 40) (b := j) (by decide) (by omega)).mpr q))
                    refine g_aload_n (pc := 71) (i := 0) (j := 0) C dX8_sheet_71 rfl rfl ?_
                    refine g_getR (pc := 72) C dX8_sheet_72 lfX8_56 (by first | rfl | assumption) rfl ?_
                    refine g_bipush (pc := 75) (v := 40) C dX8_sheet_75 (by decide) ?_
                    refine g_iload_n (pc := 77) (i := 1) (j := 1) C dX8_sheet_77 rfl rfl ?_
                    refine g_imul (pc := 78) C dX8_sheet_78 ?_
                    refine g_iload (pc := 79) (j := 4) C dX8_sheet_79 rfl ?_
                    refine g_iadd (pc := 81) C dX8_sheet_81 ?_
                    refine g_lconst (pc := 82) (v := 0) C dX8_sheet_82 (by decide) ?_
                    refine g_last (pc := 83) (j := 40 * s + j) C dX8_sheet_83 (by first | rfl | assumption) (by decide) (show (40 : Int32) * nI s + nI j = nI (40 * s + j) by rw [show (40 : Int32) = nI 40 from rfl, pk_mul, nI_add]) (by omega) ?_
                    refine g_iinc (pc := 84) (j := 4) (v := _ + 1) (L2 := [(0, _), (1, _), (2, _), (3, _), (4, _)]) C dX8_sheet_84 rfl rfl (by decide) rfl ?_
                    refine g_goto (pc := 87) (tgt := 64) C dX8_sheet_87 (by decide) ?_
                    refine pm_Geq (ih hlt) (by simp only [nI_1]) rfl rfl ?_
                    rw [pm_uJ_s, pm_sJ_at, pm_sJ_s]
                    congr 1
                    funext k
                    unfold mz_J vp_updL
                    grind
                refine pm_Geq (hloop 0 (Nat.zero_le _)) rfl rfl ?_ ?_
                · clear C C2 hloop; grind
                · funext a
                  by_cases e : a = 116
                  · subst e; rw [pm_sJ_at]; funext k; unfold mz_J; rw [if_neg (by omega)]
                  · rw [pm_sJ_off _ _ _ _ e]
            · refine g_bipush (pc := 36) (v := (-14)) C dX8_sheet_36 (by decide) ?_
              refine g_iret (pc := 38) C C2 dX8_sheet_38 rfl (Nat.le_refl _) (Nat.le_refl _) ?_
              clear C C2
              exact ⟨by grind, rfl, by grind, by grind⟩
        · refine g_iconst (pc := 26) (v := (-1)) C dX8_sheet_26 (by decide) ?_
          refine g_iret (pc := 27) C C2 dX8_sheet_27 rfl (Nat.le_refl _) (Nat.le_refl _) ?_
          clear C C2
          exact ⟨by grind, rfl, by grind, by grind⟩
