/-! Help; rows proved and judged -/
theorem pm_b_iff {P Q : Prop} [Decidable P] [Decidable Q] (h : P ↔ Q) : pm_b P = pm_b Q := by
  unfold pm_b
  by_cases q : P
  · rw [if_pos q, if_pos (h.mp q)]
  · rw [if_neg q, if_neg (fun z => q (h.mpr z))]
abbrev hp_P (I : pm_I) (n i j : Nat) : Prop := i ≠ j ∧ bl_can (bl_L I) i j 6 n 10
/-- a row behind i + 1 hours -/
def pr_R (I : pm_I) (t n b i w : Nat) : Int32 := if w = 0 then tr_H I 0 t b (i + 1) else if w = 1 then tr_ev (I 2) 0 t (bl_L I b) (i + 1) 5 else nI (tr_Ti I 0 t n b (bl_L I b 2) (i + 1))
def pr_In (I : pm_I) (t m n b i w : Nat) (I2 : pm_I) : Prop := (∀ a, a ≠ 0 → (a < 48 ∨ 86 ≤ a) → I2 a = I a) ∧ (∀ p, p ≠ 7 → I2 0 p = I 0 p) ∧ I2 0 7 = nI m ∧ (I2 48 5 = nI m ∧ ∀ c, c < n → ∀ k, k ≤ m → I2 (52 + c) k = tr_H I 0 t c k ∧ I2 (59 + c) k = tr_ev (I 2) 0 t (bl_L I c) k 5) ∧ (∀ j, j < i → ∀ v, v < 3 → I2 (66 + j) v = pr_R I t n b j v) ∧ ∀ v, v < w → I2 (66 + i) v = pr_R I t n b i v
theorem pr_In_0 {I I2 : pm_I} {t m n b : Nat} (h : tr_In I t m 0 n I2) : pr_In I t m n b 0 0 (pm_u I2 0 7 (nI m)) := by
  refine ⟨fun a h0 ha => ?_, fun p hp => ?_, ?_, ⟨?_, fun c hc k hk => ?_⟩, fun j hj => by omega, fun v hv => by omega⟩
  · rw [pm_u_off h0]
    exact h.1 a (by omega)
  · rw [pm_u_at, pk_un hp, h.1 0 (by decide)]
  · rw [pm_u_at, pk_us]
  · rw [pm_u_off (by decide)]
    exact h.2.2.1
  · rw [pm_u_off (by omega), pm_u_off (by omega)]
    exact h.2.2.2 c hc k hk
theorem pr_In_put {I I2 : pm_I} {t m n b i w : Nat} {x : Int32} (hi : i < 20) (h6 : n ≤ 6) (h : pr_In I t m n b i w I2) (hx : x = pr_R I t n b i w) : pr_In I t m n b i (w + 1) (pm_u I2 (66 + i) w x) := by
  obtain ⟨h1, h2, h3, ⟨h4, h5⟩, h7, h8⟩ := h
  refine ⟨fun a h0 ha => ?_, fun p hp => ?_, ?_, ⟨?_, fun c hc k hk => ?_⟩, fun j hj v hv => ?_, fun v hv => ?_⟩
  · rw [pm_u_off (by omega)]
    exact h1 a h0 ha
  · rw [pm_u_off (by omega)]
    exact h2 p hp
  · rw [pm_u_off (by omega)]
    exact h3
  · rw [pm_u_off (by omega)]
    exact h4
  · rw [pm_u_off (by omega), pm_u_off (by omega)]
    exact h5 c hc k hk
  · rw [pm_u_off (by omega)]
    exact h7 j hj v hv
  · rw [pm_u_at]
    by_cases e : v = w
    · subst e
      rw [pk_us]
      exact hx
    · rw [pk_un e]
      exact h8 v (by omega)
theorem pr_In_next {I I2 : pm_I} {t m n b i : Nat} (h : pr_In I t m n b i 3 I2) : pr_In I t m n b (i + 1) 0 I2 := by
  obtain ⟨h1, h2, h3, h4, h7, h8⟩ := h
  refine ⟨h1, h2, h3, h4, fun j hj v hv => ?_, fun v hv => by omega⟩
  by_cases e : j = i
  · subst e
    exact h8 v hv
  · exact h7 j (by omega) v hv
theorem pr_rp {I I2 : pm_I} {t m n b i w : Nat} (h6 : n ≤ 6) (hb : b < n) (hi : i < m) (e1 : I2 1 = I 1) (eL : ∀ c, c < n → bl_L I2 c = bl_L I c) (h : ∀ c, c < n → ∀ k, k ≤ m → I2 (52 + c) k = tr_H I 0 t c k ∧ I2 (59 + c) k = tr_ev (I 2) 0 t (bl_L I c) k 5) :
    (if w = 0 then I2 (52 + b) (i + 1) else if w = 1 then I2 (59 + b) (i + 1) else nI (tr_ti (bl_L I2) (tr_H I 0 t) (I2 1 4) b (bl_L I2 b 2) (i + 1) n)) = pr_R I t n b i w := by
  unfold pr_R
  rw [(h b hb (i + 1) (by omega)).1, (h b hb (i + 1) (by omega)).2, e1, eL b hb, tr_ti_congr hb (fun c hc => by rw [eL c hc]) (fun c hc => rfl) n (Nat.le_refl _)]
theorem hp_st_no {P : Nat → Nat → Prop} [∀ i j, Decidable (P i j)] {Q : Nat → Nat → Int32} {i j : Nat} {s : Int32 × Int32} (h : ¬ P i j) : hp_st P Q i j s = s := if_neg h
theorem hp_st_set {P : Nat → Nat → Prop} [∀ i j, Decidable (P i j)] {Q : Nat → Nat → Int32} {i j : Nat} {s : Int32 × Int32} (h : P i j) (h2 : s.1 = -3 ∨ Q i j < s.2) : hp_st P Q i j s = (nI (10 * i + j), Q i j) := by rw [hp_st, if_pos h, if_pos h2]
theorem hp_st_keep {P : Nat → Nat → Prop} [∀ i j, Decidable (P i j)] {Q : Nat → Nat → Int32} {i j : Nat} {s : Int32 × Int32} (h : P i j) (h1 : ¬ s.1 = -3) (h2 : s.2 ≤ Q i j) : hp_st P Q i j s = s := by rw [hp_st, if_pos h, if_neg (fun q => q.elim h1 (Int32.not_lt.mpr h2))]
abbrev pr_ok (I : pm_I) (i : Nat) (R : Nat → Int32) : Prop := I (66 + i) 0 = R 0 ∧ I (66 + i) 1 = R 1 ∧ I (66 + i) 2 = R 2
theorem pr_ok_iff {I : pm_I} {i : Nat} {R : Nat → Int32} : pr_ok I i R ↔ ∀ w, w < 3 → I (66 + i) w = R w := by
  constructor
  · rintro ⟨h0, h1, h2⟩ w hw
    rcases (show w = 0 ∨ w = 1 ∨ w = 2 by omega) with rfl | rfl | rfl
    · exact h0
    · exact h1
    · exact h2
  · exact fun h => ⟨h 0 (by decide), h 1 (by decide), h 2 (by decide)⟩
/-- what rowPart says, by its number -/
def pr_v (I : pm_I) (Hf : Nat → Nat → Int32) (n b i w : Nat) : Int32 := if w = 0 then I (52 + b) (i + 1) else if w = 1 then I (59 + b) (i + 1) else nI (tr_ti (bl_L I) Hf (I 1 4) b (bl_L I b 2) (i + 1) n)
set_option maxHeartbeats 4000000 in
set_option maxRecDepth 100000 in
theorem c_X7_help {d : Nat} {I : pm_I} {J : pm_J} {n : Nat} (hn : I 1 2 = nI n) (h6 : n ≤ 6) {t : Nat} (ht : I 1 3 = nI t) (ht96 : t ≤ 96) {h : Nat} (h1 : 1 ≤ h) (hh : h ≤ 24) : pm_M (d + 6) 0 0 yX7_help cX7_help 7 (some .int) [.ref 0, .int (nI h)] SHP I J (fun r sh2 I2 J2 => r = some (.int ((hp_out (hp_P I n) (fun i j => hp_Q I t (min h (96 - t)) n i j 10) n n).1)) ∧ sh2 = SHP ∧ J2 = J ∧ tr_off I I2) := by
  refine pm_start (own := RX7) (nm := "help") (by decide) rfl rfl (L := [(0, .ref 0), (1, .int (nI h))]) rfl (Nat.le_of_ble_eq_true rfl) (fun Γ C C2 => ?_)
  generalize hm : min h (96 - t) = m at C2
  have hm48 : m ≤ 48 := by omega
  have htm : t + m ≤ 96 := by omega
  have hloop : ∀ i, i ≤ n → ∀ I9, tr_In I t m 0 n I9 → pm_G Γ 0 0 29 [(0, .ref 0), (1, .int (nI h)), (2, .int (hp_out (hp_P I n) (fun i j => hp_Q I t m n i j 10) n i).1), (3, .int (hp_out (hp_P I n) (fun i j => hp_Q I t m n i j 10) n i).2), (4, .int (nI i))] [] SHP I9 J := by
    refine pm_up (fun i => ∀ I9, tr_In I t m 0 n I9 → pm_G Γ 0 0 29 [(0, .ref 0), (1, .int (nI h)), (2, .int (hp_out (hp_P I n) (fun i j => hp_Q I t m n i j 10) n i).1), (3, .int (hp_out (hp_P I n) (fun i j => hp_Q I t m n i j 10) n i).2), (4, .int (nI i))] [] SHP I9 J) n (fun i hi ih I9 hI9 => ?_)
    obtain ⟨f1, f2, f3, f4⟩ := tr_In_facts hI9 h6
    have hn9 : I9 1 2 = nI n := by rw [f1]; exact hn
    refine g_iload (pc := 29) (j := 4) C dX7_help_29 rfl ?_
    refine g_aload_n (pc := 31) (i := 0) (j := 0) C dX7_help_31 rfl rfl ?_
    refine g_getR (pc := 32) C dX7_help_32 lfX7_10 (by first | rfl | assumption) rfl ?_
    refine g_getI (pc := 35) C dX7_help_35 lfX7_93 (by first | rfl | assumption) rfl ?_
    refine g_icmp_ge (pc := 38) (tgt := 135) C dX7_help_38 (by decide) (fun h38 => ?_) (fun h38 => ?_)
    · have ei : i = n := by rw [hn9] at h38; have := (nI_leI (a := n) (b := i) (by omega) (by omega)).mp h38; omega
      subst ei
      refine g_iload_n (pc := 135) (i := 2) (j := 2) C dX7_help_135 rfl rfl ?_
      refine g_iret (pc := 136) C C2 dX7_help_136 rfl (Nat.le_refl _) (Nat.le_refl _) ?_
      exact ⟨rfl, rfl, rfl, hI9.1⟩
    · have hilt : i < n := by rw [hn9] at h38; exact Nat.lt_of_not_le (fun q => h38 ((nI_leI (a := n) (b := i) (by omega) (by omega)).mpr q))
      refine g_iconst (pc := 41) (v := 0) C dX7_help_41 (by decide) ?_
      refine g_istore (pc := 42) (L2 := [(0, _), (1, _), (2, _), (3, _), (4, _), (5, _)]) C dX7_help_42 (by decide) rfl ?_
      have hq : ∀ j, j ≤ n → ∀ I9, tr_In I t m 0 n I9 → pm_G Γ 0 0 44 [(0, .ref 0), (1, .int (nI h)), (2, .int (hp_in (hp_P I n) (fun i j => hp_Q I t m n i j 10) i (hp_out (hp_P I n) (fun i j => hp_Q I t m n i j 10) n i) j).1), (3, .int (hp_in (hp_P I n) (fun i j => hp_Q I t m n i j 10) i (hp_out (hp_P I n) (fun i j => hp_Q I t m n i j 10) n i) j).2), (4, .int (nI i)), (5, .int (nI j))] [] SHP I9 J := by
        refine pm_up (fun j => ∀ I9, tr_In I t m 0 n I9 → pm_G Γ 0 0 44 [(0, .ref 0), (1, .int (nI h)), (2, .int (hp_in (hp_P I n) (fun i j => hp_Q I t m n i j 10) i (hp_out (hp_P I n) (fun i j => hp_Q I t m n i j 10) n i) j).1), (3, .int (hp_in (hp_P I n) (fun i j => hp_Q I t m n i j 10) i (hp_out (hp_P I n) (fun i j => hp_Q I t m n i j 10) n i) j).2), (4, .int (nI i)), (5, .int (nI j))] [] SHP I9 J) n (fun j hj ih2 I9 hI9 => ?_)
        obtain ⟨f1, f2, f3, f4⟩ := tr_In_facts hI9 h6
        have hn9 : I9 1 2 = nI n := by rw [f1]; exact hn
        refine g_iload (pc := 44) (j := 5) C dX7_help_44 rfl ?_
        refine g_aload_n (pc := 46) (i := 0) (j := 0) C dX7_help_46 rfl rfl ?_
        refine g_getR (pc := 47) C dX7_help_47 lfX7_10 (by first | rfl | assumption) rfl ?_
        refine g_getI (pc := 50) C dX7_help_50 lfX7_93 (by first | rfl | assumption) rfl ?_
        refine g_icmp_ge (pc := 53) (tgt := 129) C dX7_help_53 (by decide) (fun h53 => ?_) (fun h53 => ?_)
        · have ej : j = n := by rw [hn9] at h53; have := (nI_leI (a := n) (b := j) (by omega) (by omega)).mp h53; omega
          subst ej
          refine g_iinc (pc := 129) (j := 4) (v := _ + 1) (L2 := [(0, _), (1, _), (2, _), (3, _), (4, _), (5, _)]) C dX7_help_129 rfl rfl (by decide) rfl ?_
          refine g_goto (pc := 132) (tgt := 29) C dX7_help_132 (by decide) ?_
          exact pm_drop (pm_Geq (ih hilt I9 hI9) (by simp only [nI_1, hp_out]; rfl) rfl rfl rfl) [0, 1, 2, 3, 4] rfl
        · have hjlt : j < n := by rw [hn9] at h53; exact Nat.lt_of_not_le (fun q => h53 ((nI_leI (a := n) (b := j) (by omega) (by omega)).mpr q))
          refine g_iload (pc := 56) (j := 4) C dX7_help_56 rfl ?_
          refine g_iload (pc := 58) (j := 5) C dX7_help_58 rfl ?_
          refine g_icmp_eq (pc := 60) (tgt := 123) C dX7_help_60 (by decide) (fun h60 => ?_) (fun h60 => ?_)
          · refine g_iinc (pc := 123) (j := 5) (v := _ + 1) (L2 := [(0, _), (1, _), (2, _), (3, _), (4, _), (5, _)]) C dX7_help_123 rfl rfl (by decide) rfl ?_
            refine g_goto (pc := 126) (tgt := 44) C dX7_help_126 (by decide) ?_
            first
              | refine pm_drop (pm_Geq (ih2 hjlt I10 hI10) ?_ rfl rfl rfl) [0, 1, 2, 3, 4, 5] rfl
              | refine pm_Geq (ih2 hjlt I9 hI9) ?_ rfl rfl rfl
            clear C C2 ih ih2
            have e0 := nI_eq (a := i) (b := j) (by omega) (by omega)
            simp only [hp_in, nI_1]
            first | (have q0 : nI i = nI j := h60; rw [hp_st_no (fun q => q.1 (e0.mp q0))] <;> rfl) | (have q0 : ¬ bl_can (bl_L I) i j 6 n 10 := h78; rw [hp_st_no (fun q => q0 q.2)] <;> rfl) | (have q1 : _ = (-3 : Int32) := h102; rw [hp_st_set ⟨hij, h78⟩ (Or.inl q1)] <;> rfl) | (have q1 : ¬ _ ≤ _ := h108; rw [hp_st_set ⟨hij, h78⟩ (Or.inr (Int32.not_le.mp q1))] <;> rfl) | (rw [hp_st_keep ⟨hij, h78⟩ h102 h108] <;> rfl)
          · have hij : i ≠ j := fun q => h60 (by rw [q])
            refine g_aload_n (pc := 63) (i := 0) (j := 0) C dX7_help_63 rfl rfl ?_
            refine g_getR (pc := 64) C dX7_help_64 lfX7_10 (by first | rfl | assumption) rfl ?_
            refine g_iload (pc := 67) (j := 4) C dX7_help_67 rfl ?_
            refine g_iload (pc := 69) (j := 5) C dX7_help_69 rfl ?_
            refine g_bipush (pc := 71) (v := 6) C dX7_help_71 (by decide) ?_
            refine g_bipush (pc := 73) (v := 10) C dX7_help_73 (by decide) ?_
            refine g_callV (pc := 75) C dX7_help_75 lmX7_144 kcX5_canGive (by decide) (by first | rfl | assumption) (c_X5_canGive (i := i) (j := j) (p := 6) (by omega) (by omega) (by decide) hn9 h6) rfl rfl (Nat.le_of_ble_eq_true rfl) ?_
            intro r9 sh9 I9 J9 hD9; obtain ⟨rfl, rfl, rfl, rfl⟩ := pm_Dq hD9
            try simp only [Option.toList_some, Option.toList_none, List.cons_append, List.nil_append]
            rw [pm_b_iff (bl_can_congr hilt hjlt f3)]
            refine g_if_neB (pc := 78) (tgt := 84) C dX7_help_78 (by decide) (fun h78 => ?_) (fun h78 => ?_)
            · refine g_aload_n (pc := 84) (i := 0) (j := 0) C dX7_help_84 rfl rfl ?_
              refine g_getR (pc := 85) C dX7_help_85 lfX7_38 (by first | rfl | assumption) rfl ?_
              refine g_iload (pc := 88) (j := 4) C dX7_help_88 rfl ?_
              refine g_iload (pc := 90) (j := 5) C dX7_help_90 rfl ?_
              refine g_bipush (pc := 92) (v := 10) C dX7_help_92 (by decide) ?_
              refine g_callV (pc := 94) C dX7_help_94 lmX7_188 kcX6_pairsWithGift (by decide) (by first | rfl | assumption) (c_X6_pairsWithGift (I0 := I) hn h6 ht htm hm48 hilt hjlt hij hI9) rfl rfl (Nat.le_of_ble_eq_true rfl) ?_
              rintro r9 sh9 I10 J9 ⟨e1, e2, e3, hI10⟩
              try simp only [Option.toList_some, Option.toList_none, List.cons_append, List.nil_append]
              subst e1 e2
              obtain rfl := e3.symm
              simp only [Option.toList_some, List.cons_append, List.nil_append]
              refine g_istore (pc := 97) (L2 := [(0, _), (1, _), (2, _), (3, _), (4, _), (5, _), (6, _)]) C dX7_help_97 (by decide) rfl ?_
              refine g_iload_n (pc := 99) (i := 2) (j := 2) C dX7_help_99 rfl rfl ?_
              refine g_bipush (pc := 100) (v := (-3)) C dX7_help_100 (by decide) ?_
              refine g_icmp_eq (pc := 102) (tgt := 111) C dX7_help_102 (by decide) (fun h102 => ?_) (fun h102 => ?_)
              · refine g_bipush (pc := 111) (v := 10) C dX7_help_111 (by decide) ?_
                refine g_iload (pc := 113) (j := 4) C dX7_help_113 rfl ?_
                refine g_imul (pc := 115) C dX7_help_115 ?_
                refine g_iload (pc := 116) (j := 5) C dX7_help_116 rfl ?_
                refine g_iadd (pc := 118) C dX7_help_118 ?_
                rw [show (10 : Int32) * nI i + nI j = nI (10 * i + j) from by rw [show (10 : Int32) = nI 10 from rfl, pk_mul, nI_add]]
                refine g_istore_n (pc := 119) (i := 2) (L2 := [(0, _), (1, _), (2, _), (3, _), (4, _), (5, _), (6, _)]) C dX7_help_119 rfl (by decide) rfl ?_
                refine g_iload (pc := 120) (j := 6) C dX7_help_120 rfl ?_
                refine g_istore_n (pc := 122) (i := 3) (L2 := [(0, _), (1, _), (2, _), (3, _), (4, _), (5, _), (6, _)]) C dX7_help_122 rfl (by decide) rfl ?_
                refine g_iinc (pc := 123) (j := 5) (v := _ + 1) (L2 := [(0, _), (1, _), (2, _), (3, _), (4, _), (5, _), (6, _)]) C dX7_help_123 rfl rfl (by decide) rfl ?_
                refine g_goto (pc := 126) (tgt := 44) C dX7_help_126 (by decide) ?_
                first
                  | refine pm_drop (pm_Geq (ih2 hjlt I10 hI10) ?_ rfl rfl rfl) [0, 1, 2, 3, 4, 5] rfl
                  | refine pm_Geq (ih2 hjlt I9 hI9) ?_ rfl rfl rfl
                clear C C2 ih ih2
                have e0 := nI_eq (a := i) (b := j) (by omega) (by omega)
                simp only [hp_in, nI_1]
                first | (have q0 : nI i = nI j := h60; rw [hp_st_no (fun q => q.1 (e0.mp q0))] <;> rfl) | (have q0 : ¬ bl_can (bl_L I) i j 6 n 10 := h78; rw [hp_st_no (fun q => q0 q.2)] <;> rfl) | (have q1 : _ = (-3 : Int32) := h102; rw [hp_st_set ⟨hij, h78⟩ (Or.inl q1)] <;> rfl) | (have q1 : ¬ _ ≤ _ := h108; rw [hp_st_set ⟨hij, h78⟩ (Or.inr (Int32.not_le.mp q1))] <;> rfl) | (rw [hp_st_keep ⟨hij, h78⟩ h102 h108] <;> rfl)
              · refine g_iload (pc := 105) (j := 6) C dX7_help_105 rfl ?_
                refine g_iload_n (pc := 107) (i := 3) (j := 3) C dX7_help_107 rfl rfl ?_
                refine g_icmp_ge (pc := 108) (tgt := 123) C dX7_help_108 (by decide) (fun h108 => ?_) (fun h108 => ?_)
                · refine g_iinc (pc := 123) (j := 5) (v := _ + 1) (L2 := [(0, _), (1, _), (2, _), (3, _), (4, _), (5, _), (6, _)]) C dX7_help_123 rfl rfl (by decide) rfl ?_
                  refine g_goto (pc := 126) (tgt := 44) C dX7_help_126 (by decide) ?_
                  first
                    | refine pm_drop (pm_Geq (ih2 hjlt I10 hI10) ?_ rfl rfl rfl) [0, 1, 2, 3, 4, 5] rfl
                    | refine pm_Geq (ih2 hjlt I9 hI9) ?_ rfl rfl rfl
                  clear C C2 ih ih2
                  have e0 := nI_eq (a := i) (b := j) (by omega) (by omega)
                  simp only [hp_in, nI_1]
                  first | (have q0 : nI i = nI j := h60; rw [hp_st_no (fun q => q.1 (e0.mp q0))] <;> rfl) | (have q0 : ¬ bl_can (bl_L I) i j 6 n 10 := h78; rw [hp_st_no (fun q => q0 q.2)] <;> rfl) | (have q1 : _ = (-3 : Int32) := h102; rw [hp_st_set ⟨hij, h78⟩ (Or.inl q1)] <;> rfl) | (have q1 : ¬ _ ≤ _ := h108; rw [hp_st_set ⟨hij, h78⟩ (Or.inr (Int32.not_le.mp q1))] <;> rfl) | (rw [hp_st_keep ⟨hij, h78⟩ h102 h108] <;> rfl)
                · refine g_bipush (pc := 111) (v := 10) C dX7_help_111 (by decide) ?_
                  refine g_iload (pc := 113) (j := 4) C dX7_help_113 rfl ?_
                  refine g_imul (pc := 115) C dX7_help_115 ?_
                  refine g_iload (pc := 116) (j := 5) C dX7_help_116 rfl ?_
                  refine g_iadd (pc := 118) C dX7_help_118 ?_
                  rw [show (10 : Int32) * nI i + nI j = nI (10 * i + j) from by rw [show (10 : Int32) = nI 10 from rfl, pk_mul, nI_add]]
                  refine g_istore_n (pc := 119) (i := 2) (L2 := [(0, _), (1, _), (2, _), (3, _), (4, _), (5, _), (6, _)]) C dX7_help_119 rfl (by decide) rfl ?_
                  refine g_iload (pc := 120) (j := 6) C dX7_help_120 rfl ?_
                  refine g_istore_n (pc := 122) (i := 3) (L2 := [(0, _), (1, _), (2, _), (3, _), (4, _), (5, _), (6, _)]) C dX7_help_122 rfl (by decide) rfl ?_
                  refine g_iinc (pc := 123) (j := 5) (v := _ + 1) (L2 := [(0, _), (1, _), (2, _), (3, _), (4, _), (5, _), (6, _)]) C dX7_help_123 rfl rfl (by decide) rfl ?_
                  refine g_goto (pc := 126) (tgt := 44) C dX7_help_126 (by decide) ?_
                  first
                    | refine pm_drop (pm_Geq (ih2 hjlt I10 hI10) ?_ rfl rfl rfl) [0, 1, 2, 3, 4, 5] rfl
                    | refine pm_Geq (ih2 hjlt I9 hI9) ?_ rfl rfl rfl
                  clear C C2 ih ih2
                  have e0 := nI_eq (a := i) (b := j) (by omega) (by omega)
                  simp only [hp_in, nI_1]
                  first | (have q0 : nI i = nI j := h60; rw [hp_st_no (fun q => q.1 (e0.mp q0))] <;> rfl) | (have q0 : ¬ bl_can (bl_L I) i j 6 n 10 := h78; rw [hp_st_no (fun q => q0 q.2)] <;> rfl) | (have q1 : _ = (-3 : Int32) := h102; rw [hp_st_set ⟨hij, h78⟩ (Or.inl q1)] <;> rfl) | (have q1 : ¬ _ ≤ _ := h108; rw [hp_st_set ⟨hij, h78⟩ (Or.inr (Int32.not_le.mp q1))] <;> rfl) | (rw [hp_st_keep ⟨hij, h78⟩ h102 h108] <;> rfl)
            · refine g_goto (pc := 81) (tgt := 123) C dX7_help_81 (by decide) ?_
              refine g_iinc (pc := 123) (j := 5) (v := _ + 1) (L2 := [(0, _), (1, _), (2, _), (3, _), (4, _), (5, _)]) C dX7_help_123 rfl rfl (by decide) rfl ?_
              refine g_goto (pc := 126) (tgt := 44) C dX7_help_126 (by decide) ?_
              first
                | refine pm_drop (pm_Geq (ih2 hjlt I10 hI10) ?_ rfl rfl rfl) [0, 1, 2, 3, 4, 5] rfl
                | refine pm_Geq (ih2 hjlt I9 hI9) ?_ rfl rfl rfl
              clear C C2 ih ih2
              have e0 := nI_eq (a := i) (b := j) (by omega) (by omega)
              simp only [hp_in, nI_1]
              first | (have q0 : nI i = nI j := h60; rw [hp_st_no (fun q => q.1 (e0.mp q0))] <;> rfl) | (have q0 : ¬ bl_can (bl_L I) i j 6 n 10 := h78; rw [hp_st_no (fun q => q0 q.2)] <;> rfl) | (have q1 : _ = (-3 : Int32) := h102; rw [hp_st_set ⟨hij, h78⟩ (Or.inl q1)] <;> rfl) | (have q1 : ¬ _ ≤ _ := h108; rw [hp_st_set ⟨hij, h78⟩ (Or.inr (Int32.not_le.mp q1))] <;> rfl) | (rw [hp_st_keep ⟨hij, h78⟩ h102 h108] <;> rfl)
      exact hq 0 (Nat.zero_le _) I9 hI9
  refine g_iload_n (pc := 0) (i := 1) (j := 1) C dX7_help_0 rfl rfl ?_
  refine g_iconst (pc := 1) (v := 1) C dX7_help_1 (by decide) ?_
  refine g_bipush (pc := 2) (v := 24) C dX7_help_2 (by decide) ?_
  refine g_callS (pc := 4) C dX7_help_4 lmX7_72 kcX7_within (by decide) (c_X7_within) rfl rfl (Nat.le_of_ble_eq_true rfl) ?_
  intro r9 sh9 I9 J9 hD9; obtain ⟨rfl, rfl, rfl, rfl⟩ := pm_Dq hD9
  try simp only [Option.toList_some, Option.toList_none, List.cons_append, List.nil_append]
  refine g_if_neB (pc := 7) (tgt := 12) C dX7_help_7 (by decide) (fun h7 => ?_) (fun h7 => absurd ⟨by exact nI_le (a := 1) h1 (by omega), by exact nI_le (b := 24) hh (by decide)⟩ h7)
  refine g_aload_n (pc := 12) (i := 0) (j := 0) C dX7_help_12 rfl rfl ?_
  refine g_getR (pc := 13) C dX7_help_13 lfX7_38 (by first | rfl | assumption) rfl ?_
  refine g_iload_n (pc := 16) (i := 1) (j := 1) C dX7_help_16 rfl rfl ?_
  refine g_iconst (pc := 17) (v := 0) C dX7_help_17 (by decide) ?_
  refine g_callV (pc := 18) C dX7_help_18 lmX7_163 kcX6_run (by decide) (by first | rfl | assumption) (c_X6_run (t := t) (h := h) hn h6 ht ht96 (by omega)) rfl rfl (Nat.le_of_ble_eq_true rfl) ?_
  rintro r9 sh9 I9 J9 ⟨e1, e2, e3, hI9⟩
  try simp only [Option.toList_some, Option.toList_none, List.cons_append, List.nil_append]
  subst e1 e2
  obtain rfl := e3.symm
  obtain ⟨f1, f2, f3, f4⟩ := tr_In_facts hI9 h6
  try simp only [Option.toList_none, List.nil_append]
  refine g_bipush (pc := 21) (v := (-3)) C dX7_help_21 (by decide) ?_
  refine g_istore_n (pc := 23) (i := 2) (L2 := [(0, _), (1, _), (2, _)]) C dX7_help_23 rfl (by decide) rfl ?_
  refine g_iconst (pc := 24) (v := 0) C dX7_help_24 (by decide) ?_
  refine g_istore_n (pc := 25) (i := 3) (L2 := [(0, _), (1, _), (2, _), (3, _)]) C dX7_help_25 rfl (by decide) rfl ?_
  refine g_iconst (pc := 26) (v := 0) C dX7_help_26 (by decide) ?_
  refine g_istore (pc := 27) (L2 := [(0, _), (1, _), (2, _), (3, _), (4, _)]) C dX7_help_27 (by decide) rfl ?_
  rw [hm] at hI9
  exact hloop 0 (Nat.zero_le _) I9 hI9

set_option maxHeartbeats 4000000 in
set_option maxRecDepth 100000 in
theorem c_X7_help0 {d : Nat} {x : Int32} {I : pm_I} {J : pm_J} (hv : ¬ (1 ≤ x ∧ x ≤ 24)) : pm_M (d + 1) 0 0 yX7_help cX7_help 7 (some .int) [.ref 0, .int x] SHP I J (fun r sh2 I2 J2 => r = some (.int (-1)) ∧ sh2 = SHP ∧ J2 = J ∧ tr_off I I2) := by
  refine pm_start (own := RX7) (nm := "help") (by decide) rfl rfl (L := [(0, .ref 0), (1, .int x)]) rfl (Nat.le_of_ble_eq_true rfl) (fun Γ C C2 => ?_)
  refine g_iload_n (pc := 0) (i := 1) (j := 1) C dX7_help_0 rfl rfl ?_
  refine g_iconst (pc := 1) (v := 1) C dX7_help_1 (by decide) ?_
  refine g_bipush (pc := 2) (v := 24) C dX7_help_2 (by decide) ?_
  refine g_callS (pc := 4) C dX7_help_4 lmX7_72 kcX7_within (by decide) (c_X7_within) rfl rfl (Nat.le_of_ble_eq_true rfl) ?_
  intro r9 sh9 I9 J9 hD9; obtain ⟨rfl, rfl, rfl, rfl⟩ := pm_Dq hD9
  try simp only [Option.toList_some, Option.toList_none, List.cons_append, List.nil_append]
  refine g_if_neB (pc := 7) (tgt := 12) C dX7_help_7 (by decide) (fun h7 => ?_) (fun h7 => ?_)
  · exact absurd h7 hv
  · refine g_iconst (pc := 10) (v := (-1)) C dX7_help_10 (by decide) ?_
    refine g_iret (pc := 11) C C2 dX7_help_11 rfl (Nat.le_refl _) (Nat.le_refl _) ?_
    exact ⟨rfl, rfl, rfl, tr_off_rf _⟩

set_option maxHeartbeats 4000000 in
set_option maxRecDepth 100000 in
theorem c_X7_isRowRight {d : Nat} {b i m : Nat} {I : pm_I} {J : pm_J} {n : Nat} (hn : I 1 2 = nI n) (h6 : n ≤ 6) {Hf : Nat → Nat → Int32} (hH : ∀ b, b < n → ∀ k, k ≤ m → I (52 + b) k = Hf b k) (hb : b < n) (hi : i < m) (hi20 : i < 20) (h48 : m ≤ 48) : pm_M (d + 5) 0 0 yX7_isRowRight cX7_isRowRight 4 (some .boolean) [.ref 0, .int (nI b), .int (nI i)] SHP I J (pm_D (some (.int (pm_b (pr_ok I i (pr_v I Hf n b i))))) SHP I J) := by
  refine pm_start (own := RX7) (nm := "isRowRight") (by decide) rfl rfl (L := [(0, .ref 0), (1, .int (nI b)), (2, .int (nI i))]) rfl (Nat.le_of_ble_eq_true rfl) (fun Γ C C2 => ?_)
  have sR := shR i hi20
  have hloop : ∀ j, j ≤ 3 → (∀ w, w < j → I (66 + i) w = pr_v I Hf n b i w) → pm_G Γ 0 0 2 [(0, .ref 0), (1, .int (nI b)), (2, .int (nI i)), (3, .int (nI j))] [] SHP I J := by
    refine pm_up (fun j => (∀ w, w < j → I (66 + i) w = pr_v I Hf n b i w) → pm_G Γ 0 0 2 [(0, .ref 0), (1, .int (nI b)), (2, .int (nI i)), (3, .int (nI j))] [] SHP I J) 3 (fun j hj ih hz => ?_)
    refine g_iload_n (pc := 2) (i := 3) (j := 3) C dX7_isRowRight_2 rfl rfl ?_
    refine g_iconst (pc := 3) (v := 3) C dX7_isRowRight_3 (by decide) ?_
    refine g_icmp_ge (pc := 4) (tgt := 38) C dX7_isRowRight_4 (by decide) (fun h4 => ?_) (fun h4 => ?_)
    · have ej : j = 3 := by (try rw [hn] at h4); have := (nI_leI (a := 3) (b := j) (by omega) (by omega)).mp h4; omega
      subst ej
      refine g_iconst (pc := 38) (v := 1) C dX7_isRowRight_38 (by decide) ?_
      refine g_iret (pc := 39) C C2 dX7_isRowRight_39 (by first | rfl | exact pm_nz) (Nat.le_refl _) (Nat.le_refl _) ?_
      refine ⟨?_, rfl, rfl, rfl⟩
      rw [pm_b, if_pos (pr_ok_iff.mpr hz)]
    · have hlt : j < 3 := by (try rw [hn] at h4); exact Nat.lt_of_not_le (fun q => h4 ((nI_leI (a := 3) (b := j) (by omega) (by omega)).mpr q))
      refine g_aload_n (pc := 7) (i := 0) (j := 0) C dX7_isRowRight_7 rfl rfl ?_
      refine g_getR (pc := 8) C dX7_isRowRight_8 lfX7_44 (by first | rfl | assumption) rfl ?_
      refine g_iload_n (pc := 11) (i := 2) (j := 2) C dX7_isRowRight_11 rfl rfl ?_
      refine g_aald (pc := 12) C dX7_isRowRight_12 (by first | rfl | assumption) (fun _ => rfl) rfl (by decide) (by first | rfl | assumption) (rsR i hi20) ?_
      refine g_iload_n (pc := 13) (i := 3) (j := 3) C dX7_isRowRight_13 rfl rfl ?_
      refine g_iald (pc := 14) C dX7_isRowRight_14 (by first | rfl | assumption) (by decide) (by first | rfl | assumption) (by first | assumption | decide | omega) ?_
      refine g_aload_n (pc := 15) (i := 0) (j := 0) C dX7_isRowRight_15 rfl rfl ?_
      refine g_getR (pc := 16) C dX7_isRowRight_16 lfX7_38 (by first | rfl | assumption) rfl ?_
      refine g_iload_n (pc := 19) (i := 1) (j := 1) C dX7_isRowRight_19 rfl rfl ?_
      refine g_iload_n (pc := 20) (i := 2) (j := 2) C dX7_isRowRight_20 rfl rfl ?_
      refine g_iconst (pc := 21) (v := 1) C dX7_isRowRight_21 (by decide) ?_
      refine g_iadd (pc := 22) C dX7_isRowRight_22 ?_
      rw [nI_1]
      refine g_iload_n (pc := 23) (i := 3) (j := 3) C dX7_isRowRight_23 rfl rfl ?_
      refine g_callV (pc := 24) C dX7_isRowRight_24 lmX7_197 kcX6_rowPart (by decide) (by first | rfl | assumption) (c_X6_rowPart (k := i + 1) (w := j) (m := m) hlt hn h6 hH hb (by omega) h48) rfl rfl (Nat.le_of_ble_eq_true rfl) ?_
      intro r9 sh9 I9 J9 hD9; obtain ⟨rfl, rfl, rfl, rfl⟩ := pm_Dq hD9
      try simp only [Option.toList_some, Option.toList_none, List.cons_append, List.nil_append]
      refine g_icmp_eq (pc := 27) (tgt := 32) C dX7_isRowRight_27 (by decide) (fun h27 => ?_) (fun h27 => ?_)
      · refine g_iinc (pc := 32) (j := 3) (v := _ + 1) (L2 := [(0, _), (1, _), (2, _), (3, _)]) C dX7_isRowRight_32 rfl rfl (by decide) rfl ?_
        refine g_goto (pc := 35) (tgt := 2) C dX7_isRowRight_35 (by decide) ?_
        refine pm_Geq (ih hlt (fun w hw => ?_)) (by simp only [nI_1]) rfl rfl rfl
        by_cases e : w = j
        · rw [e]; exact h27
        · exact hz w (by omega)
      · refine g_iconst (pc := 30) (v := 0) C dX7_isRowRight_30 (by decide) ?_
        refine g_iret (pc := 31) C C2 dX7_isRowRight_31 (by first | rfl | exact pm_nz) (Nat.le_refl _) (Nat.le_refl _) ?_
        refine ⟨?_, rfl, rfl, rfl⟩
        rw [pm_b, if_neg (fun q => h27 (pr_ok_iff.mp q j hlt))]
  refine g_iconst (pc := 0) (v := 0) C dX7_isRowRight_0 (by decide) ?_
  refine g_istore_n (pc := 1) (i := 3) (L2 := [(0, _), (1, _), (2, _), (3, _)]) C dX7_isRowRight_1 rfl (by decide) rfl ?_
  exact hloop 0 (Nat.zero_le _) (fun w hw => by omega)

set_option maxHeartbeats 4000000 in
set_option maxRecDepth 100000 in
theorem c_X7_judge {d : Nat} {I : pm_I} {J : pm_J} {n : Nat} (hn : I 1 2 = nI n) (h6 : n ≤ 6) {t : Nat} (ht : I 1 3 = nI t) (ht96 : t ≤ 96) {b rc : Nat} (hb : b < n) (hrc : I 0 7 = nI rc) (hrc20 : rc ≤ 20) : pm_M (d + 6) 0 0 yX7_judge cX7_judge 3 (some .int) [.ref 0, .int (nI b)] SHP I J (fun r sh2 I2 J2 => r = some (.int (tr_sr (fun i => min rc (96 - t) < i + 1 ∨ ¬ pr_ok I i (pr_R I t n b i)) (fun i => nI (i + 1)) 0 rc rc)) ∧ sh2 = SHP ∧ J2 = J ∧ tr_off I I2) := by
  refine pm_start (own := RX7) (nm := "judge") (by decide) rfl rfl (L := [(0, .ref 0), (1, .int (nI b))]) rfl (Nat.le_of_ble_eq_true rfl) (fun Γ C C2 => ?_)
  generalize hm : min rc (96 - t) = m at C2
  have hm48 : m ≤ 48 := by omega
  have hloop : ∀ j, j ≤ rc → (tr_sr (fun i => m < i + 1 ∨ ¬ pr_ok I i (pr_R I t n b i)) (fun i => nI (i + 1)) 0 rc rc = tr_sr (fun i => m < i + 1 ∨ ¬ pr_ok I i (pr_R I t n b i)) (fun i => nI (i + 1)) 0 rc (rc - j)) → ∀ I9, tr_In I t m 0 n I9 → pm_G Γ 0 0 27 [(0, .ref 0), (1, .int (nI b)), (2, .int (nI j))] [] SHP I9 J := by
    refine pm_up (fun j => (tr_sr (fun i => m < i + 1 ∨ ¬ pr_ok I i (pr_R I t n b i)) (fun i => nI (i + 1)) 0 rc rc = tr_sr (fun i => m < i + 1 ∨ ¬ pr_ok I i (pr_R I t n b i)) (fun i => nI (i + 1)) 0 rc (rc - j)) → ∀ I9, tr_In I t m 0 n I9 → pm_G Γ 0 0 27 [(0, .ref 0), (1, .int (nI b)), (2, .int (nI j))] [] SHP I9 J) rc (fun j hj ih hR I9 hI9 => ?_)
    obtain ⟨f1, f2, f3, f4⟩ := tr_In_facts hI9 h6
    have hr9 : I9 0 7 = nI rc := by rw [hI9.1 0 (by decide)]; exact hrc
    have e9 : ∀ i w, i < m → pr_v I9 (tr_H I 0 t) n b i w = pr_R I t n b i w := fun i w hi => pr_rp h6 hb hi f1 f3 hI9.2.2.2
    have e8 : ∀ i, i < 20 → I9 (66 + i) = I (66 + i) := fun i hi => hI9.1 (66 + i) (by omega)
    refine g_iload_n (pc := 27) (i := 2) (j := 2) C dX7_judge_27 rfl rfl ?_
    refine g_aload_n (pc := 28) (i := 0) (j := 0) C dX7_judge_28 rfl rfl ?_
    refine g_getI (pc := 29) C dX7_judge_29 lfX7_47 (by first | rfl | assumption) rfl ?_
    refine g_icmp_ge (pc := 32) (tgt := 67) C dX7_judge_32 (by decide) (fun h32 => ?_) (fun h32 => ?_)
    · have ej : j = rc := by (try rw [hr9] at h32); have := (nI_leI (a := rc) (b := j) (by omega) (by omega)).mp h32; omega
      subst ej
      refine g_iconst (pc := 67) (v := 0) C dX7_judge_67 (by decide) ?_
      refine g_iret (pc := 68) C C2 dX7_judge_68 rfl (Nat.le_refl _) (Nat.le_refl _) ?_
      refine ⟨?_, rfl, rfl, hI9.1⟩
      rw [hR, Nat.sub_self]
      rfl
    · have hlt : j < rc := by (try rw [hr9] at h32); exact Nat.lt_of_not_le (fun q => h32 ((nI_leI (a := rc) (b := j) (by omega) (by omega)).mpr q))
      refine g_iload_n (pc := 35) (i := 2) (j := 2) C dX7_judge_35 rfl rfl ?_
      refine g_iconst (pc := 36) (v := 1) C dX7_judge_36 (by decide) ?_
      refine g_iadd (pc := 37) C dX7_judge_37 ?_
      refine g_aload_n (pc := 38) (i := 0) (j := 0) C dX7_judge_38 rfl rfl ?_
      refine g_getR (pc := 39) C dX7_judge_39 lfX7_38 (by first | rfl | assumption) rfl ?_
      refine g_getI (pc := 42) C dX7_judge_42 lfX7_170 (by first | rfl | assumption) rfl ?_
      rw [nI_1, hI9.2.2.1]
      refine g_icmp_gt (pc := 45) (tgt := 57) C dX7_judge_45 (by decide) (fun h45 => ?_) (fun h45 => ?_)
      · refine g_iload_n (pc := 57) (i := 2) (j := 2) C dX7_judge_57 rfl rfl ?_
        refine g_iconst (pc := 58) (v := 1) C dX7_judge_58 (by decide) ?_
        refine g_iadd (pc := 59) C dX7_judge_59 ?_
        refine g_iret (pc := 60) C C2 dX7_judge_60 rfl (Nat.le_refl _) (Nat.le_refl _) ?_
        refine ⟨?_, rfl, rfl, hI9.1⟩
        rw [hR, tr_sr_step hlt, if_pos (by first | exact Or.inl ((nI_ltI (a := m) (b := j + 1) (by omega) (by omega)).mp h45) | exact Or.inr h54), nI_1]
      · have hjm : j < m := Nat.lt_of_not_le (fun q => h45 ((nI_ltI (a := m) (b := j + 1) (by omega) (by omega)).mpr (by omega)))
        refine g_aload_n (pc := 48) (i := 0) (j := 0) C dX7_judge_48 rfl rfl ?_
        refine g_iload_n (pc := 49) (i := 1) (j := 1) C dX7_judge_49 rfl rfl ?_
        refine g_iload_n (pc := 50) (i := 2) (j := 2) C dX7_judge_50 rfl rfl ?_
        refine g_callV (pc := 51) C dX7_judge_51 lmX7_203 kcX7_isRowRight (by decide) (by first | rfl | assumption) (c_X7_isRowRight (m := m) (by rw [f1]; exact hn) h6 f4 hb (by omega) (by omega) hm48) rfl rfl (Nat.le_of_ble_eq_true rfl) ?_
        intro r9 sh9 I9 J9 hD9; obtain ⟨rfl, rfl, rfl, rfl⟩ := pm_Dq hD9
        try simp only [Option.toList_some, Option.toList_none, List.cons_append, List.nil_append]
        rw [pm_b_iff (show pr_ok I9 j (pr_v I9 (tr_H I 0 t) n b j) ↔ pr_ok I j (pr_R I t n b j) from by unfold pr_ok; rw [e8 j (by omega), e9 j 0 (by omega), e9 j 1 (by omega), e9 j 2 (by omega)])]
        refine g_if_neB (pc := 54) (tgt := 61) C dX7_judge_54 (by decide) (fun h54 => ?_) (fun h54 => ?_)
        · refine g_iinc (pc := 61) (j := 2) (v := _ + 1) (L2 := [(0, _), (1, _), (2, _)]) C dX7_judge_61 rfl rfl (by decide) rfl ?_
          refine g_goto (pc := 64) (tgt := 27) C dX7_judge_64 (by decide) ?_
          refine pm_Geq (ih hlt ?_ I9 hI9) (by simp only [nI_1]) rfl rfl rfl
          rw [hR, tr_sr_step hlt, if_neg]
          rintro (q | q)
          · omega
          · exact q h54
        · refine g_iload_n (pc := 57) (i := 2) (j := 2) C dX7_judge_57 rfl rfl ?_
          refine g_iconst (pc := 58) (v := 1) C dX7_judge_58 (by decide) ?_
          refine g_iadd (pc := 59) C dX7_judge_59 ?_
          refine g_iret (pc := 60) C C2 dX7_judge_60 rfl (Nat.le_refl _) (Nat.le_refl _) ?_
          refine ⟨?_, rfl, rfl, hI9.1⟩
          rw [hR, tr_sr_step hlt, if_pos (by first | exact Or.inl ((nI_ltI (a := m) (b := j + 1) (by omega) (by omega)).mp h45) | exact Or.inr h54), nI_1]
  refine g_aload_n (pc := 0) (i := 0) (j := 0) C dX7_judge_0 rfl rfl ?_
  refine g_getR (pc := 1) C dX7_judge_1 lfX7_10 (by first | rfl | assumption) rfl ?_
  refine g_iload_n (pc := 4) (i := 1) (j := 1) C dX7_judge_4 rfl rfl ?_
  refine g_callV (pc := 5) C dX7_judge_5 lmX7_115 kcX5_has (by decide) (by first | rfl | assumption) (c_X5_has) rfl rfl (Nat.le_of_ble_eq_true rfl) ?_
  intro r9 sh9 I9 J9 hD9; obtain ⟨rfl, rfl, rfl, rfl⟩ := pm_Dq hD9
  try simp only [Option.toList_some, Option.toList_none, List.cons_append, List.nil_append]
  refine g_if_neB (pc := 8) (tgt := 13) C dX7_judge_8 (by decide) (fun h8 => ?_) (fun h8 => absurd ⟨by exact nI_pos' (by omega), by rw [hn]; exact pm_leP hb (by omega)⟩ h8)
  refine g_aload_n (pc := 13) (i := 0) (j := 0) C dX7_judge_13 rfl rfl ?_
  refine g_getR (pc := 14) C dX7_judge_14 lfX7_38 (by first | rfl | assumption) rfl ?_
  refine g_aload_n (pc := 17) (i := 0) (j := 0) C dX7_judge_17 rfl rfl ?_
  refine g_getI (pc := 18) C dX7_judge_18 lfX7_47 (by first | rfl | assumption) rfl ?_
  rw [hrc]
  refine g_iconst (pc := 21) (v := 0) C dX7_judge_21 (by decide) ?_
  refine g_callV (pc := 22) C dX7_judge_22 lmX7_163 kcX6_run (by decide) (by first | rfl | assumption) (c_X6_run (t := t) (h := rc) hn h6 ht ht96 (by omega)) rfl rfl (Nat.le_of_ble_eq_true rfl) ?_
  rintro r9 sh9 I9 J9 ⟨e1, e2, e3, hI9⟩
  try simp only [Option.toList_some, Option.toList_none, List.cons_append, List.nil_append]
  subst e1 e2
  obtain rfl := e3.symm
  obtain ⟨f1, f2, f3, f4⟩ := tr_In_facts hI9 h6
  try simp only [Option.toList_none, List.nil_append]
  refine g_iconst (pc := 25) (v := 0) C dX7_judge_25 (by decide) ?_
  refine g_istore_n (pc := 26) (i := 2) (L2 := [(0, _), (1, _), (2, _)]) C dX7_judge_26 rfl (by decide) rfl ?_
  rw [hm] at hI9
  exact hloop 0 (Nat.zero_le _) rfl I9 hI9

set_option maxHeartbeats 4000000 in
set_option maxRecDepth 100000 in
theorem c_X7_judge0 {d : Nat} {x : Int32} {I : pm_I} {J : pm_J} (hv : ¬ (0 ≤ x ∧ x ≤ I 1 2 - 1)) : pm_M (d + 2) 0 0 yX7_judge cX7_judge 3 (some .int) [.ref 0, .int x] SHP I J (fun r sh2 I2 J2 => r = some (.int (-1)) ∧ sh2 = SHP ∧ J2 = J ∧ tr_off I I2) := by
  refine pm_start (own := RX7) (nm := "judge") (by decide) rfl rfl (L := [(0, .ref 0), (1, .int x)]) rfl (Nat.le_of_ble_eq_true rfl) (fun Γ C C2 => ?_)
  refine g_aload_n (pc := 0) (i := 0) (j := 0) C dX7_judge_0 rfl rfl ?_
  refine g_getR (pc := 1) C dX7_judge_1 lfX7_10 (by first | rfl | assumption) rfl ?_
  refine g_iload_n (pc := 4) (i := 1) (j := 1) C dX7_judge_4 rfl rfl ?_
  refine g_callV (pc := 5) C dX7_judge_5 lmX7_115 kcX5_has (by decide) (by first | rfl | assumption) (c_X5_has) rfl rfl (Nat.le_of_ble_eq_true rfl) ?_
  intro r9 sh9 I9 J9 hD9; obtain ⟨rfl, rfl, rfl, rfl⟩ := pm_Dq hD9
  try simp only [Option.toList_some, Option.toList_none, List.cons_append, List.nil_append]
  refine g_if_neB (pc := 8) (tgt := 13) C dX7_judge_8 (by decide) (fun h8 => ?_) (fun h8 => ?_)
  · exact absurd h8 hv
  · refine g_iconst (pc := 11) (v := (-1)) C dX7_judge_11 (by decide) ?_
    refine g_iret (pc := 12) C C2 dX7_judge_12 rfl (Nat.le_refl _) (Nat.le_refl _) ?_
    exact ⟨rfl, rfl, rfl, tr_off_rf _⟩

set_option maxHeartbeats 4000000 in
set_option maxRecDepth 100000 in
theorem c_X7_prove {d : Nat} {I : pm_I} {J : pm_J} {n : Nat} (hn : I 1 2 = nI n) (h6 : n ≤ 6) {t : Nat} (ht : I 1 3 = nI t) (ht96 : t ≤ 96) {b h : Nat} (hb : b < n) (h1 : 1 ≤ h) (hh : h ≤ 20) : pm_M (d + 6) 0 0 yX7_prove cX7_prove 5 (some .int) [.ref 0, .int (nI b), .int (nI h)] SHP I J (fun r sh2 I2 J2 => r = some (.int (nI (min h (96 - t)))) ∧ sh2 = SHP ∧ J2 = J ∧ pr_In I t (min h (96 - t)) n b (min h (96 - t)) 0 I2) := by
  refine pm_start (own := RX7) (nm := "prove") (by decide) rfl rfl (L := [(0, .ref 0), (1, .int (nI b)), (2, .int (nI h))]) rfl (Nat.le_of_ble_eq_true rfl) (fun Γ C C2 => ?_)
  generalize hm : min h (96 - t) = m at C2
  have hm48 : m ≤ 20 := by omega
  have hloop : ∀ i, i ≤ m → ∀ I9, pr_In I t m n b i 0 I9 → pm_G Γ 0 0 45 [(0, .ref 0), (1, .int (nI b)), (2, .int (nI h)), (3, .int (nI i))] [] SHP I9 J := by
    refine pm_up (fun i => ∀ I9, pr_In I t m n b i 0 I9 → pm_G Γ 0 0 45 [(0, .ref 0), (1, .int (nI b)), (2, .int (nI h)), (3, .int (nI i))] [] SHP I9 J) m (fun i hi ih I9 hI9 => ?_)
    refine g_iload_n (pc := 45) (i := 3) (j := 3) C dX7_prove_45 rfl rfl ?_
    refine g_aload_n (pc := 46) (i := 0) (j := 0) C dX7_prove_46 rfl rfl ?_
    refine g_getI (pc := 47) C dX7_prove_47 lfX7_47 (by first | rfl | assumption) rfl ?_
    refine g_icmp_ge (pc := 50) (tgt := 96) C dX7_prove_50 (by decide) (fun h50 => ?_) (fun h50 => ?_)
    · have ei : i = m := by rw [hI9.2.2.1] at h50; have := (nI_leI (a := m) (b := i) (by omega) (by omega)).mp h50; omega
      subst ei
      refine g_aload_n (pc := 96) (i := 0) (j := 0) C dX7_prove_96 rfl rfl ?_
      refine g_getI (pc := 97) C dX7_prove_97 lfX7_47 (by first | rfl | assumption) rfl ?_
      rw [hI9.2.2.1]
      refine g_iret (pc := 100) C C2 dX7_prove_100 rfl (Nat.le_refl _) (Nat.le_refl _) ?_
      exact ⟨rfl, rfl, rfl, hI9⟩
    · have hilt : i < m := by rw [hI9.2.2.1] at h50; exact Nat.lt_of_not_le (fun q => h50 ((nI_leI (a := m) (b := i) (by omega) (by omega)).mpr q))
      have sR := shR i (by omega)
      refine g_iconst (pc := 53) (v := 0) C dX7_prove_53 (by decide) ?_
      refine g_istore (pc := 54) (L2 := [(0, _), (1, _), (2, _), (3, _), (4, _)]) C dX7_prove_54 (by decide) rfl ?_
      have hq : ∀ j, j ≤ 3 → ∀ I9, pr_In I t m n b i j I9 → pm_G Γ 0 0 56 [(0, .ref 0), (1, .int (nI b)), (2, .int (nI h)), (3, .int (nI i)), (4, .int (nI j))] [] SHP I9 J := by
        refine pm_up (fun j => ∀ I9, pr_In I t m n b i j I9 → pm_G Γ 0 0 56 [(0, .ref 0), (1, .int (nI b)), (2, .int (nI h)), (3, .int (nI i)), (4, .int (nI j))] [] SHP I9 J) 3 (fun j hj ih2 I9 hI9 => ?_)
        refine g_iload (pc := 56) (j := 4) C dX7_prove_56 rfl ?_
        refine g_iconst (pc := 58) (v := 3) C dX7_prove_58 (by decide) ?_
        refine g_icmp_ge (pc := 59) (tgt := 90) C dX7_prove_59 (by decide) (fun h59 => ?_) (fun h59 => ?_)
        · have ej : j = 3 := by have := (nI_leI (a := 3) (b := j) (by decide) (by omega)).mp h59; omega
          subst ej
          refine g_iinc (pc := 90) (j := 3) (v := _ + 1) (L2 := [(0, _), (1, _), (2, _), (3, _), (4, _)]) C dX7_prove_90 rfl rfl (by decide) rfl ?_
          refine g_goto (pc := 93) (tgt := 45) C dX7_prove_93 (by decide) ?_
          exact pm_drop (pm_Geq (ih hilt I9 (pr_In_next hI9)) (by simp only [nI_1]; rfl) rfl rfl rfl) [0, 1, 2, 3] rfl
        · have hjlt : j < 3 := Nat.lt_of_not_le (fun q => h59 ((nI_leI (a := 3) (b := j) (by decide) (by omega)).mpr q))
          have g1 : I9 1 = I 1 := hI9.1 1 (by decide) (by decide)
          have gL : ∀ c, c < n → bl_L I9 c = bl_L I c := fun c hc => hI9.1 (5 + 2 * c) (by omega) (by omega)
          refine g_aload_n (pc := 62) (i := 0) (j := 0) C dX7_prove_62 rfl rfl ?_
          refine g_getR (pc := 63) C dX7_prove_63 lfX7_44 (by first | rfl | assumption) rfl ?_
          refine g_iload_n (pc := 66) (i := 3) (j := 3) C dX7_prove_66 rfl rfl ?_
          refine g_aald (pc := 67) C dX7_prove_67 (by first | rfl | assumption) (fun _ => rfl) rfl (by decide) (by first | rfl | assumption) (rsR i (by omega)) ?_
          refine g_iload (pc := 68) (j := 4) C dX7_prove_68 rfl ?_
          refine g_aload_n (pc := 70) (i := 0) (j := 0) C dX7_prove_70 rfl rfl ?_
          refine g_getR (pc := 71) C dX7_prove_71 lfX7_38 (by first | rfl | assumption) rfl ?_
          refine g_iload_n (pc := 74) (i := 1) (j := 1) C dX7_prove_74 rfl rfl ?_
          refine g_iload_n (pc := 75) (i := 3) (j := 3) C dX7_prove_75 rfl rfl ?_
          refine g_iconst (pc := 76) (v := 1) C dX7_prove_76 (by decide) ?_
          refine g_iadd (pc := 77) C dX7_prove_77 ?_
          rw [nI_1]
          refine g_iload (pc := 78) (j := 4) C dX7_prove_78 rfl ?_
          refine g_callV (pc := 80) C dX7_prove_80 lmX7_197 kcX6_rowPart (by decide) (by first | rfl | assumption) (c_X6_rowPart (k := i + 1) (w := j) (m := m) (Hf := tr_H I 0 t) hjlt (by rw [g1]; exact hn) h6 (fun c hc k hk => (hI9.2.2.2.1.2 c hc k hk).1) hb (by omega) (by omega)) rfl rfl (Nat.le_of_ble_eq_true rfl) ?_
          intro r9 sh9 I9 J9 hD9; obtain ⟨rfl, rfl, rfl, rfl⟩ := pm_Dq hD9
          try simp only [Option.toList_some, Option.toList_none, List.cons_append, List.nil_append]
          rw [pr_rp h6 hb hilt g1 gL hI9.2.2.2.1.2]
          refine g_iast (pc := 83) C dX7_prove_83 (by first | rfl | assumption) (by decide) (by first | rfl | assumption) (by first | assumption | decide | omega) ?_
          refine g_iinc (pc := 84) (j := 4) (v := _ + 1) (L2 := [(0, _), (1, _), (2, _), (3, _), (4, _)]) C dX7_prove_84 rfl rfl (by decide) rfl ?_
          refine g_goto (pc := 87) (tgt := 56) C dX7_prove_87 (by decide) ?_
          exact pm_Geq (ih2 hjlt _ (pr_In_put (by omega) h6 hI9 rfl)) (by simp only [nI_1]) rfl rfl rfl
      exact hq 0 (Nat.zero_le _) I9 hI9
  refine g_aload_n (pc := 0) (i := 0) (j := 0) C dX7_prove_0 rfl rfl ?_
  refine g_getR (pc := 1) C dX7_prove_1 lfX7_10 (by first | rfl | assumption) rfl ?_
  refine g_iload_n (pc := 4) (i := 1) (j := 1) C dX7_prove_4 rfl rfl ?_
  refine g_callV (pc := 5) C dX7_prove_5 lmX7_115 kcX5_has (by decide) (by first | rfl | assumption) (c_X5_has) rfl rfl (Nat.le_of_ble_eq_true rfl) ?_
  intro r9 sh9 I9 J9 hD9; obtain ⟨rfl, rfl, rfl, rfl⟩ := pm_Dq hD9
  try simp only [Option.toList_some, Option.toList_none, List.cons_append, List.nil_append]
  refine g_if_eqB (pc := 8) (tgt := 21) C dX7_prove_8 (by decide) (fun h8 => absurd ⟨by exact nI_pos' (by omega), by rw [hn]; exact pm_leP hb (by omega)⟩ h8) (fun h8 => ?_)
  refine g_iload_n (pc := 11) (i := 2) (j := 2) C dX7_prove_11 rfl rfl ?_
  refine g_iconst (pc := 12) (v := 1) C dX7_prove_12 (by decide) ?_
  refine g_bipush (pc := 13) (v := 20) C dX7_prove_13 (by decide) ?_
  refine g_callS (pc := 15) C dX7_prove_15 lmX7_72 kcX7_within (by decide) (c_X7_within) rfl rfl (Nat.le_of_ble_eq_true rfl) ?_
  intro r9 sh9 I9 J9 hD9; obtain ⟨rfl, rfl, rfl, rfl⟩ := pm_Dq hD9
  try simp only [Option.toList_some, Option.toList_none, List.cons_append, List.nil_append]
  refine g_if_neB (pc := 18) (tgt := 23) C dX7_prove_18 (by decide) (fun h18 => ?_) (fun h18 => absurd ⟨by exact nI_le (a := 1) (b := h) (by omega) (by omega), by exact nI_le (a := h) (b := 20) (by omega) (by decide)⟩ h18)
  refine g_aload_n (pc := 23) (i := 0) (j := 0) C dX7_prove_23 rfl rfl ?_
  refine g_getR (pc := 24) C dX7_prove_24 lfX7_38 (by first | rfl | assumption) rfl ?_
  refine g_iload_n (pc := 27) (i := 2) (j := 2) C dX7_prove_27 rfl rfl ?_
  refine g_iconst (pc := 28) (v := 0) C dX7_prove_28 (by decide) ?_
  refine g_callV (pc := 29) C dX7_prove_29 lmX7_163 kcX6_run (by decide) (by first | rfl | assumption) (c_X6_run (t := t) (h := h) hn h6 ht ht96 (by omega)) rfl rfl (Nat.le_of_ble_eq_true rfl) ?_
  rintro r9 sh9 I9 J9 ⟨e1, e2, e3, hI9⟩
  try simp only [Option.toList_some, Option.toList_none, List.cons_append, List.nil_append]
  subst e1 e2
  obtain rfl := e3.symm
  obtain ⟨f1, f2, f3, f4⟩ := tr_In_facts hI9 h6
  try simp only [Option.toList_none, List.nil_append]
  refine g_aload_n (pc := 32) (i := 0) (j := 0) C dX7_prove_32 rfl rfl ?_
  refine g_aload_n (pc := 33) (i := 0) (j := 0) C dX7_prove_33 rfl rfl ?_
  refine g_getR (pc := 34) C dX7_prove_34 lfX7_38 (by first | rfl | assumption) rfl ?_
  refine g_getI (pc := 37) C dX7_prove_37 lfX7_170 (by first | rfl | assumption) rfl ?_
  rw [hI9.2.2.1]
  refine g_putI (pc := 40) C dX7_prove_40 lpX7_47 rfl rfl (by first | rfl | assumption) rfl ?_
  refine g_iconst (pc := 43) (v := 0) C dX7_prove_43 (by decide) ?_
  refine g_istore_n (pc := 44) (i := 3) (L2 := [(0, _), (1, _), (2, _), (3, _)]) C dX7_prove_44 rfl (by decide) rfl ?_
  rw [hm] at hI9 ⊢
  exact hloop 0 (Nat.zero_le _) _ (pr_In_0 hI9)

set_option maxHeartbeats 4000000 in
set_option maxRecDepth 100000 in
theorem c_X7_prove0 {d : Nat} {x y : Int32} {I : pm_I} {J : pm_J} (hv : ¬ ((0 ≤ x ∧ x ≤ I 1 2 - 1) ∧ 1 ≤ y ∧ y ≤ 20)) : pm_M (d + 2) 0 0 yX7_prove cX7_prove 5 (some .int) [.ref 0, .int x, .int y] SHP I J (pm_D (some (.int (-1))) SHP I J) := by
  refine pm_start (own := RX7) (nm := "prove") (by decide) rfl rfl (L := [(0, .ref 0), (1, .int x), (2, .int y)]) rfl (Nat.le_of_ble_eq_true rfl) (fun Γ C C2 => ?_)
  refine g_aload_n (pc := 0) (i := 0) (j := 0) C dX7_prove_0 rfl rfl ?_
  refine g_getR (pc := 1) C dX7_prove_1 lfX7_10 (by first | rfl | assumption) rfl ?_
  refine g_iload_n (pc := 4) (i := 1) (j := 1) C dX7_prove_4 rfl rfl ?_
  refine g_callV (pc := 5) C dX7_prove_5 lmX7_115 kcX5_has (by decide) (by first | rfl | assumption) (c_X5_has) rfl rfl (Nat.le_of_ble_eq_true rfl) ?_
  intro r9 sh9 I9 J9 hD9; obtain ⟨rfl, rfl, rfl, rfl⟩ := pm_Dq hD9
  try simp only [Option.toList_some, Option.toList_none, List.cons_append, List.nil_append]
  refine g_if_eqB (pc := 8) (tgt := 21) C dX7_prove_8 (by decide) (fun h8 => ?_) (fun h8 => ?_)
  · refine g_iconst (pc := 21) (v := (-1)) C dX7_prove_21 (by decide) ?_
    refine g_iret (pc := 22) C C2 dX7_prove_22 rfl (Nat.le_refl _) (Nat.le_refl _) ?_
    exact ⟨rfl, rfl, rfl, rfl⟩
  · refine g_iload_n (pc := 11) (i := 2) (j := 2) C dX7_prove_11 rfl rfl ?_
    refine g_iconst (pc := 12) (v := 1) C dX7_prove_12 (by decide) ?_
    refine g_bipush (pc := 13) (v := 20) C dX7_prove_13 (by decide) ?_
    refine g_callS (pc := 15) C dX7_prove_15 lmX7_72 kcX7_within (by decide) (c_X7_within) rfl rfl (Nat.le_of_ble_eq_true rfl) ?_
    intro r9 sh9 I9 J9 hD9; obtain ⟨rfl, rfl, rfl, rfl⟩ := pm_Dq hD9
    try simp only [Option.toList_some, Option.toList_none, List.cons_append, List.nil_append]
    refine g_if_neB (pc := 18) (tgt := 23) C dX7_prove_18 (by decide) (fun h18 => ?_) (fun h18 => ?_)
    · exact absurd ⟨h8, h18⟩ hv
    · refine g_iconst (pc := 21) (v := (-1)) C dX7_prove_21 (by decide) ?_
      refine g_iret (pc := 22) C C2 dX7_prove_22 rfl (Nat.le_refl _) (Nat.le_refl _) ?_
      exact ⟨rfl, rfl, rfl, rfl⟩
