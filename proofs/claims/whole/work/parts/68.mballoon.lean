/-! The model's clause, town -/
theorem mts_g16 {I : pm_I} {z : Nat} {st : mt_T} {o2 : Bool} : pm_u (mts I z st) 102 16 (ok_v o2) = mts I z (st.1, o2) := mtI_u16
theorem mts_m17 {I : pm_I} {z q p : Nat} {st : mt_T} {x : Int32} (h1 : q ≠ 102) : pm_u (mts I z st) q p x 102 17 = I 102 17 := by rw [pm_u_off (Ne.symm h1)]; rfl
theorem tk_nm_1213 {g : Nat → Int32} {z b : Nat} (h : tk_nm g z b (pm_tx 12).2.2) : ¬ tk_nm g z b (pm_tx 13).2.2 := by
  intro h2
  have e1 : g (b + 0) = 119 := h.2.2 0 (by decide)
  have e2 : g (b + 0) = 99 := h2.2.2 0 (by decide)
  rw [e1] at e2
  exact absurd e2 (by decide)
abbrev mt_R : Type := pm_I × mt_T
def mc_c1 (W : pm_I) (g : Nat → Int32) (z : Nat) (st : mt_T) : mt_R := if ¬ mt_kd g z st.1 < 0 then (mb_W W g z (W 102 17).toNatClampNeg (mt_kd g z st.1) st, mb9 g z (W 102 17).toNatClampNeg st) else if tk_nm g z st.1 (pm_tx 12).2.2 then (mw_W W g z 40 false st, mw3 g z 40 st) else if tk_nm g z st.1 (pm_tx 13).2.2 then (mw_W W g z 20 true st, mw3 g z 20 st) else if tk_nm g z st.1 (pm_tx 14).2.2 then (pm_u W 102 18 (tk_val g z (mw0 g z st).1), mt_sg g z (mt_num g z 1 20 (mw0 g z st))) else (W, (st.1, false))
def mc_lp (g : Nat → Int32) (z : Nat) : Nat → mt_R → mt_R
  | 0, r => r
  | m + 1, r => if r.2.2 = true ∧ ¬ tk_s g z r.2.1 = 0 then mc_lp g z m (mc_c1 r.1 g z r.2) else r
set_option maxHeartbeats 4000000 in
set_option maxRecDepth 100000 in
theorem c_X8_wantBalloon {d : Nat} {I : pm_I} {J : pm_J} {g : Nat → Int32} {z b : Nat} (hg1 : I 107 = g) (hz : I 102 10 = nI z) (hz2 : z ≤ 240) (hg : ∀ k, k < z → 0 ≤ g k) (hb : b ≤ z) {n : Nat} (hn : I 102 17 = nI n) (h6 : n ≤ 6) {k : Int32} : pm_M (d + 5) 0 0 yX8_wantBalloon cX8_wantBalloon 10 (none : Option Jvm.ClassFile.FieldType) [.ref 102, .int k] SHP (mts I z (b, true)) (mtJ J g z b) (pm_D none SHP (mts (mb_W I g z n k (b, true)) z ((mb9 g z n (b, true)))) (mtJ J g z ((mb9 g z n (b, true))).1)) := by
  refine pm_start (own := RX8) (nm := "wantBalloon") (by decide) rfl rfl (L := [(0, .ref 102), (1, .int k)]) rfl (Nat.le_of_ble_eq_true rfl) (fun Γ C C2 => ?_)
  have h74 : pm_G Γ 0 0 74 [(0, .ref 102), (1, .int k), (2, .int (tk_val g z (mb0 g z n (b, true)).1))] [] SHP (mts I z (mb2 g z n (b, true))) (mtJ J g z (mb2 g z n (b, true)).1) := by
    refine g_aload_n (pc := 74) (i := 0) (j := 0) C dX8_wantBalloon_74 rfl rfl ?_
    refine g_iconst (pc := 75) (v := 0) C dX8_wantBalloon_75 (by decide) ?_
    refine g_iconst (pc := 76) (v := 5) C dX8_wantBalloon_76 (by decide) ?_
    refine g_callV (pc := 77) C dX8_wantBalloon_77 lmX8_152 kcX8_wantNumber (by decide) (by first | rfl | assumption) (c_X8_wantNumber hg1 hz hz2 hg (st := (mb2 g z n (b, true))) (mb2_le (st := (b, true)) hb) (by decide)) rfl rfl (Nat.le_of_ble_eq_true rfl) ?_
    intro r9 sh9 I9 J9 hD9; obtain ⟨rfl, rfl, rfl, rfl⟩ := pm_Dq hD9; clear hD9
    try simp only [Option.toList_some, Option.toList_none, List.cons_append, List.nil_append]
    rw [show mt_num g z 0 5 (mb2 g z n (b, true)) = (mb3 g z n (b, true)) from rfl]
    refine g_istore_n (pc := 80) (i := 3) (L2 := [(0, _), (1, _), (2, _), (3, _)]) C dX8_wantBalloon_80 rfl (by decide) rfl ?_
    refine g_aload_n (pc := 81) (i := 0) (j := 0) C dX8_wantBalloon_81 rfl rfl ?_
    refine g_ldc2 (pc := 82) C dX8_wantBalloon_82 lcX8_161 ?_
    refine g_iconst (pc := 85) (v := 0) C dX8_wantBalloon_85 (by decide) ?_
    refine g_sipush (pc := 86) (v := 999) C dX8_wantBalloon_86 (by decide) ?_
    refine g_bipush (pc := 89) (v := 100) C dX8_wantBalloon_89 (by decide) ?_
    refine g_callV (pc := 91) C dX8_wantBalloon_91 lmX8_163 kcX8_mayWant (by decide) (by first | rfl | assumption) (c_X8_mayWant hg1 hz hz2 hg (st := (mb3 g z n (b, true))) (mb3_le (st := (b, true)) hb) (i := 7) (by decide) (by decide)) rfl rfl (Nat.le_of_ble_eq_true rfl) ?_
    intro r9 sh9 I9 J9 hD9; obtain ⟨rfl, rfl, rfl, rfl⟩ := pm_Dq hD9; clear hD9
    try simp only [Option.toList_some, Option.toList_none, List.cons_append, List.nil_append]
    rw [show mt_pt g z (pm_tx 7).2.2 0 999 (mb3 g z n (b, true)) = (mb4 g z n (b, true)) from rfl]
    refine g_istore (pc := 94) (L2 := [(0, _), (1, _), (2, _), (3, _), (4, _)]) C dX8_wantBalloon_94 (by decide) rfl ?_
    refine g_aload_n (pc := 96) (i := 0) (j := 0) C dX8_wantBalloon_96 rfl rfl ?_
    refine g_ldc2 (pc := 97) C dX8_wantBalloon_97 lcX8_167 ?_
    refine g_iconst (pc := 100) (v := 0) C dX8_wantBalloon_100 (by decide) ?_
    refine g_sipush (pc := 101) (v := 999) C dX8_wantBalloon_101 (by decide) ?_
    refine g_bipush (pc := 104) (v := 50) C dX8_wantBalloon_104 (by decide) ?_
    refine g_callV (pc := 106) C dX8_wantBalloon_106 lmX8_163 kcX8_mayWant (by decide) (by first | rfl | assumption) (c_X8_mayWant hg1 hz hz2 hg (st := (mb4 g z n (b, true))) (mb4_le (st := (b, true)) hb) (i := 8) (by decide) (by decide)) rfl rfl (Nat.le_of_ble_eq_true rfl) ?_
    intro r9 sh9 I9 J9 hD9; obtain ⟨rfl, rfl, rfl, rfl⟩ := pm_Dq hD9; clear hD9
    try simp only [Option.toList_some, Option.toList_none, List.cons_append, List.nil_append]
    rw [show mt_pt g z (pm_tx 8).2.2 0 999 (mb4 g z n (b, true)) = (mb5 g z n (b, true)) from rfl]
    refine g_istore (pc := 109) (L2 := [(0, _), (1, _), (2, _), (3, _), (4, _), (5, _)]) C dX8_wantBalloon_109 (by decide) rfl ?_
    refine g_aload_n (pc := 111) (i := 0) (j := 0) C dX8_wantBalloon_111 rfl rfl ?_
    refine g_ldc2 (pc := 112) C dX8_wantBalloon_112 lcX8_169 ?_
    refine g_iconst (pc := 115) (v := 1) C dX8_wantBalloon_115 (by decide) ?_
    refine g_bipush (pc := 116) (v := 99) C dX8_wantBalloon_116 (by decide) ?_
    refine g_bipush (pc := 118) (v := 50) C dX8_wantBalloon_118 (by decide) ?_
    refine g_callV (pc := 120) C dX8_wantBalloon_120 lmX8_163 kcX8_mayWant (by decide) (by first | rfl | assumption) (c_X8_mayWant hg1 hz hz2 hg (st := (mb5 g z n (b, true))) (mb5_le (st := (b, true)) hb) (i := 9) (by decide) (by decide)) rfl rfl (Nat.le_of_ble_eq_true rfl) ?_
    intro r9 sh9 I9 J9 hD9; obtain ⟨rfl, rfl, rfl, rfl⟩ := pm_Dq hD9; clear hD9
    try simp only [Option.toList_some, Option.toList_none, List.cons_append, List.nil_append]
    rw [show mt_pt g z (pm_tx 9).2.2 1 99 (mb5 g z n (b, true)) = (mb6 g z n (b, true)) from rfl]
    refine g_istore (pc := 123) (L2 := [(0, _), (1, _), (2, _), (3, _), (4, _), (5, _), (6, _)]) C dX8_wantBalloon_123 (by decide) rfl ?_
    refine g_aload_n (pc := 125) (i := 0) (j := 0) C dX8_wantBalloon_125 rfl rfl ?_
    refine g_ldc2 (pc := 126) C dX8_wantBalloon_126 lcX8_171 ?_
    refine g_iconst (pc := 129) (v := 0) C dX8_wantBalloon_129 (by decide) ?_
    refine g_bipush (pc := 130) (v := 99) C dX8_wantBalloon_130 (by decide) ?_
    refine g_bipush (pc := 132) (v := 20) C dX8_wantBalloon_132 (by decide) ?_
    refine g_callV (pc := 134) C dX8_wantBalloon_134 lmX8_163 kcX8_mayWant (by decide) (by first | rfl | assumption) (c_X8_mayWant hg1 hz hz2 hg (st := (mb6 g z n (b, true))) (mb6_le (st := (b, true)) hb) (i := 10) (by decide) (by decide)) rfl rfl (Nat.le_of_ble_eq_true rfl) ?_
    intro r9 sh9 I9 J9 hD9; obtain ⟨rfl, rfl, rfl, rfl⟩ := pm_Dq hD9; clear hD9
    try simp only [Option.toList_some, Option.toList_none, List.cons_append, List.nil_append]
    rw [show mt_pt g z (pm_tx 10).2.2 0 99 (mb6 g z n (b, true)) = (mb7 g z n (b, true)) from rfl]
    refine g_istore (pc := 137) (L2 := [(0, _), (1, _), (2, _), (3, _), (4, _), (5, _), (6, _), (7, _)]) C dX8_wantBalloon_137 (by decide) rfl ?_
    refine g_aload_n (pc := 139) (i := 0) (j := 0) C dX8_wantBalloon_139 rfl rfl ?_
    refine g_ldc2 (pc := 140) C dX8_wantBalloon_140 lcX8_173 ?_
    refine g_iconst (pc := 143) (v := 0) C dX8_wantBalloon_143 (by decide) ?_
    refine g_bipush (pc := 144) (v := 9) C dX8_wantBalloon_144 (by decide) ?_
    refine g_iconst (pc := 146) (v := 1) C dX8_wantBalloon_146 (by decide) ?_
    refine g_callV (pc := 147) C dX8_wantBalloon_147 lmX8_163 kcX8_mayWant (by decide) (by first | rfl | assumption) (c_X8_mayWant hg1 hz hz2 hg (st := (mb7 g z n (b, true))) (mb7_le (st := (b, true)) hb) (i := 11) (by decide) (by decide)) rfl rfl (Nat.le_of_ble_eq_true rfl) ?_
    intro r9 sh9 I9 J9 hD9; obtain ⟨rfl, rfl, rfl, rfl⟩ := pm_Dq hD9; clear hD9
    try simp only [Option.toList_some, Option.toList_none, List.cons_append, List.nil_append]
    rw [show mt_pt g z (pm_tx 11).2.2 0 9 (mb7 g z n (b, true)) = (mb8 g z n (b, true)) from rfl]
    refine g_istore (pc := 150) (L2 := [(0, _), (1, _), (2, _), (3, _), (4, _), (5, _), (6, _), (7, _), (8, _)]) C dX8_wantBalloon_150 (by decide) rfl ?_
    refine g_aload_n (pc := 152) (i := 0) (j := 0) C dX8_wantBalloon_152 rfl rfl ?_
    refine g_callV (pc := 153) C dX8_wantBalloon_153 lmX8_175 kcX8_wantEnd (by decide) (by first | rfl | assumption) (c_X8_wantEnd hg1 hz hz2 hg (st := (mb8 g z n (b, true))) (mb8_le (st := (b, true)) hb)) rfl rfl (Nat.le_of_ble_eq_true rfl) ?_
    intro r9 sh9 I9 J9 hD9; obtain ⟨rfl, rfl, rfl, rfl⟩ := pm_Dq hD9; clear hD9
    try simp only [Option.toList_some, Option.toList_none, List.cons_append, List.nil_append]
    rw [show mt_sg g z (mb8 g z n (b, true)) = (mb9 g z n (b, true)) from rfl]
    refine g_aload_n (pc := 156) (i := 0) (j := 0) C dX8_wantBalloon_156 rfl rfl ?_
    refine g_getI (pc := 157) C dX8_wantBalloon_157 lfX8_142 (by first | rfl | assumption) rfl ?_
    rw [mts_16]
    refine g_if_eq (pc := 160) (tgt := 279) C dX8_wantBalloon_160 (by decide) (fun h160 => ?_) (fun h160 => ?_)
    · refine g_vret (pc := 279) C C2 dX8_wantBalloon_279 (Nat.le_refl _) (Nat.le_refl _) ?_
      by_cases hok : (mb9 g z n (b, true)).2 = true
      · have e8 : mb_W I g z n k (b, true) = _ := if_pos hok
        first
          | (have q3 : ok_v (mb9 g z n (b, true)).2 = 0 := h160; rw [hok] at q3; exact absurd q3 (by decide))
          | (refine ⟨rfl, rfl, ?_, rfl⟩; rw [e8]; simp only [mts_u (show (108 : Nat) ≠ 102 by decide) (show (108 : Nat) ≠ 107 by decide), mts_u (show (109 : Nat) ≠ 102 by decide) (show (109 : Nat) ≠ 107 by decide), mts_u (show (110 : Nat) ≠ 102 by decide) (show (110 : Nat) ≠ 107 by decide), mts_uo (Or.inl rfl)])
      · have e8 : mb_W I g z n k (b, true) = I := if_neg hok
        first
          | (have q3 := ok_n h160; exact absurd q3 hok)
          | (exact ⟨rfl, rfl, by rw [e8], rfl⟩)
    · have hok : (mb9 g z n (b, true)).2 = true := ok_n h160
      have hn6 : n < 6 := mb9_ok hok
      refine g_aload_n (pc := 163) (i := 0) (j := 0) C dX8_wantBalloon_163 rfl rfl ?_
      refine g_getR (pc := 164) C dX8_wantBalloon_164 lfX8_32 (by first | rfl | assumption) rfl ?_
      refine g_aload_n (pc := 167) (i := 0) (j := 0) C dX8_wantBalloon_167 rfl rfl ?_
      refine g_getI (pc := 168) C dX8_wantBalloon_168 lfX8_156 (by first | rfl | assumption) rfl ?_
      try simp only [pm_u_off (show (102 : Nat) ≠ 110 by decide), pm_u_off (show (102 : Nat) ≠ 109 by decide), pm_u_off (show (102 : Nat) ≠ 108 by decide)]
      rw [mts_17, hn]
      refine g_iload_n (pc := 171) (i := 1) (j := 1) C dX8_wantBalloon_171 rfl rfl ?_
      refine g_iast (pc := 172) (j := n) C dX8_wantBalloon_172 (by first | rfl | assumption) (by decide) rfl (by omega) ?_
      refine g_aload_n (pc := 173) (i := 0) (j := 0) C dX8_wantBalloon_173 rfl rfl ?_
      refine g_getR (pc := 174) C dX8_wantBalloon_174 lfX8_35 (by first | rfl | assumption) rfl ?_
      refine g_aload_n (pc := 177) (i := 0) (j := 0) C dX8_wantBalloon_177 rfl rfl ?_
      refine g_getI (pc := 178) C dX8_wantBalloon_178 lfX8_156 (by first | rfl | assumption) rfl ?_
      try simp only [pm_u_off (show (102 : Nat) ≠ 110 by decide), pm_u_off (show (102 : Nat) ≠ 109 by decide), pm_u_off (show (102 : Nat) ≠ 108 by decide)]
      rw [mts_17, hn]
      refine g_iload_n (pc := 181) (i := 2) (j := 2) C dX8_wantBalloon_181 rfl rfl ?_
      refine g_iast (pc := 182) (j := n) C dX8_wantBalloon_182 (by first | rfl | assumption) (by decide) rfl (by omega) ?_
      refine g_bipush (pc := 183) (v := 7) C dX8_wantBalloon_183 (by decide) ?_
      refine g_aload_n (pc := 185) (i := 0) (j := 0) C dX8_wantBalloon_185 rfl rfl ?_
      refine g_getI (pc := 186) C dX8_wantBalloon_186 lfX8_156 (by first | rfl | assumption) rfl ?_
      try simp only [pm_u_off (show (102 : Nat) ≠ 110 by decide), pm_u_off (show (102 : Nat) ≠ 109 by decide), pm_u_off (show (102 : Nat) ≠ 108 by decide)]
      rw [mts_17, hn]
      refine g_imul (pc := 189) C dX8_wantBalloon_189 ?_
      rw [show (7 : Int32) * nI n = nI (7 * n) from pk_mul 7 n]
      refine g_istore (pc := 190) (L2 := [(0, _), (1, _), (2, _), (3, _), (4, _), (5, _), (6, _), (7, _), (8, _), (9, _)]) C dX8_wantBalloon_190 (by decide) rfl ?_
      refine g_aload_n (pc := 192) (i := 0) (j := 0) C dX8_wantBalloon_192 rfl rfl ?_
      refine g_getR (pc := 193) C dX8_wantBalloon_193 lfX8_38 (by first | rfl | assumption) rfl ?_
      refine g_iload (pc := 196) (j := 9) C dX8_wantBalloon_196 rfl ?_
      refine g_iconst (pc := 198) (v := 1) C dX8_wantBalloon_198 (by decide) ?_
      refine g_iadd (pc := 199) C dX8_wantBalloon_199 ?_
      refine g_iload_n (pc := 200) (i := 3) (j := 3) C dX8_wantBalloon_200 rfl rfl ?_
      refine g_iast (pc := 201) (j := 7 * n + 1) C dX8_wantBalloon_201 (by first | rfl | assumption) (by decide) (nI_add (7 * n) 1) (by omega) ?_
      refine g_aload_n (pc := 202) (i := 0) (j := 0) C dX8_wantBalloon_202 rfl rfl ?_
      refine g_getR (pc := 203) C dX8_wantBalloon_203 lfX8_38 (by first | rfl | assumption) rfl ?_
      refine g_iload (pc := 206) (j := 9) C dX8_wantBalloon_206 rfl ?_
      refine g_iconst (pc := 208) (v := 2) C dX8_wantBalloon_208 (by decide) ?_
      refine g_iadd (pc := 209) C dX8_wantBalloon_209 ?_
      refine g_iconst (pc := 210) (v := 0) C dX8_wantBalloon_210 (by decide) ?_
      refine g_iast (pc := 211) (j := 7 * n + 2) C dX8_wantBalloon_211 (by first | rfl | assumption) (by decide) (nI_add (7 * n) 2) (by omega) ?_
      refine g_aload_n (pc := 212) (i := 0) (j := 0) C dX8_wantBalloon_212 rfl rfl ?_
      refine g_getR (pc := 213) C dX8_wantBalloon_213 lfX8_38 (by first | rfl | assumption) rfl ?_
      refine g_iload (pc := 216) (j := 9) C dX8_wantBalloon_216 rfl ?_
      refine g_iconst (pc := 218) (v := 3) C dX8_wantBalloon_218 (by decide) ?_
      refine g_iadd (pc := 219) C dX8_wantBalloon_219 ?_
      refine g_iload (pc := 220) (j := 6) C dX8_wantBalloon_220 rfl ?_
      refine g_iast (pc := 222) (j := 7 * n + 3) C dX8_wantBalloon_222 (by first | rfl | assumption) (by decide) (nI_add (7 * n) 3) (by omega) ?_
      refine g_aload_n (pc := 223) (i := 0) (j := 0) C dX8_wantBalloon_223 rfl rfl ?_
      refine g_getR (pc := 224) C dX8_wantBalloon_224 lfX8_38 (by first | rfl | assumption) rfl ?_
      refine g_iload (pc := 227) (j := 9) C dX8_wantBalloon_227 rfl ?_
      refine g_iconst (pc := 229) (v := 4) C dX8_wantBalloon_229 (by decide) ?_
      refine g_iadd (pc := 230) C dX8_wantBalloon_230 ?_
      refine g_iload (pc := 231) (j := 4) C dX8_wantBalloon_231 rfl ?_
      refine g_iast (pc := 233) (j := 7 * n + 4) C dX8_wantBalloon_233 (by first | rfl | assumption) (by decide) (nI_add (7 * n) 4) (by omega) ?_
      refine g_aload_n (pc := 234) (i := 0) (j := 0) C dX8_wantBalloon_234 rfl rfl ?_
      refine g_getR (pc := 235) C dX8_wantBalloon_235 lfX8_38 (by first | rfl | assumption) rfl ?_
      refine g_iload (pc := 238) (j := 9) C dX8_wantBalloon_238 rfl ?_
      refine g_iconst (pc := 240) (v := 5) C dX8_wantBalloon_240 (by decide) ?_
      refine g_iadd (pc := 241) C dX8_wantBalloon_241 ?_
      refine g_iload (pc := 242) (j := 5) C dX8_wantBalloon_242 rfl ?_
      refine g_iast (pc := 244) (j := 7 * n + 5) C dX8_wantBalloon_244 (by first | rfl | assumption) (by decide) (nI_add (7 * n) 5) (by omega) ?_
      refine g_aload_n (pc := 245) (i := 0) (j := 0) C dX8_wantBalloon_245 rfl rfl ?_
      refine g_getR (pc := 246) C dX8_wantBalloon_246 lfX8_38 (by first | rfl | assumption) rfl ?_
      refine g_iload (pc := 249) (j := 9) C dX8_wantBalloon_249 rfl ?_
      refine g_bipush (pc := 251) (v := 6) C dX8_wantBalloon_251 (by decide) ?_
      refine g_iadd (pc := 253) C dX8_wantBalloon_253 ?_
      refine g_iload (pc := 254) (j := 7) C dX8_wantBalloon_254 rfl ?_
      refine g_iast (pc := 256) (j := 7 * n + 6) C dX8_wantBalloon_256 (by first | rfl | assumption) (by decide) (nI_add (7 * n) 6) (by omega) ?_
      refine g_aload_n (pc := 257) (i := 0) (j := 0) C dX8_wantBalloon_257 rfl rfl ?_
      refine g_getR (pc := 258) C dX8_wantBalloon_258 lfX8_38 (by first | rfl | assumption) rfl ?_
      refine g_iload (pc := 261) (j := 9) C dX8_wantBalloon_261 rfl ?_
      refine g_bipush (pc := 263) (v := 7) C dX8_wantBalloon_263 (by decide) ?_
      refine g_iadd (pc := 265) C dX8_wantBalloon_265 ?_
      refine g_iload (pc := 266) (j := 8) C dX8_wantBalloon_266 rfl ?_
      refine g_iast (pc := 268) (j := 7 * n + 7) C dX8_wantBalloon_268 (by first | rfl | assumption) (by decide) (nI_add (7 * n) 7) (by omega) ?_
      refine g_aload_n (pc := 269) (i := 0) (j := 0) C dX8_wantBalloon_269 rfl rfl ?_
      refine g_dup (pc := 270) C dX8_wantBalloon_270 rfl ?_
      refine g_getI (pc := 271) C dX8_wantBalloon_271 lfX8_156 (by first | rfl | assumption) rfl ?_
      try simp only [pm_u_off (show (102 : Nat) ≠ 110 by decide), pm_u_off (show (102 : Nat) ≠ 109 by decide), pm_u_off (show (102 : Nat) ≠ 108 by decide)]
      rw [mts_17, hn]
      refine g_iconst (pc := 274) (v := 1) C dX8_wantBalloon_274 (by decide) ?_
      refine g_iadd (pc := 275) C dX8_wantBalloon_275 ?_
      rw [nI_1]
      refine g_putI (pc := 276) C dX8_wantBalloon_276 lpX8_156 rfl rfl (by first | rfl | assumption) rfl ?_
      refine g_vret (pc := 279) C C2 dX8_wantBalloon_279 (Nat.le_refl _) (Nat.le_refl _) ?_
      by_cases hok : (mb9 g z n (b, true)).2 = true
      · have e8 : mb_W I g z n k (b, true) = _ := if_pos hok
        first
          | (have q3 : ok_v (mb9 g z n (b, true)).2 = 0 := h160; rw [hok] at q3; exact absurd q3 (by decide))
          | (refine ⟨rfl, rfl, ?_, rfl⟩; rw [e8]; simp only [mts_u (show (108 : Nat) ≠ 102 by decide) (show (108 : Nat) ≠ 107 by decide), mts_u (show (109 : Nat) ≠ 102 by decide) (show (109 : Nat) ≠ 107 by decide), mts_u (show (110 : Nat) ≠ 102 by decide) (show (110 : Nat) ≠ 107 by decide), mts_uo (Or.inl rfl)])
      · have e8 : mb_W I g z n k (b, true) = I := if_neg hok
        first
          | (have q3 := ok_n h160; exact absurd q3 hok)
          | (exact ⟨rfl, rfl, by rw [e8], rfl⟩)
  have keyB : ∀ o2 : Bool, (mb2 g z n (b, true)) = (if o2 = true then mt_x g z ((mb1 g z n (b, true)).1, true) else ((mb1 g z n (b, true)).1, false)) → pm_G Γ 0 0 60 [(0, .ref 102), (1, .int k), (2, .int (tk_val g z (mb0 g z n (b, true)).1))] [.int (ok_v o2), .ref 102] SHP (mts I z (mb1 g z n (b, true))) (mtJ J g z (mb1 g z n (b, true)).1) := by
    intro o2 e8
    refine g_putI (pc := 60) C dX8_wantBalloon_60 lpX8_142 ok_nz ok_ft (by first | rfl | assumption) rfl ?_
    rw [mts_g16]
    refine g_aload_n (pc := 63) (i := 0) (j := 0) C dX8_wantBalloon_63 rfl rfl ?_
    refine g_getI (pc := 64) C dX8_wantBalloon_64 lfX8_142 (by first | rfl | assumption) rfl ?_
    rw [mts_16]
    refine g_if_eq (pc := 67) (tgt := 74) C dX8_wantBalloon_67 (by decide) (fun h67 => ?_) (fun h67 => ?_)
    · cases o2
      · rw [if_neg Bool.false_ne_true] at e8
        first
          | (have q3 : ¬ ok_v false = 0 := h67; exact absurd ok_f q3)
          | (exact pm_Geq h74 rfl rfl (by rw [e8]) (by rw [e8]))
      · rw [if_pos rfl] at e8
        first
          | (have q3 : ok_v true = 0 := h67; exact absurd q3 (by decide))
          | (exact pm_Geq h74 rfl rfl (by rw [e8]) (by rw [e8]))
    · refine g_aload_n (pc := 70) (i := 0) (j := 0) C dX8_wantBalloon_70 rfl rfl ?_
      refine g_callV (pc := 71) C dX8_wantBalloon_71 lmX8_146 kcX8_advance (by decide) (by first | rfl | assumption) (w8_advance hg1 hz hz2 hg (st := ((mb1 g z n (b, true)).1, o2)) (mb1_le (st := (b, true)) hb)) rfl rfl (Nat.le_of_ble_eq_true rfl) ?_
      intro r9 sh9 I9 J9 hD9; obtain ⟨rfl, rfl, rfl, rfl⟩ := pm_Dq hD9; clear hD9
      try simp only [Option.toList_some, Option.toList_none, List.cons_append, List.nil_append]
      cases o2
      · rw [if_neg Bool.false_ne_true] at e8
        first
          | (have q3 : ¬ ok_v false = 0 := h67; exact absurd ok_f q3)
          | (exact pm_Geq h74 rfl rfl (by rw [e8]) (by rw [e8]))
      · rw [if_pos rfl] at e8
        first
          | (have q3 : ok_v true = 0 := h67; exact absurd q3 (by decide))
          | (exact pm_Geq h74 rfl rfl (by rw [e8]) (by rw [e8]))
  have h29 : pm_G Γ 0 0 29 [(0, .ref 102), (1, .int k)] [] SHP (mts I z (mb0 g z n (b, true))) (mtJ J g z (mb0 g z n (b, true)).1) := by
    refine g_aload_n (pc := 29) (i := 0) (j := 0) C dX8_wantBalloon_29 rfl rfl ?_
    refine g_iconst (pc := 30) (v := 0) C dX8_wantBalloon_30 (by decide) ?_
    refine g_bipush (pc := 31) (v := 9) C dX8_wantBalloon_31 (by decide) ?_
    refine g_callV (pc := 33) C dX8_wantBalloon_33 lmX8_152 kcX8_wantNumber (by decide) (by first | rfl | assumption) (c_X8_wantNumber hg1 hz hz2 hg (st := (mb0 g z n (b, true))) (mb0_le (st := (b, true)) hb) (by decide)) rfl rfl (Nat.le_of_ble_eq_true rfl) ?_
    intro r9 sh9 I9 J9 hD9; obtain ⟨rfl, rfl, rfl, rfl⟩ := pm_Dq hD9; clear hD9
    try simp only [Option.toList_some, Option.toList_none, List.cons_append, List.nil_append]
    rw [show mt_num g z 0 9 (mb0 g z n (b, true)) = (mb1 g z n (b, true)) from rfl]
    refine g_istore_n (pc := 36) (i := 2) (L2 := [(0, _), (1, _), (2, _)]) C dX8_wantBalloon_36 rfl (by decide) rfl ?_
    refine g_aload_n (pc := 37) (i := 0) (j := 0) C dX8_wantBalloon_37 rfl rfl ?_
    refine g_aload_n (pc := 38) (i := 0) (j := 0) C dX8_wantBalloon_38 rfl rfl ?_
    refine g_getI (pc := 39) C dX8_wantBalloon_39 lfX8_142 (by first | rfl | assumption) rfl ?_
    rw [mts_16]
    refine g_if_eq (pc := 42) (tgt := 59) C dX8_wantBalloon_42 (by decide) (fun h42 => ?_) (fun h42 => ?_)
    · refine g_iconst (pc := 59) (v := 0) C dX8_wantBalloon_59 (by decide) ?_
      by_cases q : (mb1 g z n (b, true)).2 = true ∧ tk_nm g z (mb1 g z n (b, true)).1 (pm_tx 6).2.2
      · have e8 : (mb2 g z n (b, true)) = mt_x g z ((mb1 g z n (b, true)).1, true) := by
          show mt_nm g z (pm_tx 6).2.2 (mb1 g z n (b, true)) = _
          unfold mt_nm
          rw [if_pos q]
          unfold mt_x
          rw [q.1]
        first
          | (have q3 : ok_v (mb1 g z n (b, true)).2 = 0 := h42; rw [q.1] at q3; exact absurd q3 (by decide))
          | (have q3 : ¬ tk_nm g z (mb1 g z n (b, true)).1 (pm_tx 6).2.2 := h52; exact absurd q.2 q3)
          | (exact keyB true (e8.trans (if_pos rfl).symm))
      · have e8 : (mb2 g z n (b, true)) = ((mb1 g z n (b, true)).1, false) := if_neg q
        first
          | (have q4 : tk_nm g z (mb1 g z n (b, true)).1 (pm_tx 6).2.2 := h52; have q3 := ok_n h42; exact absurd (And.intro q3 q4) q)
          | (exact keyB false (e8.trans (if_neg Bool.false_ne_true).symm))
    · refine g_aload_n (pc := 45) (i := 0) (j := 0) C dX8_wantBalloon_45 rfl rfl ?_
      refine g_ldc2 (pc := 46) C dX8_wantBalloon_46 lcX8_159 ?_
      refine g_callV (pc := 49) C dX8_wantBalloon_49 lmX8_128 kcX8_isWord (by decide) (by first | rfl | assumption) (c_X8_isWord (i := 6) hg1 hz hz2 hg (st := (mb1 g z n (b, true))) (mb1_le (st := (b, true)) hb) (by decide)) rfl rfl (Nat.le_of_ble_eq_true rfl) ?_
      intro r9 sh9 I9 J9 hD9; obtain ⟨rfl, rfl, rfl, rfl⟩ := pm_Dq hD9; clear hD9
      try simp only [Option.toList_some, Option.toList_none, List.cons_append, List.nil_append]
      refine g_if_eqB (pc := 52) (tgt := 59) C dX8_wantBalloon_52 (by decide) (fun h52 => ?_) (fun h52 => ?_)
      · refine g_iconst (pc := 59) (v := 0) C dX8_wantBalloon_59 (by decide) ?_
        by_cases q : (mb1 g z n (b, true)).2 = true ∧ tk_nm g z (mb1 g z n (b, true)).1 (pm_tx 6).2.2
        · have e8 : (mb2 g z n (b, true)) = mt_x g z ((mb1 g z n (b, true)).1, true) := by
            show mt_nm g z (pm_tx 6).2.2 (mb1 g z n (b, true)) = _
            unfold mt_nm
            rw [if_pos q]
            unfold mt_x
            rw [q.1]
          first
            | (have q3 : ok_v (mb1 g z n (b, true)).2 = 0 := h42; rw [q.1] at q3; exact absurd q3 (by decide))
            | (have q3 : ¬ tk_nm g z (mb1 g z n (b, true)).1 (pm_tx 6).2.2 := h52; exact absurd q.2 q3)
            | (exact keyB true (e8.trans (if_pos rfl).symm))
        · have e8 : (mb2 g z n (b, true)) = ((mb1 g z n (b, true)).1, false) := if_neg q
          first
            | (have q4 : tk_nm g z (mb1 g z n (b, true)).1 (pm_tx 6).2.2 := h52; have q3 := ok_n h42; exact absurd (And.intro q3 q4) q)
            | (exact keyB false (e8.trans (if_neg Bool.false_ne_true).symm))
      · refine g_iconst (pc := 55) (v := 1) C dX8_wantBalloon_55 (by decide) ?_
        refine g_goto (pc := 56) (tgt := 60) C dX8_wantBalloon_56 (by decide) ?_
        by_cases q : (mb1 g z n (b, true)).2 = true ∧ tk_nm g z (mb1 g z n (b, true)).1 (pm_tx 6).2.2
        · have e8 : (mb2 g z n (b, true)) = mt_x g z ((mb1 g z n (b, true)).1, true) := by
            show mt_nm g z (pm_tx 6).2.2 (mb1 g z n (b, true)) = _
            unfold mt_nm
            rw [if_pos q]
            unfold mt_x
            rw [q.1]
          first
            | (have q3 : ok_v (mb1 g z n (b, true)).2 = 0 := h42; rw [q.1] at q3; exact absurd q3 (by decide))
            | (have q3 : ¬ tk_nm g z (mb1 g z n (b, true)).1 (pm_tx 6).2.2 := h52; exact absurd q.2 q3)
            | (exact keyB true (e8.trans (if_pos rfl).symm))
        · have e8 : (mb2 g z n (b, true)) = ((mb1 g z n (b, true)).1, false) := if_neg q
          first
            | (have q4 : tk_nm g z (mb1 g z n (b, true)).1 (pm_tx 6).2.2 := h52; have q3 := ok_n h42; exact absurd (And.intro q3 q4) q)
            | (exact keyB false (e8.trans (if_neg Bool.false_ne_true).symm))
  have keyA : ∀ o2 : Bool, (mb0 g z n (b, true)) = (if o2 = true then mt_x g z (b, true) else (b, false)) → pm_G Γ 0 0 15 [(0, .ref 102), (1, .int k)] [.int (ok_v o2), .ref 102] SHP (mts I z (b, true)) (mtJ J g z b) := by
    intro o2 e8
    refine g_putI (pc := 15) C dX8_wantBalloon_15 lpX8_142 ok_nz ok_ft (by first | rfl | assumption) rfl ?_
    rw [mts_g16]
    refine g_aload_n (pc := 18) (i := 0) (j := 0) C dX8_wantBalloon_18 rfl rfl ?_
    refine g_getI (pc := 19) C dX8_wantBalloon_19 lfX8_142 (by first | rfl | assumption) rfl ?_
    rw [mts_16]
    refine g_if_eq (pc := 22) (tgt := 29) C dX8_wantBalloon_22 (by decide) (fun h22 => ?_) (fun h22 => ?_)
    · cases o2
      · rw [if_neg Bool.false_ne_true] at e8
        first
          | (have q3 : ¬ ok_v false = 0 := h22; exact absurd ok_f q3)
          | (exact pm_Geq h29 rfl rfl (by rw [e8]) (by rw [e8]))
      · rw [if_pos rfl] at e8
        first
          | (have q3 : ok_v true = 0 := h22; exact absurd q3 (by decide))
          | (exact pm_Geq h29 rfl rfl (by rw [e8]) (by rw [e8]))
    · refine g_aload_n (pc := 25) (i := 0) (j := 0) C dX8_wantBalloon_25 rfl rfl ?_
      refine g_callV (pc := 26) C dX8_wantBalloon_26 lmX8_146 kcX8_advance (by decide) (by first | rfl | assumption) (w8_advance hg1 hz hz2 hg (st := (b, o2)) hb) rfl rfl (Nat.le_of_ble_eq_true rfl) ?_
      intro r9 sh9 I9 J9 hD9; obtain ⟨rfl, rfl, rfl, rfl⟩ := pm_Dq hD9; clear hD9
      try simp only [Option.toList_some, Option.toList_none, List.cons_append, List.nil_append]
      cases o2
      · rw [if_neg Bool.false_ne_true] at e8
        first
          | (have q3 : ¬ ok_v false = 0 := h22; exact absurd ok_f q3)
          | (exact pm_Geq h29 rfl rfl (by rw [e8]) (by rw [e8]))
      · rw [if_pos rfl] at e8
        first
          | (have q3 : ok_v true = 0 := h22; exact absurd q3 (by decide))
          | (exact pm_Geq h29 rfl rfl (by rw [e8]) (by rw [e8]))
  refine g_aload_n (pc := 0) (i := 0) (j := 0) C dX8_wantBalloon_0 rfl rfl ?_
  refine g_aload_n (pc := 1) (i := 0) (j := 0) C dX8_wantBalloon_1 rfl rfl ?_
  refine g_getI (pc := 2) C dX8_wantBalloon_2 lfX8_156 (by first | rfl | assumption) rfl ?_
  rw [mts_17, hn]
  refine g_bipush (pc := 5) (v := 6) C dX8_wantBalloon_5 (by decide) ?_
  refine g_icmp_ge (pc := 7) (tgt := 14) C dX8_wantBalloon_7 (by decide) (fun h7 => ?_) (fun h7 => ?_)
  · have hge : ¬ n < 6 := fun q => by have := (nI_leI (a := 6) (b := n) (by decide) (by omega)).mp h7; omega
    refine g_iconst (pc := 14) (v := 0) C dX8_wantBalloon_14 (by decide) ?_
    first
      | (have q3 : n < 6 := hlt; exact keyA true ((show (mb0 g z n (b, true)) = mt_x g z (b, true) from if_pos q3).trans (if_pos rfl).symm))
      | (have q3 : ¬ n < 6 := hge; exact keyA false ((show (mb0 g z n (b, true)) = (b, false) from if_neg q3).trans (if_neg Bool.false_ne_true).symm))
  · have hlt : n < 6 := (nI_ltI (a := n) (b := 6) (by omega) (by decide)).mp (Int32.not_le.mp h7)
    refine g_iconst (pc := 10) (v := 1) C dX8_wantBalloon_10 (by decide) ?_
    refine g_goto (pc := 11) (tgt := 15) C dX8_wantBalloon_11 (by decide) ?_
    first
      | (have q3 : n < 6 := hlt; exact keyA true ((show (mb0 g z n (b, true)) = mt_x g z (b, true) from if_pos q3).trans (if_pos rfl).symm))
      | (have q3 : ¬ n < 6 := hge; exact keyA false ((show (mb0 g z n (b, true)) = (b, false) from if_neg q3).trans (if_neg Bool.false_ne_true).symm))
