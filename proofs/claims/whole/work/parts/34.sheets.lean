/-! Shelves, sheets, rows of warmths, feed -/
def kd_next (v : Int32) : Int32 := (pm_tv 0).getD v.toNatClampNeg 0
def kd_anc : Nat → Int32 → Int32 → Bool
  | 0, _, _ => false
  | f + 1, v, o => if v < 0 then false else if v = o then true else kd_anc f (kd_next v) o
abbrev kd_ok (v : Int32) : Prop := v = -1 ∨ ∃ q, q < 6 ∧ v = nI q
theorem kd_ok_next {q : Nat} (h : q < 6) : kd_ok ((pm_tv 0).getD q 0) := by
  rcases (show q = 0 ∨ q = 1 ∨ q = 2 ∨ q = 3 ∨ q = 4 ∨ q = 5 by omega) with rfl | rfl | rfl | rfl | rfl | rfl
  · exact Or.inl rfl
  · exact Or.inr ⟨0, by decide, rfl⟩
  · exact Or.inr ⟨0, by decide, rfl⟩
  · exact Or.inr ⟨2, by decide, rfl⟩
  · exact Or.inr ⟨1, by decide, rfl⟩
  · exact Or.inr ⟨0, by decide, rfl⟩
theorem kd_ok_pos {v : Int32} (hv : kd_ok v) (h : ¬ v < 0) : ∃ q, q < 6 ∧ v = nI q := by
  rcases hv with rfl | h2
  · exact absurd (by decide) h
  · exact h2
theorem pm_bB {b : Bool} : pm_b (b = true) = if b then 1 else 0 := by cases b <;> rfl
theorem pm_b_ne {P : Prop} [Decidable P] : ¬ pm_b P = 0 ↔ P := by rw [pm_b_0]; exact Decidable.not_not
/-- a row of warmths: k from place h on out of a sheet's from i on -/
def wm_row (g f : Nat → Int32) (i h k : Nat) : Nat → Int32 := fun j => if h ≤ j ∧ j < h + k then (if f (i + (j - h)) < -20 then -20 else if 40 < f (i + (j - h)) then 40 else f (i + (j - h))) else g j
def fd_b (e : Int64) (k : Nat) : Int32 := (e >>> ((8 * nI k).toInt64 &&& 63)).toInt32.toInt8.toInt32.toInt8.toInt32
def fd_row (g : Nat → Int32) (e : Int64) (z k : Nat) : Nat → Int32 := fun j => if z ≤ j ∧ j < z + k then fd_b e (j - z) else g j
theorem fd_240 {z : Nat} (hz : z ≤ 240) : (240 : Int32) - nI z = nI (240 - z) := by
  have h1 : nI (240 - z) + nI z = nI 240 := by rw [nI_add]; congr 1; omega
  have h2 : nI 240 = 240 := rfl
  rw [← h2, ← h1]
  exact Int32.add_sub_cancel _ _
set_option maxHeartbeats 4000000 in
set_option maxRecDepth 100000 in
theorem c_X7_isUnder {d : Nat} {I : pm_I} {J : pm_J} {k : Nat} {z : Int32} (hk : k < 6) : pm_M (d + 1) 0 0 yX7_isUnder cX7_isUnder 4 (some .boolean) [.int (nI k), .int z] SHP I J (pm_D (some (.int (pm_b (kd_anc 6 (nI k) z = true)))) SHP I J) := by
  refine pm_start (own := RX7) (nm := "isUnder") (by decide) rfl rfl (L := [(0, .int (nI k)), (1, .int z)]) rfl (Nat.le_of_ble_eq_true rfl) (fun Γ C C2 => ?_)
  have hloop : ∀ j, j ≤ 6 → ∀ v, kd_ok v → kd_anc 6 (nI k) z = kd_anc (6 - j) v z → pm_G Γ 0 0 4 [(0, .int (nI k)), (1, .int z), (2, .int v), (3, .int (nI j))] [] SHP I J := by
    refine pm_up (fun j => ∀ v, kd_ok v → kd_anc 6 (nI k) z = kd_anc (6 - j) v z → pm_G Γ 0 0 4 [(0, .int (nI k)), (1, .int z), (2, .int v), (3, .int (nI j))] [] SHP I J) 6 (fun j hj ih v hv hR => ?_)
    refine g_iload_n (pc := 4) (i := 3) (j := 3) C dX7_isUnder_4 rfl rfl ?_
    refine g_bipush (pc := 5) (v := 6) C dX7_isUnder_5 (by decide) ?_
    refine g_icmp_ge (pc := 7) (tgt := 33) C dX7_isUnder_7 (by decide) (fun h7 => ?_) (fun h7 => ?_)
    · refine g_iconst (pc := 33) (v := 0) C dX7_isUnder_33 (by decide) ?_
      refine g_iret (pc := 34) C C2 dX7_isUnder_34 (by first | rfl | exact pm_nz) (Nat.le_refl _) (Nat.le_refl _) ?_
      refine ⟨?_, rfl, rfl, rfl⟩
      first
        | (rw [pm_bB, hR, e6, kd_anc, if_pos h11]; rfl)
        | (have ej : j = 6 := by have := (nI_leI (a := 6) (b := j) (by decide) (by omega)).mp h7; omega
           rw [pm_bB, hR, ej]; rfl)
    · have hlt : j < 6 := by (try rw [hn] at h7); exact Nat.lt_of_not_le (fun q => h7 ((nI_leI (a := 6) (b := j) (by omega) (by omega)).mpr q))
      have e6 : 6 - j = (6 - (j + 1)) + 1 := by omega
      refine g_iload_n (pc := 10) (i := 2) (j := 2) C dX7_isUnder_10 rfl rfl ?_
      refine g_if_lt (pc := 11) (tgt := 33) C dX7_isUnder_11 (by decide) (fun h11 => ?_) (fun h11 => ?_)
      · refine g_iconst (pc := 33) (v := 0) C dX7_isUnder_33 (by decide) ?_
        refine g_iret (pc := 34) C C2 dX7_isUnder_34 (by first | rfl | exact pm_nz) (Nat.le_refl _) (Nat.le_refl _) ?_
        refine ⟨?_, rfl, rfl, rfl⟩
        first
          | (rw [pm_bB, hR, e6, kd_anc, if_pos h11]; rfl)
          | (have ej : j = 6 := by have := (nI_leI (a := 6) (b := j) (by decide) (by omega)).mp h7; omega
             rw [pm_bB, hR, ej]; rfl)
      · refine g_iload_n (pc := 14) (i := 2) (j := 2) C dX7_isUnder_14 rfl rfl ?_
        refine g_iload_n (pc := 15) (i := 1) (j := 1) C dX7_isUnder_15 rfl rfl ?_
        refine g_icmp_ne (pc := 16) (tgt := 21) C dX7_isUnder_16 (by decide) (fun h16 => ?_) (fun h16 => ?_)
        · obtain ⟨q, hq, rfl⟩ := kd_ok_pos hv h11
          refine g_gets (pc := 21) (j := 0) C dX7_isUnder_21 (by decide) lsX7_269 ?_
          refine g_iload_n (pc := 24) (i := 2) (j := 2) C dX7_isUnder_24 rfl rfl ?_
          refine g_tald (pc := 25) (j := 0) C dX7_isUnder_25 (by decide) rfl hq ?_
          refine g_istore_n (pc := 26) (i := 2) (L2 := [(0, _), (1, _), (2, _), (3, _)]) C dX7_isUnder_26 rfl (by decide) rfl ?_
          refine g_iinc (pc := 27) (j := 3) (v := _ + 1) (L2 := [(0, _), (1, _), (2, _), (3, _)]) C dX7_isUnder_27 rfl rfl (by decide) rfl ?_
          refine g_goto (pc := 30) (tgt := 4) C dX7_isUnder_30 (by decide) ?_
          refine pm_Geq (ih hlt _ (kd_ok_next hq) ?_) (by simp only [nI_1]) rfl rfl rfl
          rw [hR, e6, kd_anc, if_neg h11, if_neg h16]
          have ec : (nI q).toNatClampNeg = q := nI_clamp (by omega)
          rw [kd_next, ec]
        · refine g_iconst (pc := 19) (v := 1) C dX7_isUnder_19 (by decide) ?_
          refine g_iret (pc := 20) C C2 dX7_isUnder_20 (by first | rfl | exact pm_nz) (Nat.le_refl _) (Nat.le_refl _) ?_
          refine ⟨?_, rfl, rfl, rfl⟩
          rw [pm_bB, hR, e6, kd_anc, if_neg h11, if_pos h16]
          rfl
  refine g_iload_n (pc := 0) (i := 0) (j := 0) C dX7_isUnder_0 rfl rfl ?_
  refine g_istore_n (pc := 1) (i := 2) (L2 := [(0, _), (1, _), (2, _)]) C dX7_isUnder_1 rfl (by decide) rfl ?_
  refine g_iconst (pc := 2) (v := 0) C dX7_isUnder_2 (by decide) ?_
  refine g_istore_n (pc := 3) (i := 3) (L2 := [(0, _), (1, _), (2, _), (3, _)]) C dX7_isUnder_3 rfl (by decide) rfl ?_
  exact hloop 0 (Nat.zero_le _) (nI k) (Or.inr ⟨k, hk, rfl⟩) rfl

set_option maxHeartbeats 4000000 in
set_option maxRecDepth 100000 in
theorem c_X3_holdBalloon {d : Nat} {s : Nat} (hs : s < 4) {I : pm_I} {J : pm_J} {v : Int32} : pm_M d 0 0 yX3_holdBalloon cX3_holdBalloon 2 (none : Option Jvm.ClassFile.FieldType) [.ref (98 + s), .int v] SHP I J (pm_D none SHP (pm_u (pm_u I (98 + s) 0 0) (98 + s) 1 v) J) := by
  refine pm_start (own := RX3) (nm := "holdBalloon") (by decide) rfl rfl (L := [(0, .ref (98 + s)), (1, .int v)]) rfl (Nat.le_of_ble_eq_true rfl) (fun Γ C C2 => ?_)
  have sS := shS s hs
  refine g_aload_n (pc := 0) (i := 0) (j := 0) C dX3_holdBalloon_0 rfl rfl ?_
  refine g_iconst (pc := 1) (v := 0) C dX3_holdBalloon_1 (by decide) ?_
  refine g_putI (pc := 2) C dX3_holdBalloon_2 lpX3_9 rfl rfl (by first | rfl | assumption) rfl ?_
  refine g_aload_n (pc := 5) (i := 0) (j := 0) C dX3_holdBalloon_5 rfl rfl ?_
  refine g_iload_n (pc := 6) (i := 1) (j := 1) C dX3_holdBalloon_6 rfl rfl ?_
  refine g_putI (pc := 7) C dX3_holdBalloon_7 lpX3_15 rfl rfl (by first | rfl | assumption) rfl ?_
  refine g_vret (pc := 10) C C2 dX3_holdBalloon_10 (Nat.le_refl _) (Nat.le_refl _) ?_
  exact ⟨rfl, rfl, rfl, rfl⟩

set_option maxHeartbeats 4000000 in
set_option maxRecDepth 100000 in
theorem c_X3_holdRow {d : Nat} {s : Nat} (hs : s < 4) {e : Nat} (he : e < 4) {I : pm_I} {J : pm_J} : pm_M d 0 0 yX3_holdRow cX3_holdRow 2 (none : Option Jvm.ClassFile.FieldType) [.ref (98 + s), .ref (90 + 2 * e)] SHP I J (pm_D none SHP (pm_u (pm_u (pm_u I (98 + s) 0 (if I (90 + 2 * e) 1 = -1 then 2 else 1)) (98 + s) 2 (I (90 + 2 * e) 1)) (98 + s) 3 (I (90 + 2 * e) 2)) J) := by
  refine pm_start (own := RX3) (nm := "holdRow") (by decide) rfl rfl (L := [(0, .ref (98 + s)), (1, .ref (90 + 2 * e))]) rfl (Nat.le_of_ble_eq_true rfl) (fun Γ C C2 => ?_)
  have sS := shS s hs
  have sT := shT e he
  refine g_aload_n (pc := 0) (i := 0) (j := 0) C dX3_holdRow_0 rfl rfl ?_
  refine g_aload_n (pc := 1) (i := 1) (j := 1) C dX3_holdRow_1 rfl rfl ?_
  refine g_getI (pc := 2) C dX3_holdRow_2 lfX3_24 (by first | rfl | assumption) rfl ?_
  refine g_iconst (pc := 5) (v := (-1)) C dX3_holdRow_5 (by decide) ?_
  refine g_icmp_ne (pc := 6) (tgt := 13) C dX3_holdRow_6 (by decide) (fun h6 => ?_) (fun h6 => ?_)
  · refine g_iconst (pc := 13) (v := 1) C dX3_holdRow_13 (by decide) ?_
    refine g_putI (pc := 14) C dX3_holdRow_14 lpX3_9 rfl rfl (by first | rfl | assumption) rfl ?_
    refine g_aload_n (pc := 17) (i := 0) (j := 0) C dX3_holdRow_17 rfl rfl ?_
    refine g_aload_n (pc := 18) (i := 1) (j := 1) C dX3_holdRow_18 rfl rfl ?_
    refine g_getI (pc := 19) C dX3_holdRow_19 lfX3_24 (by first | rfl | assumption) rfl ?_
    refine g_putI (pc := 22) C dX3_holdRow_22 lpX3_18 rfl rfl (by first | rfl | assumption) rfl ?_
    refine g_aload_n (pc := 25) (i := 0) (j := 0) C dX3_holdRow_25 rfl rfl ?_
    refine g_aload_n (pc := 26) (i := 1) (j := 1) C dX3_holdRow_26 rfl rfl ?_
    refine g_getI (pc := 27) C dX3_holdRow_27 lfX3_27 (by first | rfl | assumption) rfl ?_
    refine g_putI (pc := 30) C dX3_holdRow_30 lpX3_21 rfl rfl (by first | rfl | assumption) rfl ?_
    refine g_vret (pc := 33) C C2 dX3_holdRow_33 (Nat.le_refl _) (Nat.le_refl _) ?_
    refine ⟨rfl, rfl, ?_, rfl⟩
    have d1 : 90 + 2 * e ≠ 98 + s := by omega
    first | rw [if_pos h6] | rw [if_neg h6]
    simp only [pm_u_off d1]
  · refine g_iconst (pc := 9) (v := 2) C dX3_holdRow_9 (by decide) ?_
    refine g_goto (pc := 10) (tgt := 14) C dX3_holdRow_10 (by decide) ?_
    refine g_putI (pc := 14) C dX3_holdRow_14 lpX3_9 rfl rfl (by first | rfl | assumption) rfl ?_
    refine g_aload_n (pc := 17) (i := 0) (j := 0) C dX3_holdRow_17 rfl rfl ?_
    refine g_aload_n (pc := 18) (i := 1) (j := 1) C dX3_holdRow_18 rfl rfl ?_
    refine g_getI (pc := 19) C dX3_holdRow_19 lfX3_24 (by first | rfl | assumption) rfl ?_
    refine g_putI (pc := 22) C dX3_holdRow_22 lpX3_18 rfl rfl (by first | rfl | assumption) rfl ?_
    refine g_aload_n (pc := 25) (i := 0) (j := 0) C dX3_holdRow_25 rfl rfl ?_
    refine g_aload_n (pc := 26) (i := 1) (j := 1) C dX3_holdRow_26 rfl rfl ?_
    refine g_getI (pc := 27) C dX3_holdRow_27 lfX3_27 (by first | rfl | assumption) rfl ?_
    refine g_putI (pc := 30) C dX3_holdRow_30 lpX3_21 rfl rfl (by first | rfl | assumption) rfl ?_
    refine g_vret (pc := 33) C C2 dX3_holdRow_33 (Nat.le_refl _) (Nat.le_refl _) ?_
    refine ⟨rfl, rfl, ?_, rfl⟩
    have d1 : 90 + 2 * e ≠ 98 + s := by omega
    first | rw [if_pos h6] | rw [if_neg h6]
    simp only [pm_u_off d1]

set_option maxHeartbeats 4000000 in
set_option maxRecDepth 100000 in
theorem c_X7_shelf {d : Nat} {I : pm_I} {J : pm_J} {n : Nat} (hn : I 1 2 = nI n) (h6 : n ≤ 6) {x w v : Int32} : pm_M (d + 2) 0 0 yX7_shelf cX7_shelf 4 (some .int) [.ref 0, .int x, .int w, .int v] SHP I J (pm_D (some (.int (if (0 ≤ x ∧ x ≤ 3) ∧ ((w = 0 ∧ 0 ≤ v ∧ v ≤ I 1 2 - 1) ∨ (w = 1 ∧ 0 ≤ v ∧ v ≤ 3) ∨ w = 2) then 1 else -1))) SHP (if ¬ (0 ≤ x ∧ x ≤ 3) then I else if w = 0 then (if 0 ≤ v ∧ v ≤ I 1 2 - 1 then (pm_u (pm_u I (98 + x.toNatClampNeg) 0 0) (98 + x.toNatClampNeg) 1 v) else I) else if w = 1 then (if 0 ≤ v ∧ v ≤ 3 then (pm_u (pm_u (pm_u I (98 + x.toNatClampNeg) 0 (if I (90 + 2 * v.toNatClampNeg) 1 = -1 then 2 else 1)) (98 + x.toNatClampNeg) 2 (I (90 + 2 * v.toNatClampNeg) 1)) (98 + x.toNatClampNeg) 3 (I (90 + 2 * v.toNatClampNeg) 2)) else I) else if w = 2 then pm_u I (98 + x.toNatClampNeg) 0 2 else I) J) := by
  refine pm_start (own := RX7) (nm := "shelf") (by decide) rfl rfl (L := [(0, .ref 0), (1, .int x), (2, .int w), (3, .int v)]) rfl (Nat.le_of_ble_eq_true rfl) (fun Γ C C2 => ?_)
  refine g_iload_n (pc := 0) (i := 1) (j := 1) C dX7_shelf_0 rfl rfl ?_
  refine g_callS (pc := 1) C dX7_shelf_1 lmX7_227 kcX7_isShelf (by decide) (c_X7_isShelf) rfl rfl (Nat.le_of_ble_eq_true rfl) ?_
  intro r9 sh9 I9 J9 hD9; obtain ⟨rfl, rfl, rfl, rfl⟩ := pm_Dq hD9
  try simp only [Option.toList_some, Option.toList_none, List.cons_append, List.nil_append]
  refine g_if_neB (pc := 4) (tgt := 9) C dX7_shelf_4 (by decide) (fun h4 => ?_) (fun h4 => ?_)
  · obtain ⟨s, hs, rfl⟩ := pm_ix (N := 4) h4.1 h4.2 (by decide)
    have ecs : (nI s).toNatClampNeg = s := nI_clamp (by omega)
    have sS := shS s hs
    refine g_iload_n (pc := 9) (i := 2) (j := 2) C dX7_shelf_9 rfl rfl ?_
    refine pm_sw (0) (fun h10_0 => ?_) (fun h10_0 => ?_)
    · refine g_tsIn (pc := 10) (tgt := 36) (0) C dX7_shelf_10 (by rw [h10_0]; decide) (by decide) (by decide) rfl (by decide) ?_
      refine g_aload_n (pc := 36) (i := 0) (j := 0) C dX7_shelf_36 rfl rfl ?_
      refine g_getR (pc := 37) C dX7_shelf_37 lfX7_10 (by first | rfl | assumption) rfl ?_
      refine g_iload_n (pc := 40) (i := 3) (j := 3) C dX7_shelf_40 rfl rfl ?_
      refine g_callV (pc := 41) C dX7_shelf_41 lmX7_115 kcX5_has (by decide) (by first | rfl | assumption) (c_X5_has) rfl rfl (Nat.le_of_ble_eq_true rfl) ?_
      intro r9 sh9 I9 J9 hD9; obtain ⟨rfl, rfl, rfl, rfl⟩ := pm_Dq hD9
      try simp only [Option.toList_some, Option.toList_none, List.cons_append, List.nil_append]
      refine g_if_neB (pc := 44) (tgt := 49) C dX7_shelf_44 (by decide) (fun h44 => ?_) (fun h44 => ?_)
      · refine g_aload_n (pc := 49) (i := 0) (j := 0) C dX7_shelf_49 rfl rfl ?_
        refine g_getR (pc := 50) C dX7_shelf_50 lfX7_59 (by first | rfl | assumption) rfl ?_
        refine g_iload_n (pc := 53) (i := 1) (j := 1) C dX7_shelf_53 rfl rfl ?_
        refine g_aald (pc := 54) C dX7_shelf_54 (by first | rfl | assumption) (fun _ => rfl) rfl (by decide) (by first | rfl | assumption) (rsS s hs) ?_
        refine g_iload_n (pc := 55) (i := 3) (j := 3) C dX7_shelf_55 rfl rfl ?_
        refine g_callV (pc := 56) C dX7_shelf_56 lmX7_230 kcX3_holdBalloon (by decide) sS (c_X3_holdBalloon hs) rfl rfl (Nat.le_of_ble_eq_true rfl) ?_
        intro r9 sh9 I9 J9 hD9; obtain ⟨rfl, rfl, rfl, rfl⟩ := pm_Dq hD9
        try simp only [Option.toList_some, Option.toList_none, List.cons_append, List.nil_append]
        refine g_iconst (pc := 59) (v := 1) C dX7_shelf_59 (by decide) ?_
        refine g_iret (pc := 60) C C2 dX7_shelf_60 rfl (Nat.le_refl _) (Nat.le_refl _) ?_
        clear C C2
        try clear sS
        exact ⟨by first | rfl | grind, rfl, by first | rfl | grind, rfl⟩
      · refine g_iconst (pc := 47) (v := (-1)) C dX7_shelf_47 (by decide) ?_
        refine g_iret (pc := 48) C C2 dX7_shelf_48 rfl (Nat.le_refl _) (Nat.le_refl _) ?_
        clear C C2
        try clear sS
        exact ⟨by first | rfl | grind, rfl, by first | rfl | grind, rfl⟩
    refine pm_sw (1) (fun h10_1 => ?_) (fun h10_1 => ?_)
    · refine g_tsIn (pc := 10) (tgt := 61) (1) C dX7_shelf_10 (by rw [h10_1]; decide) (by decide) (by decide) rfl (by decide) ?_
      refine g_iload_n (pc := 61) (i := 3) (j := 3) C dX7_shelf_61 rfl rfl ?_
      refine g_callS (pc := 62) C dX7_shelf_62 lmX7_206 kcX7_isSheet (by decide) (c_X7_isSheet) rfl rfl (Nat.le_of_ble_eq_true rfl) ?_
      intro r9 sh9 I9 J9 hD9; obtain ⟨rfl, rfl, rfl, rfl⟩ := pm_Dq hD9
      try simp only [Option.toList_some, Option.toList_none, List.cons_append, List.nil_append]
      refine g_if_neB (pc := 65) (tgt := 70) C dX7_shelf_65 (by decide) (fun h65 => ?_) (fun h65 => ?_)
      · obtain ⟨e, he, rfl⟩ := pm_ix (N := 4) h65.1 h65.2 (by decide)
        have ece : (nI e).toNatClampNeg = e := nI_clamp (by omega)
        refine g_aload_n (pc := 70) (i := 0) (j := 0) C dX7_shelf_70 rfl rfl ?_
        refine g_getR (pc := 71) C dX7_shelf_71 lfX7_59 (by first | rfl | assumption) rfl ?_
        refine g_iload_n (pc := 74) (i := 1) (j := 1) C dX7_shelf_74 rfl rfl ?_
        refine g_aald (pc := 75) C dX7_shelf_75 (by first | rfl | assumption) (fun _ => rfl) rfl (by decide) (by first | rfl | assumption) (rsS s hs) ?_
        refine g_aload_n (pc := 76) (i := 0) (j := 0) C dX7_shelf_76 rfl rfl ?_
        refine g_getR (pc := 77) C dX7_shelf_77 lfX7_53 (by first | rfl | assumption) rfl ?_
        refine g_iload_n (pc := 80) (i := 3) (j := 3) C dX7_shelf_80 rfl rfl ?_
        refine g_aald (pc := 81) C dX7_shelf_81 (by first | rfl | assumption) (fun _ => rfl) rfl (by decide) (by first | rfl | assumption) (rsT e he) ?_
        refine g_callV (pc := 82) C dX7_shelf_82 lmX7_234 kcX3_holdRow (by decide) sS (c_X3_holdRow hs he) rfl rfl (Nat.le_of_ble_eq_true rfl) ?_
        intro r9 sh9 I9 J9 hD9; obtain ⟨rfl, rfl, rfl, rfl⟩ := pm_Dq hD9
        try simp only [Option.toList_some, Option.toList_none, List.cons_append, List.nil_append]
        refine g_iconst (pc := 85) (v := 1) C dX7_shelf_85 (by decide) ?_
        refine g_iret (pc := 86) C C2 dX7_shelf_86 rfl (Nat.le_refl _) (Nat.le_refl _) ?_
        clear C C2
        try clear sS
        exact ⟨by first | rfl | grind, rfl, by first | rfl | grind, rfl⟩
      · refine g_iconst (pc := 68) (v := (-1)) C dX7_shelf_68 (by decide) ?_
        refine g_iret (pc := 69) C C2 dX7_shelf_69 rfl (Nat.le_refl _) (Nat.le_refl _) ?_
        clear C C2
        try clear sS
        exact ⟨by first | rfl | grind, rfl, by first | rfl | grind, rfl⟩
    refine pm_sw (2) (fun h10_2 => ?_) (fun h10_2 => ?_)
    · refine g_tsIn (pc := 10) (tgt := 87) (2) C dX7_shelf_10 (by rw [h10_2]; decide) (by decide) (by decide) rfl (by decide) ?_
      refine g_aload_n (pc := 87) (i := 0) (j := 0) C dX7_shelf_87 rfl rfl ?_
      refine g_getR (pc := 88) C dX7_shelf_88 lfX7_59 (by first | rfl | assumption) rfl ?_
      refine g_iload_n (pc := 91) (i := 1) (j := 1) C dX7_shelf_91 rfl rfl ?_
      refine g_aald (pc := 92) C dX7_shelf_92 (by first | rfl | assumption) (fun _ => rfl) rfl (by decide) (by first | rfl | assumption) (rsS s hs) ?_
      refine g_iconst (pc := 93) (v := 2) C dX7_shelf_93 (by decide) ?_
      refine g_putI (pc := 94) C dX7_shelf_94 lpX7_238 rfl rfl (by first | rfl | assumption) rfl ?_
      refine g_iconst (pc := 97) (v := 1) C dX7_shelf_97 (by decide) ?_
      refine g_iret (pc := 98) C C2 dX7_shelf_98 rfl (Nat.le_refl _) (Nat.le_refl _) ?_
      clear C C2
      try clear sS
      exact ⟨by first | rfl | grind, rfl, by first | rfl | grind, rfl⟩
    refine g_tsOut (pc := 10) (tgt := 99) C dX7_shelf_10 (by have q0 := lv_neT (a := 0) h10_0 (by decide); have q1 := lv_neT (a := 1) h10_1 (by decide); have q2 := lv_neT (a := 2) h10_2 (by decide); omega) (by decide) ?_
    refine g_iconst (pc := 99) (v := (-1)) C dX7_shelf_99 (by decide) ?_
    refine g_iret (pc := 100) C C2 dX7_shelf_100 rfl (Nat.le_refl _) (Nat.le_refl _) ?_
    clear C C2
    try clear sS
    exact ⟨by first | rfl | grind, rfl, by first | rfl | grind, rfl⟩
  · refine g_iconst (pc := 7) (v := (-1)) C dX7_shelf_7 (by decide) ?_
    refine g_iret (pc := 8) C C2 dX7_shelf_8 rfl (Nat.le_refl _) (Nat.le_refl _) ?_
    clear C C2
    try clear sS
    exact ⟨by first | rfl | grind, rfl, by first | rfl | grind, rfl⟩

set_option maxHeartbeats 4000000 in
set_option maxRecDepth 100000 in
theorem c_X2_becomeRow {d : Nat} {e : Nat} (he : e < 4) {I : pm_I} {J : pm_J} {z : Int32} {m : Nat} (hm : m ≤ 40) : pm_M d 0 0 yX2_becomeRow cX2_becomeRow 4 (none : Option Jvm.ClassFile.FieldType) [.ref (90 + 2 * e), .int z, .int (nI m)] SHP I J (pm_D none SHP (pm_s (pm_u (pm_u I (90 + 2 * e) 1 z) (90 + 2 * e) 2 (nI m)) (91 + 2 * e) (bl_zer (I (91 + 2 * e)) m)) J) := by
  refine pm_start (own := RX2) (nm := "becomeRow") (by decide) rfl rfl (L := [(0, .ref (90 + 2 * e)), (1, .int z), (2, .int (nI m))]) rfl (Nat.le_of_ble_eq_true rfl) (fun Γ C C2 => ?_)
  have sT := shT e he
  have hloop : ∀ j, j ≤ m → pm_G Γ 0 0 12 [(0, .ref (90 + 2 * e)), (1, .int z), (2, .int (nI m)), (3, .int (nI j))] [] SHP (pm_s (pm_u (pm_u I (90 + 2 * e) 1 z) (90 + 2 * e) 2 (nI m)) (91 + 2 * e) (bl_zer (I (91 + 2 * e)) j)) J := by
    refine pm_up (fun j => pm_G Γ 0 0 12 [(0, .ref (90 + 2 * e)), (1, .int z), (2, .int (nI m)), (3, .int (nI j))] [] SHP (pm_s (pm_u (pm_u I (90 + 2 * e) 1 z) (90 + 2 * e) 2 (nI m)) (91 + 2 * e) (bl_zer (I (91 + 2 * e)) j)) J) m (fun j hj ih => ?_)
    refine g_iload_n (pc := 12) (i := 3) (j := 3) C dX2_becomeRow_12 rfl rfl ?_
    refine g_iload_n (pc := 13) (i := 2) (j := 2) C dX2_becomeRow_13 rfl rfl ?_
    refine g_icmp_ge (pc := 14) (tgt := 30) C dX2_becomeRow_14 (by decide) (fun h14 => ?_) (fun h14 => ?_)
    · have ej : j = m := by (try rw [hn] at h14); have := (nI_leI (a := m) (b := j) (by omega) (by omega)).mp h14; omega
      subst ej
      refine g_vret (pc := 30) C C2 dX2_becomeRow_30 (Nat.le_refl _) (Nat.le_refl _) ?_
      exact ⟨rfl, rfl, rfl, rfl⟩
    · have hlt : j < m := by (try rw [hn] at h14); exact Nat.lt_of_not_le (fun q => h14 ((nI_leI (a := m) (b := j) (by omega) (by omega)).mpr q))
      refine g_aload_n (pc := 17) (i := 0) (j := 0) C dX2_becomeRow_17 rfl rfl ?_
      refine g_getR (pc := 18) C dX2_becomeRow_18 lfX2_9 (by first | rfl | assumption) rfl ?_
      refine g_iload_n (pc := 21) (i := 3) (j := 3) C dX2_becomeRow_21 rfl rfl ?_
      refine g_iconst (pc := 22) (v := 0) C dX2_becomeRow_22 (by decide) ?_
      refine g_iast (pc := 23) (j := j) C dX2_becomeRow_23 (shI e he) (by decide) (by first | rfl | assumption) (by omega) ?_
      refine g_iinc (pc := 24) (j := 3) (v := _ + 1) (L2 := [(0, _), (1, _), (2, _), (3, _)]) C dX2_becomeRow_24 rfl rfl (by decide) rfl ?_
      refine g_goto (pc := 27) (tgt := 12) C dX2_becomeRow_27 (by decide) ?_
      refine pm_Geq (ih hlt) ?_ rfl ?_ rfl
      · simp only [nI_1]
      · rw [pm_u_s, pm_s_at, pm_s_s]; congr 1; funext k; unfold bl_zer upd; grind
  have sT := shT e he
  refine g_aload_n (pc := 0) (i := 0) (j := 0) C dX2_becomeRow_0 rfl rfl ?_
  refine g_iload_n (pc := 1) (i := 1) (j := 1) C dX2_becomeRow_1 rfl rfl ?_
  refine g_putI (pc := 2) C dX2_becomeRow_2 lpX2_15 rfl rfl (by first | rfl | assumption) rfl ?_
  refine g_aload_n (pc := 5) (i := 0) (j := 0) C dX2_becomeRow_5 rfl rfl ?_
  refine g_iload_n (pc := 6) (i := 2) (j := 2) C dX2_becomeRow_6 rfl rfl ?_
  refine g_putI (pc := 7) C dX2_becomeRow_7 lpX2_19 rfl rfl (by first | rfl | assumption) rfl ?_
  refine g_iconst (pc := 10) (v := 0) C dX2_becomeRow_10 (by decide) ?_
  refine g_istore_n (pc := 11) (i := 3) (L2 := [(0, _), (1, _), (2, _), (3, _)]) C dX2_becomeRow_11 rfl (by decide) rfl ?_
  refine pm_Geq (hloop 0 (Nat.zero_le _)) rfl rfl ?_ rfl
  funext b k
  unfold pm_s bl_zer
  split
  · next h => subst h; simp [pm_u_off (show 91 + 2 * e ≠ 90 + 2 * e by omega)]
  · rfl

set_option maxHeartbeats 4000000 in
set_option maxRecDepth 100000 in
theorem c_X2_narrowed {d : Nat} {e : Nat} (he : e < 4) {I : pm_I} {J : pm_J} {v : Int32} : pm_M d 0 0 yX2_narrowed cX2_narrowed 2 (some .int) [.ref (90 + 2 * e), .int v] SHP I J (pm_D (some (.int (sh_nar (I (90 + 2 * e) 1) v))) SHP I J) := by
  refine pm_start (own := RX2) (nm := "narrowed") (by decide) rfl rfl (L := [(0, .ref (90 + 2 * e)), (1, .int v)]) rfl (Nat.le_of_ble_eq_true rfl) (fun Γ C C2 => ?_)
  have sT := shT e he
  refine g_aload_n (pc := 0) (i := 0) (j := 0) C dX2_narrowed_0 rfl rfl ?_
  refine g_getI (pc := 1) C dX2_narrowed_1 lfX2_15 (by first | rfl | assumption) rfl ?_
  refine pm_sw (0) (fun h4_0 => ?_) (fun h4_0 => ?_)
  · refine g_ls (pc := 4) (off := 28) (tgt := 32) C dX2_narrowed_4 (by decide) (by show Op.lookupswitch.offset [(0, 28), (1, 31)] (34) _ = _; rw [h4_0]; decide) (by decide) ?_
    refine g_iload_n (pc := 32) (i := 1) (j := 1) C dX2_narrowed_32 rfl rfl ?_
    refine g_i2b (pc := 33) C dX2_narrowed_33 ?_
    refine g_iret (pc := 34) C C2 dX2_narrowed_34 rfl (Nat.le_refl _) (Nat.le_refl _) ?_
    clear C C2
    try clear sT
    exact ⟨by first | rfl | grind [sh_nar], rfl, by first | rfl | grind [sh_nar], rfl⟩
  refine pm_sw (1) (fun h4_1 => ?_) (fun h4_1 => ?_)
  · refine g_ls (pc := 4) (off := 31) (tgt := 35) C dX2_narrowed_4 (by decide) (by show Op.lookupswitch.offset [(0, 28), (1, 31)] (34) _ = _; rw [h4_1]; decide) (by decide) ?_
    refine g_iload_n (pc := 35) (i := 1) (j := 1) C dX2_narrowed_35 rfl rfl ?_
    refine g_i2s (pc := 36) C dX2_narrowed_36 ?_
    refine g_iret (pc := 37) C C2 dX2_narrowed_37 rfl (Nat.le_refl _) (Nat.le_refl _) ?_
    clear C C2
    try clear sT
    exact ⟨by first | rfl | grind [sh_nar], rfl, by first | rfl | grind [sh_nar], rfl⟩
  refine g_ls (pc := 4) (off := 34) (tgt := 38) C dX2_narrowed_4 (by decide) (by show Op.lookupswitch.offset [(0, 28), (1, 31)] (34) _ = _; rw [lv_osw (k := 0) h4_0 (by decide)]; rw [lv_osw (k := 1) h4_1 (by decide)]; rfl) (by decide) ?_
  refine g_iload_n (pc := 38) (i := 1) (j := 1) C dX2_narrowed_38 rfl rfl ?_
  refine g_iret (pc := 39) C C2 dX2_narrowed_39 rfl (Nat.le_refl _) (Nat.le_refl _) ?_
  clear C C2
  try clear sT
  exact ⟨by first | rfl | grind [sh_nar], rfl, by first | rfl | grind [sh_nar], rfl⟩

set_option maxHeartbeats 4000000 in
set_option maxRecDepth 100000 in
theorem c_X7_sheet {d : Nat} {I : pm_I} {J : pm_J} {x w v : Int32} : pm_M (d + 2) 0 0 yX7_sheet cX7_sheet 4 (some .int) [.ref 0, .int x, .int w, .int v] SHP I J (pm_D (some (.int (if (0 ≤ x ∧ x ≤ 3) ∧ -1 ≤ w ∧ w ≤ 3 then (if w = -1 then 1 else if 40 < v then -1 else if v < 0 then -14 else 1) else -1))) SHP (if (0 ≤ x ∧ x ≤ 3) ∧ -1 ≤ w ∧ w ≤ 3 then (if w = -1 then pm_s (pm_u (pm_u I (90 + 2 * x.toNatClampNeg) 1 (-1)) (90 + 2 * x.toNatClampNeg) 2 0) (91 + 2 * x.toNatClampNeg) (bl_zer (I (91 + 2 * x.toNatClampNeg)) 0) else if 40 < v then I else if v < 0 then I else pm_s (pm_u (pm_u I (90 + 2 * x.toNatClampNeg) 1 w) (90 + 2 * x.toNatClampNeg) 2 v) (91 + 2 * x.toNatClampNeg) (bl_zer (I (91 + 2 * x.toNatClampNeg)) v.toNatClampNeg)) else I) J) := by
  refine pm_start (own := RX7) (nm := "sheet") (by decide) rfl rfl (L := [(0, .ref 0), (1, .int x), (2, .int w), (3, .int v)]) rfl (Nat.le_of_ble_eq_true rfl) (fun Γ C C2 => ?_)
  refine g_iload_n (pc := 0) (i := 1) (j := 1) C dX7_sheet_0 rfl rfl ?_
  refine g_callS (pc := 1) C dX7_sheet_1 lmX7_206 kcX7_isSheet (by decide) (c_X7_isSheet) rfl rfl (Nat.le_of_ble_eq_true rfl) ?_
  intro r9 sh9 I9 J9 hD9; obtain ⟨rfl, rfl, rfl, rfl⟩ := pm_Dq hD9
  try simp only [Option.toList_some, Option.toList_none, List.cons_append, List.nil_append]
  refine g_if_eqB (pc := 4) (tgt := 16) C dX7_sheet_4 (by decide) (fun h4 => ?_) (fun h4 => ?_)
  · refine g_iconst (pc := 16) (v := (-1)) C dX7_sheet_16 (by decide) ?_
    refine g_iret (pc := 17) C C2 dX7_sheet_17 rfl (Nat.le_refl _) (Nat.le_refl _) ?_
    clear C C2
    try clear sT
    have q0 : nI 0 = 0 := rfl
    exact ⟨by first | rfl | grind, rfl, by first | rfl | grind, rfl⟩
  · refine g_iload_n (pc := 7) (i := 2) (j := 2) C dX7_sheet_7 rfl rfl ?_
    refine g_iconst (pc := 8) (v := (-1)) C dX7_sheet_8 (by decide) ?_
    refine g_iconst (pc := 9) (v := 3) C dX7_sheet_9 (by decide) ?_
    refine g_callS (pc := 10) C dX7_sheet_10 lmX7_72 kcX7_within (by decide) (c_X7_within) rfl rfl (Nat.le_of_ble_eq_true rfl) ?_
    intro r9 sh9 I9 J9 hD9; obtain ⟨rfl, rfl, rfl, rfl⟩ := pm_Dq hD9
    try simp only [Option.toList_some, Option.toList_none, List.cons_append, List.nil_append]
    refine g_if_neB (pc := 13) (tgt := 18) C dX7_sheet_13 (by decide) (fun h13 => ?_) (fun h13 => ?_)
    · obtain ⟨s, hs, rfl⟩ := pm_ix (N := 4) h4.1 h4.2 (by decide)
      have ecs : (nI s).toNatClampNeg = s := nI_clamp (by omega)
      have sT := shT s hs
      refine g_iload_n (pc := 18) (i := 2) (j := 2) C dX7_sheet_18 rfl rfl ?_
      refine g_iconst (pc := 19) (v := (-1)) C dX7_sheet_19 (by decide) ?_
      refine g_icmp_ne (pc := 20) (tgt := 36) C dX7_sheet_20 (by decide) (fun h20 => ?_) (fun h20 => ?_)
      · refine g_iload_n (pc := 36) (i := 3) (j := 3) C dX7_sheet_36 rfl rfl ?_
        refine g_bipush (pc := 37) (v := 40) C dX7_sheet_37 (by decide) ?_
        refine g_icmp_le (pc := 39) (tgt := 44) C dX7_sheet_39 (by decide) (fun h39 => ?_) (fun h39 => ?_)
        · refine g_iload_n (pc := 44) (i := 3) (j := 3) C dX7_sheet_44 rfl rfl ?_
          refine g_if_ge (pc := 45) (tgt := 51) C dX7_sheet_45 (by decide) (fun h45 => ?_) (fun h45 => ?_)
          · obtain ⟨m, hm, rfl⟩ := pm_ix (N := 41) h45 h39 (by decide)
            have ecm : (nI m).toNatClampNeg = m := nI_clamp (by omega)
            refine g_aload_n (pc := 51) (i := 0) (j := 0) C dX7_sheet_51 rfl rfl ?_
            refine g_getR (pc := 52) C dX7_sheet_52 lfX7_53 (by first | rfl | assumption) rfl ?_
            refine g_iload_n (pc := 55) (i := 1) (j := 1) C dX7_sheet_55 rfl rfl ?_
            refine g_aald (pc := 56) C dX7_sheet_56 (by first | rfl | assumption) (fun _ => rfl) rfl (by decide) (by first | rfl | assumption) (rsT s hs) ?_
            refine g_iload_n (pc := 57) (i := 2) (j := 2) C dX7_sheet_57 rfl rfl ?_
            refine g_iload_n (pc := 58) (i := 3) (j := 3) C dX7_sheet_58 rfl rfl ?_
            refine g_callV (pc := 59) C dX7_sheet_59 lmX7_221 kcX2_becomeRow (by decide) sT (c_X2_becomeRow hs (by omega)) rfl rfl (Nat.le_of_ble_eq_true rfl) ?_
            intro r9 sh9 I9 J9 hD9; obtain ⟨rfl, rfl, rfl, rfl⟩ := pm_Dq hD9
            try simp only [Option.toList_some, Option.toList_none, List.cons_append, List.nil_append]
            refine g_iconst (pc := 62) (v := 1) C dX7_sheet_62 (by decide) ?_
            refine g_iret (pc := 63) C C2 dX7_sheet_63 rfl (Nat.le_refl _) (Nat.le_refl _) ?_
            clear C C2
            try clear sT
            have q0 : nI 0 = 0 := rfl
            exact ⟨by first | rfl | grind, rfl, by first | rfl | grind, rfl⟩
          · refine g_bipush (pc := 48) (v := (-14)) C dX7_sheet_48 (by decide) ?_
            refine g_iret (pc := 50) C C2 dX7_sheet_50 rfl (Nat.le_refl _) (Nat.le_refl _) ?_
            clear C C2
            try clear sT
            have q0 : nI 0 = 0 := rfl
            exact ⟨by first | rfl | grind, rfl, by first | rfl | grind, rfl⟩
        · refine g_iconst (pc := 42) (v := (-1)) C dX7_sheet_42 (by decide) ?_
          refine g_iret (pc := 43) C C2 dX7_sheet_43 rfl (Nat.le_refl _) (Nat.le_refl _) ?_
          clear C C2
          try clear sT
          have q0 : nI 0 = 0 := rfl
          exact ⟨by first | rfl | grind, rfl, by first | rfl | grind, rfl⟩
      · refine g_aload_n (pc := 23) (i := 0) (j := 0) C dX7_sheet_23 rfl rfl ?_
        refine g_getR (pc := 24) C dX7_sheet_24 lfX7_53 (by first | rfl | assumption) rfl ?_
        refine g_iload_n (pc := 27) (i := 1) (j := 1) C dX7_sheet_27 rfl rfl ?_
        refine g_aald (pc := 28) C dX7_sheet_28 (by first | rfl | assumption) (fun _ => rfl) rfl (by decide) (by first | rfl | assumption) (rsT s hs) ?_
        refine g_iconst (pc := 29) (v := (-1)) C dX7_sheet_29 (by decide) ?_
        refine g_iconst (pc := 30) (v := 0) C dX7_sheet_30 (by decide) ?_
        refine g_callV (pc := 31) C dX7_sheet_31 lmX7_221 kcX2_becomeRow (by decide) sT (c_X2_becomeRow (m := 0) hs (by decide)) rfl rfl (Nat.le_of_ble_eq_true rfl) ?_
        intro r9 sh9 I9 J9 hD9; obtain ⟨rfl, rfl, rfl, rfl⟩ := pm_Dq hD9
        try simp only [Option.toList_some, Option.toList_none, List.cons_append, List.nil_append]
        refine g_iconst (pc := 34) (v := 1) C dX7_sheet_34 (by decide) ?_
        refine g_iret (pc := 35) C C2 dX7_sheet_35 rfl (Nat.le_refl _) (Nat.le_refl _) ?_
        clear C C2
        try clear sT
        have q0 : nI 0 = 0 := rfl
        exact ⟨by first | rfl | grind, rfl, by first | rfl | grind, rfl⟩
    · refine g_iconst (pc := 16) (v := (-1)) C dX7_sheet_16 (by decide) ?_
      refine g_iret (pc := 17) C C2 dX7_sheet_17 rfl (Nat.le_refl _) (Nat.le_refl _) ?_
      clear C C2
      try clear sT
      have q0 : nI 0 = 0 := rfl
      exact ⟨by first | rfl | grind, rfl, by first | rfl | grind, rfl⟩

set_option maxHeartbeats 4000000 in
set_option maxRecDepth 100000 in
theorem c_X7_put {d : Nat} {I : pm_I} {J : pm_J} {x i v : Int32} {ln : Nat → Nat} (hln : ∀ e, e < 4 → I (90 + 2 * e) 2 = nI (ln e) ∧ ln e ≤ 40)  : pm_M (d + 2) 0 0 yX7_put cX7_put 5 (some .int) [.ref 0, .int x, .int i, .int v] SHP I J (pm_D (some (.int (if 0 ≤ x ∧ x ≤ 3 then (if I (90 + 2 * x.toNatClampNeg) 1 = -1 then -11 else if 0 ≤ i ∧ i ≤ I (90 + 2 * x.toNatClampNeg) 2 - 1 then 1 else -12) else -1))) SHP (if (0 ≤ x ∧ x ≤ 3) ∧ ¬ I (90 + 2 * x.toNatClampNeg) 1 = -1 ∧ 0 ≤ i ∧ i ≤ I (90 + 2 * x.toNatClampNeg) 2 - 1 then pm_u I (91 + 2 * x.toNatClampNeg) i.toNatClampNeg (sh_nar (I (90 + 2 * x.toNatClampNeg) 1) v) else I) J) := by
  refine pm_start (own := RX7) (nm := "put") (by decide) rfl rfl (L := [(0, .ref 0), (1, .int x), (2, .int i), (3, .int v)]) rfl (Nat.le_of_ble_eq_true rfl) (fun Γ C C2 => ?_)
  refine g_iload_n (pc := 0) (i := 1) (j := 1) C dX7_put_0 rfl rfl ?_
  refine g_callS (pc := 1) C dX7_put_1 lmX7_206 kcX7_isSheet (by decide) (c_X7_isSheet) rfl rfl (Nat.le_of_ble_eq_true rfl) ?_
  intro r9 sh9 I9 J9 hD9; obtain ⟨rfl, rfl, rfl, rfl⟩ := pm_Dq hD9
  try simp only [Option.toList_some, Option.toList_none, List.cons_append, List.nil_append]
  refine g_if_neB (pc := 4) (tgt := 9) C dX7_put_4 (by decide) (fun h4 => ?_) (fun h4 => ?_)
  · obtain ⟨s, hs, rfl⟩ := pm_ix (N := 4) h4.1 h4.2 (by decide)
    have ecs : (nI s).toNatClampNeg = s := nI_clamp (by omega)
    have sT := shT s hs
    have sI := shI s hs
    refine g_aload_n (pc := 9) (i := 0) (j := 0) C dX7_put_9 rfl rfl ?_
    refine g_getR (pc := 10) C dX7_put_10 lfX7_53 (by first | rfl | assumption) rfl ?_
    refine g_iload_n (pc := 13) (i := 1) (j := 1) C dX7_put_13 rfl rfl ?_
    refine g_aald (pc := 14) C dX7_put_14 (by first | rfl | assumption) (fun _ => rfl) rfl (by decide) (by first | rfl | assumption) (rsT s hs) ?_
    refine g_astore (pc := 15) (L2 := [(0, _), (1, _), (2, _), (3, _), (4, _)]) C dX7_put_15 (by decide) rfl ?_
    refine g_aload (pc := 17) (j := 4) C dX7_put_17 rfl ?_
    refine g_getI (pc := 19) C dX7_put_19 lfX7_209 (by first | rfl | assumption) rfl ?_
    refine g_iconst (pc := 22) (v := (-1)) C dX7_put_22 (by decide) ?_
    refine g_icmp_ne (pc := 23) (tgt := 29) C dX7_put_23 (by decide) (fun h23 => ?_) (fun h23 => ?_)
    · refine g_iload_n (pc := 29) (i := 2) (j := 2) C dX7_put_29 rfl rfl ?_
      refine g_iconst (pc := 30) (v := 0) C dX7_put_30 (by decide) ?_
      refine g_aload (pc := 31) (j := 4) C dX7_put_31 rfl ?_
      refine g_getI (pc := 33) C dX7_put_33 lfX7_212 (by first | rfl | assumption) rfl ?_
      refine g_iconst (pc := 36) (v := 1) C dX7_put_36 (by decide) ?_
      refine g_isub (pc := 37) C dX7_put_37 ?_
      refine g_callS (pc := 38) C dX7_put_38 lmX7_72 kcX7_within (by decide) (c_X7_within) rfl rfl (Nat.le_of_ble_eq_true rfl) ?_
      intro r9 sh9 I9 J9 hD9; obtain ⟨rfl, rfl, rfl, rfl⟩ := pm_Dq hD9
      try simp only [Option.toList_some, Option.toList_none, List.cons_append, List.nil_append]
      refine g_if_neB (pc := 41) (tgt := 47) C dX7_put_41 (by decide) (fun h41 => ?_) (fun h41 => ?_)
      · obtain ⟨z, hz, rfl⟩ := pm_hasN (n := ln s) (by have := (hln s hs).2; omega) (by rw [← (hln s hs).1]; exact h41)
        have ecz : (nI z).toNatClampNeg = z := nI_clamp (by have := (hln s hs).2; omega)
        have hz40 : z < 40 := by have := (hln s hs).2; omega
        refine g_aload (pc := 47) (j := 4) C dX7_put_47 rfl ?_
        refine g_getR (pc := 49) C dX7_put_49 lfX7_215 (by first | rfl | assumption) rfl ?_
        refine g_iload_n (pc := 52) (i := 2) (j := 2) C dX7_put_52 rfl rfl ?_
        refine g_aload (pc := 53) (j := 4) C dX7_put_53 rfl ?_
        refine g_iload_n (pc := 55) (i := 3) (j := 3) C dX7_put_55 rfl rfl ?_
        refine g_callV (pc := 56) C dX7_put_56 lmX7_224 kcX2_narrowed (by decide) sT (c_X2_narrowed hs) rfl rfl (Nat.le_of_ble_eq_true rfl) ?_
        intro r9 sh9 I9 J9 hD9; obtain ⟨rfl, rfl, rfl, rfl⟩ := pm_Dq hD9
        try simp only [Option.toList_some, Option.toList_none, List.cons_append, List.nil_append]
        refine g_iast (pc := 59) (j := z) C dX7_put_59 (by first | rfl | assumption) (by decide) rfl hz40 ?_
        refine g_iconst (pc := 60) (v := 1) C dX7_put_60 (by decide) ?_
        refine g_iret (pc := 61) C C2 dX7_put_61 rfl (Nat.le_refl _) (Nat.le_refl _) ?_
        clear C C2
        try clear sT sI hln
        exact ⟨by first | rfl | grind, rfl, by first | rfl | grind, rfl⟩
      · refine g_bipush (pc := 44) (v := (-12)) C dX7_put_44 (by decide) ?_
        refine g_iret (pc := 46) C C2 dX7_put_46 rfl (Nat.le_refl _) (Nat.le_refl _) ?_
        clear C C2
        try clear sT sI hln
        exact ⟨by first | rfl | grind, rfl, by first | rfl | grind, rfl⟩
    · refine g_bipush (pc := 26) (v := (-11)) C dX7_put_26 (by decide) ?_
      refine g_iret (pc := 28) C C2 dX7_put_28 rfl (Nat.le_refl _) (Nat.le_refl _) ?_
      clear C C2
      try clear sT sI hln
      exact ⟨by first | rfl | grind, rfl, by first | rfl | grind, rfl⟩
  · refine g_iconst (pc := 7) (v := (-1)) C dX7_put_7 (by decide) ?_
    refine g_iret (pc := 8) C C2 dX7_put_8 rfl (Nat.le_refl _) (Nat.le_refl _) ?_
    clear C C2
    try clear sT sI hln
    exact ⟨by first | rfl | grind, rfl, by first | rfl | grind, rfl⟩

set_option maxHeartbeats 4000000 in
set_option maxRecDepth 100000 in
theorem c_X7_item {d : Nat} {I : pm_I} {J : pm_J} {x w i : Int32} {ln : Nat → Nat} (hln : ∀ e, e < 4 → I (90 + 2 * e) 2 = nI (ln e) ∧ ln e ≤ 40)  : pm_M (d + 2) 0 0 yX7_item cX7_item 5 (some .int) [.ref 0, .int x, .int w, .int i] SHP I J (pm_D (some (.int (if (0 ≤ x ∧ x ≤ 3) ∧ 0 ≤ w ∧ w ≤ 3 then (if I (90 + 2 * x.toNatClampNeg) 1 = -1 then -11 else if I (90 + 2 * x.toNatClampNeg) 1 = w then (if 0 ≤ i ∧ i ≤ I (90 + 2 * x.toNatClampNeg) 2 - 1 then I (91 + 2 * x.toNatClampNeg) i.toNatClampNeg else -12) else -13) else -1))) SHP I J) := by
  refine pm_start (own := RX7) (nm := "item") (by decide) rfl rfl (L := [(0, .ref 0), (1, .int x), (2, .int w), (3, .int i)]) rfl (Nat.le_of_ble_eq_true rfl) (fun Γ C C2 => ?_)
  refine g_iload_n (pc := 0) (i := 1) (j := 1) C dX7_item_0 rfl rfl ?_
  refine g_callS (pc := 1) C dX7_item_1 lmX7_206 kcX7_isSheet (by decide) (c_X7_isSheet) rfl rfl (Nat.le_of_ble_eq_true rfl) ?_
  intro r9 sh9 I9 J9 hD9; obtain ⟨rfl, rfl, rfl, rfl⟩ := pm_Dq hD9
  try simp only [Option.toList_some, Option.toList_none, List.cons_append, List.nil_append]
  refine g_if_eqB (pc := 4) (tgt := 16) C dX7_item_4 (by decide) (fun h4 => ?_) (fun h4 => ?_)
  · refine g_iconst (pc := 16) (v := (-1)) C dX7_item_16 (by decide) ?_
    refine g_iret (pc := 17) C C2 dX7_item_17 rfl (Nat.le_refl _) (Nat.le_refl _) ?_
    clear C C2
    try clear sT sI hln
    exact ⟨by first | rfl | grind, rfl, by first | rfl | grind, rfl⟩
  · refine g_iload_n (pc := 7) (i := 2) (j := 2) C dX7_item_7 rfl rfl ?_
    refine g_iconst (pc := 8) (v := 0) C dX7_item_8 (by decide) ?_
    refine g_iconst (pc := 9) (v := 3) C dX7_item_9 (by decide) ?_
    refine g_callS (pc := 10) C dX7_item_10 lmX7_72 kcX7_within (by decide) (c_X7_within) rfl rfl (Nat.le_of_ble_eq_true rfl) ?_
    intro r9 sh9 I9 J9 hD9; obtain ⟨rfl, rfl, rfl, rfl⟩ := pm_Dq hD9
    try simp only [Option.toList_some, Option.toList_none, List.cons_append, List.nil_append]
    refine g_if_neB (pc := 13) (tgt := 18) C dX7_item_13 (by decide) (fun h13 => ?_) (fun h13 => ?_)
    · obtain ⟨s, hs, rfl⟩ := pm_ix (N := 4) h4.1 h4.2 (by decide)
      have ecs : (nI s).toNatClampNeg = s := nI_clamp (by omega)
      have sT := shT s hs
      have sI := shI s hs
      refine g_aload_n (pc := 18) (i := 0) (j := 0) C dX7_item_18 rfl rfl ?_
      refine g_getR (pc := 19) C dX7_item_19 lfX7_53 (by first | rfl | assumption) rfl ?_
      refine g_iload_n (pc := 22) (i := 1) (j := 1) C dX7_item_22 rfl rfl ?_
      refine g_aald (pc := 23) C dX7_item_23 (by first | rfl | assumption) (fun _ => rfl) rfl (by decide) (by first | rfl | assumption) (rsT s hs) ?_
      refine g_astore (pc := 24) (L2 := [(0, _), (1, _), (2, _), (3, _), (4, _)]) C dX7_item_24 (by decide) rfl ?_
      refine g_aload (pc := 26) (j := 4) C dX7_item_26 rfl ?_
      refine g_getI (pc := 28) C dX7_item_28 lfX7_209 (by first | rfl | assumption) rfl ?_
      refine g_iconst (pc := 31) (v := (-1)) C dX7_item_31 (by decide) ?_
      refine g_icmp_ne (pc := 32) (tgt := 38) C dX7_item_32 (by decide) (fun h32 => ?_) (fun h32 => ?_)
      · refine g_aload (pc := 38) (j := 4) C dX7_item_38 rfl ?_
        refine g_getI (pc := 40) C dX7_item_40 lfX7_209 (by first | rfl | assumption) rfl ?_
        refine g_iload_n (pc := 43) (i := 2) (j := 2) C dX7_item_43 rfl rfl ?_
        refine g_icmp_eq (pc := 44) (tgt := 50) C dX7_item_44 (by decide) (fun h44 => ?_) (fun h44 => ?_)
        · refine g_iload_n (pc := 50) (i := 3) (j := 3) C dX7_item_50 rfl rfl ?_
          refine g_iconst (pc := 51) (v := 0) C dX7_item_51 (by decide) ?_
          refine g_aload (pc := 52) (j := 4) C dX7_item_52 rfl ?_
          refine g_getI (pc := 54) C dX7_item_54 lfX7_212 (by first | rfl | assumption) rfl ?_
          refine g_iconst (pc := 57) (v := 1) C dX7_item_57 (by decide) ?_
          refine g_isub (pc := 58) C dX7_item_58 ?_
          refine g_callS (pc := 59) C dX7_item_59 lmX7_72 kcX7_within (by decide) (c_X7_within) rfl rfl (Nat.le_of_ble_eq_true rfl) ?_
          intro r9 sh9 I9 J9 hD9; obtain ⟨rfl, rfl, rfl, rfl⟩ := pm_Dq hD9
          try simp only [Option.toList_some, Option.toList_none, List.cons_append, List.nil_append]
          refine g_if_eqB (pc := 62) (tgt := 75) C dX7_item_62 (by decide) (fun h62 => ?_) (fun h62 => ?_)
          · refine g_bipush (pc := 75) (v := (-12)) C dX7_item_75 (by decide) ?_
            refine g_iret (pc := 77) C C2 dX7_item_77 rfl (Nat.le_refl _) (Nat.le_refl _) ?_
            clear C C2
            try clear sT sI hln
            exact ⟨by first | rfl | grind, rfl, by first | rfl | grind, rfl⟩
          · obtain ⟨z, hz, rfl⟩ := pm_hasN (n := ln s) (by have := (hln s hs).2; omega) (by rw [← (hln s hs).1]; exact h62)
            have ecz : (nI z).toNatClampNeg = z := nI_clamp (by have := (hln s hs).2; omega)
            have hz40 : z < 40 := by have := (hln s hs).2; omega
            refine g_aload (pc := 65) (j := 4) C dX7_item_65 rfl ?_
            refine g_getR (pc := 67) C dX7_item_67 lfX7_215 (by first | rfl | assumption) rfl ?_
            refine g_iload_n (pc := 70) (i := 3) (j := 3) C dX7_item_70 rfl rfl ?_
            refine g_iald (pc := 71) (j := z) C dX7_item_71 (by first | rfl | assumption) (by decide) rfl hz40 ?_
            refine g_goto (pc := 72) (tgt := 77) C dX7_item_72 (by decide) ?_
            refine g_iret (pc := 77) C C2 dX7_item_77 rfl (Nat.le_refl _) (Nat.le_refl _) ?_
            clear C C2
            try clear sT sI hln
            exact ⟨by first | rfl | grind, rfl, by first | rfl | grind, rfl⟩
        · refine g_bipush (pc := 47) (v := (-13)) C dX7_item_47 (by decide) ?_
          refine g_iret (pc := 49) C C2 dX7_item_49 rfl (Nat.le_refl _) (Nat.le_refl _) ?_
          clear C C2
          try clear sT sI hln
          exact ⟨by first | rfl | grind, rfl, by first | rfl | grind, rfl⟩
      · refine g_bipush (pc := 35) (v := (-11)) C dX7_item_35 (by decide) ?_
        refine g_iret (pc := 37) C C2 dX7_item_37 rfl (Nat.le_refl _) (Nat.le_refl _) ?_
        clear C C2
        try clear sT sI hln
        exact ⟨by first | rfl | grind, rfl, by first | rfl | grind, rfl⟩
    · refine g_iconst (pc := 16) (v := (-1)) C dX7_item_16 (by decide) ?_
      refine g_iret (pc := 17) C C2 dX7_item_17 rfl (Nat.le_refl _) (Nat.le_refl _) ?_
      clear C C2
      try clear sT sI hln
      exact ⟨by first | rfl | grind, rfl, by first | rfl | grind, rfl⟩

set_option maxHeartbeats 8000000 in
set_option maxRecDepth 100000 in
theorem c_X7_taken {d : Nat} {I : pm_I} {J : pm_J} {n : Nat} (hn : I 1 2 = nI n) (h6 : n ≤ 6) {x w : Int32} (hkd : ∀ b, b < n → ∃ k, k < 6 ∧ I (5 + 2 * b) 0 = nI k) : pm_M (d + 4) 0 0 yX7_taken cX7_taken 7 (some .int) [.ref 0, .int x, .int w] SHP I J (pm_D (some (.int (if (0 ≤ x ∧ x ≤ 3) ∧ ((0 ≤ w ∧ w ≤ 5) ∨ (0 ≤ w - 10 ∧ w - 10 ≤ 3)) then (if ¬ sf_holds I x.toNatClampNeg ∧ ¬ I (98 + x.toNatClampNeg) 0 = 1 then -11 else if 0 ≤ w ∧ w ≤ 5 then (if sf_holds I x.toNatClampNeg ∧ kd_anc 6 (I (5 + 2 * (I (98 + x.toNatClampNeg) 1).toNatClampNeg) 0) w = true then I (98 + x.toNatClampNeg) 1 else -13) else (if I (98 + x.toNatClampNeg) 0 = 1 ∧ I (98 + x.toNatClampNeg) 2 = w - 10 then I (98 + x.toNatClampNeg) 3 else -13)) else -1))) SHP I J) := by
  refine pm_start (own := RX7) (nm := "taken") (by decide) rfl rfl (L := [(0, .ref 0), (1, .int x), (2, .int w)]) rfl (Nat.le_of_ble_eq_true rfl) (fun Γ C C2 => ?_)
  refine g_iload_n (pc := 0) (i := 2) (j := 2) C dX7_taken_0 rfl rfl ?_
  refine g_iconst (pc := 1) (v := 0) C dX7_taken_1 (by decide) ?_
  refine g_iconst (pc := 2) (v := 5) C dX7_taken_2 (by decide) ?_
  refine g_callS (pc := 3) C dX7_taken_3 lmX7_72 kcX7_within (by decide) (c_X7_within) rfl rfl (Nat.le_of_ble_eq_true rfl) ?_
  intro r9 sh9 I9 J9 hD9; obtain ⟨rfl, rfl, rfl, rfl⟩ := pm_Dq hD9
  try simp only [Option.toList_some, Option.toList_none, List.cons_append, List.nil_append]
  refine g_istore_n (pc := 6) (i := 3) (L2 := [(0, _), (1, _), (2, _), (3, _)]) C dX7_taken_6 rfl (by decide) rfl ?_
  refine g_iload_n (pc := 7) (i := 1) (j := 1) C dX7_taken_7 rfl rfl ?_
  refine g_callS (pc := 8) C dX7_taken_8 lmX7_227 kcX7_isShelf (by decide) (c_X7_isShelf) rfl rfl (Nat.le_of_ble_eq_true rfl) ?_
  intro r9 sh9 I9 J9 hD9; obtain ⟨rfl, rfl, rfl, rfl⟩ := pm_Dq hD9
  try simp only [Option.toList_some, Option.toList_none, List.cons_append, List.nil_append]
  refine g_if_eqB (pc := 11) (tgt := 30) C dX7_taken_11 (by decide) (fun h11 => ?_) (fun h11 => ?_)
  · refine g_iconst (pc := 30) (v := (-1)) C dX7_taken_30 (by decide) ?_
    refine g_iret (pc := 31) C C2 dX7_taken_31 rfl (Nat.le_refl _) (Nat.le_refl _) ?_
    clear C C2
    try clear sS
    try clear sB sP
    clear hkd
    have qb := fun (P : Prop) [Decidable P] => pm_b_0 (P := P)
    exact ⟨by grind [pm_b], rfl, rfl, rfl⟩
  · refine g_iload_n (pc := 14) (i := 3) (j := 3) C dX7_taken_14 rfl rfl ?_
    refine g_if_ne (pc := 15) (tgt := 32) C dX7_taken_15 (by decide) (fun h15 => ?_) (fun h15 => ?_)
    · obtain ⟨s, hs, rfl⟩ := pm_ix (N := 4) h11.1 h11.2 (by decide)
      have ecs : (nI s).toNatClampNeg = s := nI_clamp (by omega)
      have sS := shS s hs
      refine g_aload_n (pc := 32) (i := 0) (j := 0) C dX7_taken_32 rfl rfl ?_
      refine g_getR (pc := 33) C dX7_taken_33 lfX7_59 (by first | rfl | assumption) rfl ?_
      refine g_iload_n (pc := 36) (i := 1) (j := 1) C dX7_taken_36 rfl rfl ?_
      refine g_aald (pc := 37) C dX7_taken_37 (by first | rfl | assumption) (fun _ => rfl) rfl (by decide) (by first | rfl | assumption) (rsS s hs) ?_
      refine g_astore (pc := 38) (L2 := [(0, _), (1, _), (2, _), (3, _), (4, _)]) C dX7_taken_38 (by decide) rfl ?_
      refine g_aload_n (pc := 40) (i := 0) (j := 0) C dX7_taken_40 rfl rfl ?_
      refine g_aload (pc := 41) (j := 4) C dX7_taken_41 rfl ?_
      refine g_callV (pc := 43) C dX7_taken_43 lmX7_241 kcX7_holdsBalloon (by decide) (by first | rfl | assumption) (c_X7_holdsBalloon hs) rfl rfl (Nat.le_of_ble_eq_true rfl) ?_
      intro r9 sh9 I9 J9 hD9; obtain ⟨rfl, rfl, rfl, rfl⟩ := pm_Dq hD9
      try simp only [Option.toList_some, Option.toList_none, List.cons_append, List.nil_append]
      refine g_istore (pc := 46) (L2 := [(0, _), (1, _), (2, _), (3, _), (4, _), (5, _)]) C dX7_taken_46 (by decide) rfl ?_
      refine g_iload (pc := 48) (j := 5) C dX7_taken_48 rfl ?_
      refine g_if_ne (pc := 50) (tgt := 65) C dX7_taken_50 (by decide) (fun h50 => ?_) (fun h50 => ?_)
      · refine g_iload_n (pc := 65) (i := 3) (j := 3) C dX7_taken_65 rfl rfl ?_
        refine g_if_eq (pc := 66) (tgt := 122) C dX7_taken_66 (by decide) (fun h66 => ?_) (fun h66 => ?_)
        · refine g_aload (pc := 122) (j := 4) C dX7_taken_122 rfl ?_
          refine g_getI (pc := 124) C dX7_taken_124 lfX7_238 (by first | rfl | assumption) rfl ?_
          refine g_iconst (pc := 127) (v := 1) C dX7_taken_127 (by decide) ?_
          refine g_icmp_ne (pc := 128) (tgt := 147) C dX7_taken_128 (by decide) (fun h128 => ?_) (fun h128 => ?_)
          · refine g_iconst (pc := 147) (v := 0) C dX7_taken_147 (by decide) ?_
            refine g_istore (pc := 148) (L2 := [(0, _), (1, _), (2, _), (3, _), (4, _), (5, _), (6, _)]) C dX7_taken_148 (by decide) rfl ?_
            refine g_iload (pc := 150) (j := 6) C dX7_taken_150 rfl ?_
            refine g_if_eq (pc := 152) (tgt := 163) C dX7_taken_152 (by decide) (fun h152 => ?_) (fun h152 => ?_)
            · refine g_bipush (pc := 163) (v := (-13)) C dX7_taken_163 (by decide) ?_
              refine g_iret (pc := 165) C C2 dX7_taken_165 rfl (Nat.le_refl _) (Nat.le_refl _) ?_
              clear C C2
              try clear sS
              try clear sB sP
              clear hkd
              have qb := fun (P : Prop) [Decidable P] => pm_b_0 (P := P)
              exact ⟨by grind [pm_b], rfl, rfl, rfl⟩
            · refine g_aload (pc := 155) (j := 4) C dX7_taken_155 rfl ?_
              refine g_getI (pc := 157) C dX7_taken_157 lfX7_252 (by first | rfl | assumption) rfl ?_
              refine g_goto (pc := 160) (tgt := 165) C dX7_taken_160 (by decide) ?_
              refine g_iret (pc := 165) C C2 dX7_taken_165 rfl (Nat.le_refl _) (Nat.le_refl _) ?_
              clear C C2
              try clear sS
              try clear sB sP
              clear hkd
              have qb := fun (P : Prop) [Decidable P] => pm_b_0 (P := P)
              exact ⟨by grind [pm_b], rfl, rfl, rfl⟩
          · refine g_aload (pc := 131) (j := 4) C dX7_taken_131 rfl ?_
            refine g_getI (pc := 133) C dX7_taken_133 lfX7_251 (by first | rfl | assumption) rfl ?_
            refine g_iload_n (pc := 136) (i := 2) (j := 2) C dX7_taken_136 rfl rfl ?_
            refine g_bipush (pc := 137) (v := 10) C dX7_taken_137 (by decide) ?_
            refine g_isub (pc := 139) C dX7_taken_139 ?_
            refine g_icmp_ne (pc := 140) (tgt := 147) C dX7_taken_140 (by decide) (fun h140 => ?_) (fun h140 => ?_)
            · refine g_iconst (pc := 147) (v := 0) C dX7_taken_147 (by decide) ?_
              refine g_istore (pc := 148) (L2 := [(0, _), (1, _), (2, _), (3, _), (4, _), (5, _), (6, _)]) C dX7_taken_148 (by decide) rfl ?_
              refine g_iload (pc := 150) (j := 6) C dX7_taken_150 rfl ?_
              refine g_if_eq (pc := 152) (tgt := 163) C dX7_taken_152 (by decide) (fun h152 => ?_) (fun h152 => ?_)
              · refine g_bipush (pc := 163) (v := (-13)) C dX7_taken_163 (by decide) ?_
                refine g_iret (pc := 165) C C2 dX7_taken_165 rfl (Nat.le_refl _) (Nat.le_refl _) ?_
                clear C C2
                try clear sS
                try clear sB sP
                clear hkd
                have qb := fun (P : Prop) [Decidable P] => pm_b_0 (P := P)
                exact ⟨by grind [pm_b], rfl, rfl, rfl⟩
              · refine g_aload (pc := 155) (j := 4) C dX7_taken_155 rfl ?_
                refine g_getI (pc := 157) C dX7_taken_157 lfX7_252 (by first | rfl | assumption) rfl ?_
                refine g_goto (pc := 160) (tgt := 165) C dX7_taken_160 (by decide) ?_
                refine g_iret (pc := 165) C C2 dX7_taken_165 rfl (Nat.le_refl _) (Nat.le_refl _) ?_
                clear C C2
                try clear sS
                try clear sB sP
                clear hkd
                have qb := fun (P : Prop) [Decidable P] => pm_b_0 (P := P)
                exact ⟨by grind [pm_b], rfl, rfl, rfl⟩
            · refine g_iconst (pc := 143) (v := 1) C dX7_taken_143 (by decide) ?_
              refine g_goto (pc := 144) (tgt := 148) C dX7_taken_144 (by decide) ?_
              refine g_istore (pc := 148) (L2 := [(0, _), (1, _), (2, _), (3, _), (4, _), (5, _), (6, _)]) C dX7_taken_148 (by decide) rfl ?_
              refine g_iload (pc := 150) (j := 6) C dX7_taken_150 rfl ?_
              refine g_if_eq (pc := 152) (tgt := 163) C dX7_taken_152 (by decide) (fun h152 => ?_) (fun h152 => ?_)
              · refine g_bipush (pc := 163) (v := (-13)) C dX7_taken_163 (by decide) ?_
                refine g_iret (pc := 165) C C2 dX7_taken_165 rfl (Nat.le_refl _) (Nat.le_refl _) ?_
                clear C C2
                try clear sS
                try clear sB sP
                clear hkd
                have qb := fun (P : Prop) [Decidable P] => pm_b_0 (P := P)
                exact ⟨by grind [pm_b], rfl, rfl, rfl⟩
              · refine g_aload (pc := 155) (j := 4) C dX7_taken_155 rfl ?_
                refine g_getI (pc := 157) C dX7_taken_157 lfX7_252 (by first | rfl | assumption) rfl ?_
                refine g_goto (pc := 160) (tgt := 165) C dX7_taken_160 (by decide) ?_
                refine g_iret (pc := 165) C C2 dX7_taken_165 rfl (Nat.le_refl _) (Nat.le_refl _) ?_
                clear C C2
                try clear sS
                try clear sB sP
                clear hkd
                have qb := fun (P : Prop) [Decidable P] => pm_b_0 (P := P)
                exact ⟨by grind [pm_b], rfl, rfl, rfl⟩
        · refine g_iload (pc := 69) (j := 5) C dX7_taken_69 rfl ?_
          refine g_if_eq (pc := 71) (tgt := 103) C dX7_taken_71 (by decide) (fun h71 => ?_) (fun h71 => ?_)
          · refine g_iconst (pc := 103) (v := 0) C dX7_taken_103 (by decide) ?_
            refine g_istore (pc := 104) (L2 := [(0, _), (1, _), (2, _), (3, _), (4, _), (5, _), (6, _)]) C dX7_taken_104 (by decide) rfl ?_
            refine g_iload (pc := 106) (j := 6) C dX7_taken_106 rfl ?_
            refine g_if_eq (pc := 108) (tgt := 119) C dX7_taken_108 (by decide) (fun h108 => ?_) (fun h108 => ?_)
            · refine g_bipush (pc := 119) (v := (-13)) C dX7_taken_119 (by decide) ?_
              refine g_iret (pc := 121) C C2 dX7_taken_121 rfl (Nat.le_refl _) (Nat.le_refl _) ?_
              clear C C2
              try clear sS
              try clear sB sP
              clear hkd
              have qb := fun (P : Prop) [Decidable P] => pm_b_0 (P := P)
              exact ⟨by grind [pm_b], rfl, rfl, rfl⟩
            · refine g_aload (pc := 111) (j := 4) C dX7_taken_111 rfl ?_
              refine g_getI (pc := 113) C dX7_taken_113 lfX7_245 (by first | rfl | assumption) rfl ?_
              refine g_goto (pc := 116) (tgt := 121) C dX7_taken_116 (by decide) ?_
              refine g_iret (pc := 121) C C2 dX7_taken_121 rfl (Nat.le_refl _) (Nat.le_refl _) ?_
              clear C C2
              try clear sS
              try clear sB sP
              clear hkd
              have qb := fun (P : Prop) [Decidable P] => pm_b_0 (P := P)
              exact ⟨by grind [pm_b], rfl, rfl, rfl⟩
          · have hhB : sf_holds I s := pm_b_ne.mp h71
            obtain ⟨b, hb, eb⟩ := pm_has hn h6 hhB.2
            have ecb : (I (98 + s) 1).toNatClampNeg = b := by rw [eb]; exact nI_clamp (by omega)
            have sB := shB b (by omega)
            have sP := shP b (by omega)
            obtain ⟨k, hk, ek⟩ := hkd b hb
            refine g_aload_n (pc := 74) (i := 0) (j := 0) C dX7_taken_74 rfl rfl ?_
            refine g_getR (pc := 75) C dX7_taken_75 lfX7_10 (by first | rfl | assumption) rfl ?_
            refine g_getR (pc := 78) C dX7_taken_78 lfX7_118 (by first | rfl | assumption) rfl ?_
            refine g_aload (pc := 81) (j := 4) C dX7_taken_81 rfl ?_
            refine g_getI (pc := 83) C dX7_taken_83 lfX7_245 (by first | rfl | assumption) rfl ?_
            refine g_aald (pc := 86) C dX7_taken_86 (by first | rfl | assumption) (fun _ => rfl) rfl (by decide) eb (rsB b (by omega)) ?_
            refine g_getR (pc := 87) C dX7_taken_87 lfX7_138 (by first | rfl | assumption) rfl ?_
            refine g_iconst (pc := 90) (v := 0) C dX7_taken_90 (by decide) ?_
            refine g_iald (pc := 91) C dX7_taken_91 (by first | rfl | assumption) (by decide) (by first | rfl | assumption) (by first | assumption | decide | omega) ?_
            rw [ek]
            refine g_iload_n (pc := 92) (i := 2) (j := 2) C dX7_taken_92 rfl rfl ?_
            refine g_callS (pc := 93) C dX7_taken_93 lmX7_248 kcX7_isUnder (by decide) (c_X7_isUnder hk) rfl rfl (Nat.le_of_ble_eq_true rfl) ?_
            intro r9 sh9 I9 J9 hD9; obtain ⟨rfl, rfl, rfl, rfl⟩ := pm_Dq hD9
            try simp only [Option.toList_some, Option.toList_none, List.cons_append, List.nil_append]
            refine g_if_eqB (pc := 96) (tgt := 103) C dX7_taken_96 (by decide) (fun h96 => ?_) (fun h96 => ?_)
            · refine g_iconst (pc := 103) (v := 0) C dX7_taken_103 (by decide) ?_
              refine g_istore (pc := 104) (L2 := [(0, _), (1, _), (2, _), (3, _), (4, _), (5, _), (6, _)]) C dX7_taken_104 (by decide) rfl ?_
              refine g_iload (pc := 106) (j := 6) C dX7_taken_106 rfl ?_
              refine g_if_eq (pc := 108) (tgt := 119) C dX7_taken_108 (by decide) (fun h108 => ?_) (fun h108 => ?_)
              · refine g_bipush (pc := 119) (v := (-13)) C dX7_taken_119 (by decide) ?_
                refine g_iret (pc := 121) C C2 dX7_taken_121 rfl (Nat.le_refl _) (Nat.le_refl _) ?_
                clear C C2
                try clear sS
                try clear sB sP
                clear hkd
                have qb := fun (P : Prop) [Decidable P] => pm_b_0 (P := P)
                exact ⟨by grind [pm_b], rfl, rfl, rfl⟩
              · refine g_aload (pc := 111) (j := 4) C dX7_taken_111 rfl ?_
                refine g_getI (pc := 113) C dX7_taken_113 lfX7_245 (by first | rfl | assumption) rfl ?_
                refine g_goto (pc := 116) (tgt := 121) C dX7_taken_116 (by decide) ?_
                refine g_iret (pc := 121) C C2 dX7_taken_121 rfl (Nat.le_refl _) (Nat.le_refl _) ?_
                clear C C2
                try clear sS
                try clear sB sP
                clear hkd
                have qb := fun (P : Prop) [Decidable P] => pm_b_0 (P := P)
                exact ⟨by grind [pm_b], rfl, rfl, rfl⟩
            · refine g_iconst (pc := 99) (v := 1) C dX7_taken_99 (by decide) ?_
              refine g_goto (pc := 100) (tgt := 104) C dX7_taken_100 (by decide) ?_
              refine g_istore (pc := 104) (L2 := [(0, _), (1, _), (2, _), (3, _), (4, _), (5, _), (6, _)]) C dX7_taken_104 (by decide) rfl ?_
              refine g_iload (pc := 106) (j := 6) C dX7_taken_106 rfl ?_
              refine g_if_eq (pc := 108) (tgt := 119) C dX7_taken_108 (by decide) (fun h108 => ?_) (fun h108 => ?_)
              · refine g_bipush (pc := 119) (v := (-13)) C dX7_taken_119 (by decide) ?_
                refine g_iret (pc := 121) C C2 dX7_taken_121 rfl (Nat.le_refl _) (Nat.le_refl _) ?_
                clear C C2
                try clear sS
                try clear sB sP
                clear hkd
                have qb := fun (P : Prop) [Decidable P] => pm_b_0 (P := P)
                exact ⟨by grind [pm_b], rfl, rfl, rfl⟩
              · refine g_aload (pc := 111) (j := 4) C dX7_taken_111 rfl ?_
                refine g_getI (pc := 113) C dX7_taken_113 lfX7_245 (by first | rfl | assumption) rfl ?_
                refine g_goto (pc := 116) (tgt := 121) C dX7_taken_116 (by decide) ?_
                refine g_iret (pc := 121) C C2 dX7_taken_121 rfl (Nat.le_refl _) (Nat.le_refl _) ?_
                clear C C2
                try clear sS
                try clear sB sP
                clear hkd
                have qb := fun (P : Prop) [Decidable P] => pm_b_0 (P := P)
                exact ⟨by grind [pm_b], rfl, rfl, rfl⟩
      · refine g_aload (pc := 53) (j := 4) C dX7_taken_53 rfl ?_
        refine g_getI (pc := 55) C dX7_taken_55 lfX7_238 (by first | rfl | assumption) rfl ?_
        refine g_iconst (pc := 58) (v := 1) C dX7_taken_58 (by decide) ?_
        refine g_icmp_eq (pc := 59) (tgt := 65) C dX7_taken_59 (by decide) (fun h59 => ?_) (fun h59 => ?_)
        · refine g_iload_n (pc := 65) (i := 3) (j := 3) C dX7_taken_65 rfl rfl ?_
          refine g_if_eq (pc := 66) (tgt := 122) C dX7_taken_66 (by decide) (fun h66 => ?_) (fun h66 => ?_)
          · refine g_aload (pc := 122) (j := 4) C dX7_taken_122 rfl ?_
            refine g_getI (pc := 124) C dX7_taken_124 lfX7_238 (by first | rfl | assumption) rfl ?_
            refine g_iconst (pc := 127) (v := 1) C dX7_taken_127 (by decide) ?_
            refine g_icmp_ne (pc := 128) (tgt := 147) C dX7_taken_128 (by decide) (fun h128 => ?_) (fun h128 => ?_)
            · refine g_iconst (pc := 147) (v := 0) C dX7_taken_147 (by decide) ?_
              refine g_istore (pc := 148) (L2 := [(0, _), (1, _), (2, _), (3, _), (4, _), (5, _), (6, _)]) C dX7_taken_148 (by decide) rfl ?_
              refine g_iload (pc := 150) (j := 6) C dX7_taken_150 rfl ?_
              refine g_if_eq (pc := 152) (tgt := 163) C dX7_taken_152 (by decide) (fun h152 => ?_) (fun h152 => ?_)
              · refine g_bipush (pc := 163) (v := (-13)) C dX7_taken_163 (by decide) ?_
                refine g_iret (pc := 165) C C2 dX7_taken_165 rfl (Nat.le_refl _) (Nat.le_refl _) ?_
                clear C C2
                try clear sS
                try clear sB sP
                clear hkd
                have qb := fun (P : Prop) [Decidable P] => pm_b_0 (P := P)
                exact ⟨by grind [pm_b], rfl, rfl, rfl⟩
              · refine g_aload (pc := 155) (j := 4) C dX7_taken_155 rfl ?_
                refine g_getI (pc := 157) C dX7_taken_157 lfX7_252 (by first | rfl | assumption) rfl ?_
                refine g_goto (pc := 160) (tgt := 165) C dX7_taken_160 (by decide) ?_
                refine g_iret (pc := 165) C C2 dX7_taken_165 rfl (Nat.le_refl _) (Nat.le_refl _) ?_
                clear C C2
                try clear sS
                try clear sB sP
                clear hkd
                have qb := fun (P : Prop) [Decidable P] => pm_b_0 (P := P)
                exact ⟨by grind [pm_b], rfl, rfl, rfl⟩
            · refine g_aload (pc := 131) (j := 4) C dX7_taken_131 rfl ?_
              refine g_getI (pc := 133) C dX7_taken_133 lfX7_251 (by first | rfl | assumption) rfl ?_
              refine g_iload_n (pc := 136) (i := 2) (j := 2) C dX7_taken_136 rfl rfl ?_
              refine g_bipush (pc := 137) (v := 10) C dX7_taken_137 (by decide) ?_
              refine g_isub (pc := 139) C dX7_taken_139 ?_
              refine g_icmp_ne (pc := 140) (tgt := 147) C dX7_taken_140 (by decide) (fun h140 => ?_) (fun h140 => ?_)
              · refine g_iconst (pc := 147) (v := 0) C dX7_taken_147 (by decide) ?_
                refine g_istore (pc := 148) (L2 := [(0, _), (1, _), (2, _), (3, _), (4, _), (5, _), (6, _)]) C dX7_taken_148 (by decide) rfl ?_
                refine g_iload (pc := 150) (j := 6) C dX7_taken_150 rfl ?_
                refine g_if_eq (pc := 152) (tgt := 163) C dX7_taken_152 (by decide) (fun h152 => ?_) (fun h152 => ?_)
                · refine g_bipush (pc := 163) (v := (-13)) C dX7_taken_163 (by decide) ?_
                  refine g_iret (pc := 165) C C2 dX7_taken_165 rfl (Nat.le_refl _) (Nat.le_refl _) ?_
                  clear C C2
                  try clear sS
                  try clear sB sP
                  clear hkd
                  have qb := fun (P : Prop) [Decidable P] => pm_b_0 (P := P)
                  exact ⟨by grind [pm_b], rfl, rfl, rfl⟩
                · refine g_aload (pc := 155) (j := 4) C dX7_taken_155 rfl ?_
                  refine g_getI (pc := 157) C dX7_taken_157 lfX7_252 (by first | rfl | assumption) rfl ?_
                  refine g_goto (pc := 160) (tgt := 165) C dX7_taken_160 (by decide) ?_
                  refine g_iret (pc := 165) C C2 dX7_taken_165 rfl (Nat.le_refl _) (Nat.le_refl _) ?_
                  clear C C2
                  try clear sS
                  try clear sB sP
                  clear hkd
                  have qb := fun (P : Prop) [Decidable P] => pm_b_0 (P := P)
                  exact ⟨by grind [pm_b], rfl, rfl, rfl⟩
              · refine g_iconst (pc := 143) (v := 1) C dX7_taken_143 (by decide) ?_
                refine g_goto (pc := 144) (tgt := 148) C dX7_taken_144 (by decide) ?_
                refine g_istore (pc := 148) (L2 := [(0, _), (1, _), (2, _), (3, _), (4, _), (5, _), (6, _)]) C dX7_taken_148 (by decide) rfl ?_
                refine g_iload (pc := 150) (j := 6) C dX7_taken_150 rfl ?_
                refine g_if_eq (pc := 152) (tgt := 163) C dX7_taken_152 (by decide) (fun h152 => ?_) (fun h152 => ?_)
                · refine g_bipush (pc := 163) (v := (-13)) C dX7_taken_163 (by decide) ?_
                  refine g_iret (pc := 165) C C2 dX7_taken_165 rfl (Nat.le_refl _) (Nat.le_refl _) ?_
                  clear C C2
                  try clear sS
                  try clear sB sP
                  clear hkd
                  have qb := fun (P : Prop) [Decidable P] => pm_b_0 (P := P)
                  exact ⟨by grind [pm_b], rfl, rfl, rfl⟩
                · refine g_aload (pc := 155) (j := 4) C dX7_taken_155 rfl ?_
                  refine g_getI (pc := 157) C dX7_taken_157 lfX7_252 (by first | rfl | assumption) rfl ?_
                  refine g_goto (pc := 160) (tgt := 165) C dX7_taken_160 (by decide) ?_
                  refine g_iret (pc := 165) C C2 dX7_taken_165 rfl (Nat.le_refl _) (Nat.le_refl _) ?_
                  clear C C2
                  try clear sS
                  try clear sB sP
                  clear hkd
                  have qb := fun (P : Prop) [Decidable P] => pm_b_0 (P := P)
                  exact ⟨by grind [pm_b], rfl, rfl, rfl⟩
          · refine g_iload (pc := 69) (j := 5) C dX7_taken_69 rfl ?_
            refine g_if_eq (pc := 71) (tgt := 103) C dX7_taken_71 (by decide) (fun h71 => ?_) (fun h71 => ?_)
            · refine g_iconst (pc := 103) (v := 0) C dX7_taken_103 (by decide) ?_
              refine g_istore (pc := 104) (L2 := [(0, _), (1, _), (2, _), (3, _), (4, _), (5, _), (6, _)]) C dX7_taken_104 (by decide) rfl ?_
              refine g_iload (pc := 106) (j := 6) C dX7_taken_106 rfl ?_
              refine g_if_eq (pc := 108) (tgt := 119) C dX7_taken_108 (by decide) (fun h108 => ?_) (fun h108 => ?_)
              · refine g_bipush (pc := 119) (v := (-13)) C dX7_taken_119 (by decide) ?_
                refine g_iret (pc := 121) C C2 dX7_taken_121 rfl (Nat.le_refl _) (Nat.le_refl _) ?_
                clear C C2
                try clear sS
                try clear sB sP
                clear hkd
                have qb := fun (P : Prop) [Decidable P] => pm_b_0 (P := P)
                exact ⟨by grind [pm_b], rfl, rfl, rfl⟩
              · refine g_aload (pc := 111) (j := 4) C dX7_taken_111 rfl ?_
                refine g_getI (pc := 113) C dX7_taken_113 lfX7_245 (by first | rfl | assumption) rfl ?_
                refine g_goto (pc := 116) (tgt := 121) C dX7_taken_116 (by decide) ?_
                refine g_iret (pc := 121) C C2 dX7_taken_121 rfl (Nat.le_refl _) (Nat.le_refl _) ?_
                clear C C2
                try clear sS
                try clear sB sP
                clear hkd
                have qb := fun (P : Prop) [Decidable P] => pm_b_0 (P := P)
                exact ⟨by grind [pm_b], rfl, rfl, rfl⟩
            · have hhB : sf_holds I s := pm_b_ne.mp h71
              obtain ⟨b, hb, eb⟩ := pm_has hn h6 hhB.2
              have ecb : (I (98 + s) 1).toNatClampNeg = b := by rw [eb]; exact nI_clamp (by omega)
              have sB := shB b (by omega)
              have sP := shP b (by omega)
              obtain ⟨k, hk, ek⟩ := hkd b hb
              refine g_aload_n (pc := 74) (i := 0) (j := 0) C dX7_taken_74 rfl rfl ?_
              refine g_getR (pc := 75) C dX7_taken_75 lfX7_10 (by first | rfl | assumption) rfl ?_
              refine g_getR (pc := 78) C dX7_taken_78 lfX7_118 (by first | rfl | assumption) rfl ?_
              refine g_aload (pc := 81) (j := 4) C dX7_taken_81 rfl ?_
              refine g_getI (pc := 83) C dX7_taken_83 lfX7_245 (by first | rfl | assumption) rfl ?_
              refine g_aald (pc := 86) C dX7_taken_86 (by first | rfl | assumption) (fun _ => rfl) rfl (by decide) eb (rsB b (by omega)) ?_
              refine g_getR (pc := 87) C dX7_taken_87 lfX7_138 (by first | rfl | assumption) rfl ?_
              refine g_iconst (pc := 90) (v := 0) C dX7_taken_90 (by decide) ?_
              refine g_iald (pc := 91) C dX7_taken_91 (by first | rfl | assumption) (by decide) (by first | rfl | assumption) (by first | assumption | decide | omega) ?_
              rw [ek]
              refine g_iload_n (pc := 92) (i := 2) (j := 2) C dX7_taken_92 rfl rfl ?_
              refine g_callS (pc := 93) C dX7_taken_93 lmX7_248 kcX7_isUnder (by decide) (c_X7_isUnder hk) rfl rfl (Nat.le_of_ble_eq_true rfl) ?_
              intro r9 sh9 I9 J9 hD9; obtain ⟨rfl, rfl, rfl, rfl⟩ := pm_Dq hD9
              try simp only [Option.toList_some, Option.toList_none, List.cons_append, List.nil_append]
              refine g_if_eqB (pc := 96) (tgt := 103) C dX7_taken_96 (by decide) (fun h96 => ?_) (fun h96 => ?_)
              · refine g_iconst (pc := 103) (v := 0) C dX7_taken_103 (by decide) ?_
                refine g_istore (pc := 104) (L2 := [(0, _), (1, _), (2, _), (3, _), (4, _), (5, _), (6, _)]) C dX7_taken_104 (by decide) rfl ?_
                refine g_iload (pc := 106) (j := 6) C dX7_taken_106 rfl ?_
                refine g_if_eq (pc := 108) (tgt := 119) C dX7_taken_108 (by decide) (fun h108 => ?_) (fun h108 => ?_)
                · refine g_bipush (pc := 119) (v := (-13)) C dX7_taken_119 (by decide) ?_
                  refine g_iret (pc := 121) C C2 dX7_taken_121 rfl (Nat.le_refl _) (Nat.le_refl _) ?_
                  clear C C2
                  try clear sS
                  try clear sB sP
                  clear hkd
                  have qb := fun (P : Prop) [Decidable P] => pm_b_0 (P := P)
                  exact ⟨by grind [pm_b], rfl, rfl, rfl⟩
                · refine g_aload (pc := 111) (j := 4) C dX7_taken_111 rfl ?_
                  refine g_getI (pc := 113) C dX7_taken_113 lfX7_245 (by first | rfl | assumption) rfl ?_
                  refine g_goto (pc := 116) (tgt := 121) C dX7_taken_116 (by decide) ?_
                  refine g_iret (pc := 121) C C2 dX7_taken_121 rfl (Nat.le_refl _) (Nat.le_refl _) ?_
                  clear C C2
                  try clear sS
                  try clear sB sP
                  clear hkd
                  have qb := fun (P : Prop) [Decidable P] => pm_b_0 (P := P)
                  exact ⟨by grind [pm_b], rfl, rfl, rfl⟩
              · refine g_iconst (pc := 99) (v := 1) C dX7_taken_99 (by decide) ?_
                refine g_goto (pc := 100) (tgt := 104) C dX7_taken_100 (by decide) ?_
                refine g_istore (pc := 104) (L2 := [(0, _), (1, _), (2, _), (3, _), (4, _), (5, _), (6, _)]) C dX7_taken_104 (by decide) rfl ?_
                refine g_iload (pc := 106) (j := 6) C dX7_taken_106 rfl ?_
                refine g_if_eq (pc := 108) (tgt := 119) C dX7_taken_108 (by decide) (fun h108 => ?_) (fun h108 => ?_)
                · refine g_bipush (pc := 119) (v := (-13)) C dX7_taken_119 (by decide) ?_
                  refine g_iret (pc := 121) C C2 dX7_taken_121 rfl (Nat.le_refl _) (Nat.le_refl _) ?_
                  clear C C2
                  try clear sS
                  try clear sB sP
                  clear hkd
                  have qb := fun (P : Prop) [Decidable P] => pm_b_0 (P := P)
                  exact ⟨by grind [pm_b], rfl, rfl, rfl⟩
                · refine g_aload (pc := 111) (j := 4) C dX7_taken_111 rfl ?_
                  refine g_getI (pc := 113) C dX7_taken_113 lfX7_245 (by first | rfl | assumption) rfl ?_
                  refine g_goto (pc := 116) (tgt := 121) C dX7_taken_116 (by decide) ?_
                  refine g_iret (pc := 121) C C2 dX7_taken_121 rfl (Nat.le_refl _) (Nat.le_refl _) ?_
                  clear C C2
                  try clear sS
                  try clear sB sP
                  clear hkd
                  have qb := fun (P : Prop) [Decidable P] => pm_b_0 (P := P)
                  exact ⟨by grind [pm_b], rfl, rfl, rfl⟩
        · refine g_bipush (pc := 62) (v := (-11)) C dX7_taken_62 (by decide) ?_
          refine g_iret (pc := 64) C C2 dX7_taken_64 rfl (Nat.le_refl _) (Nat.le_refl _) ?_
          clear C C2
          try clear sS
          try clear sB sP
          clear hkd
          have qb := fun (P : Prop) [Decidable P] => pm_b_0 (P := P)
          exact ⟨by grind [pm_b], rfl, rfl, rfl⟩
    · refine g_iload_n (pc := 18) (i := 2) (j := 2) C dX7_taken_18 rfl rfl ?_
      refine g_bipush (pc := 19) (v := 10) C dX7_taken_19 (by decide) ?_
      refine g_isub (pc := 21) C dX7_taken_21 ?_
      refine g_iconst (pc := 22) (v := 0) C dX7_taken_22 (by decide) ?_
      refine g_iconst (pc := 23) (v := 3) C dX7_taken_23 (by decide) ?_
      refine g_callS (pc := 24) C dX7_taken_24 lmX7_72 kcX7_within (by decide) (c_X7_within) rfl rfl (Nat.le_of_ble_eq_true rfl) ?_
      intro r9 sh9 I9 J9 hD9; obtain ⟨rfl, rfl, rfl, rfl⟩ := pm_Dq hD9
      try simp only [Option.toList_some, Option.toList_none, List.cons_append, List.nil_append]
      refine g_if_neB (pc := 27) (tgt := 32) C dX7_taken_27 (by decide) (fun h27 => ?_) (fun h27 => ?_)
      · obtain ⟨s, hs, rfl⟩ := pm_ix (N := 4) h11.1 h11.2 (by decide)
        have ecs : (nI s).toNatClampNeg = s := nI_clamp (by omega)
        have sS := shS s hs
        refine g_aload_n (pc := 32) (i := 0) (j := 0) C dX7_taken_32 rfl rfl ?_
        refine g_getR (pc := 33) C dX7_taken_33 lfX7_59 (by first | rfl | assumption) rfl ?_
        refine g_iload_n (pc := 36) (i := 1) (j := 1) C dX7_taken_36 rfl rfl ?_
        refine g_aald (pc := 37) C dX7_taken_37 (by first | rfl | assumption) (fun _ => rfl) rfl (by decide) (by first | rfl | assumption) (rsS s hs) ?_
        refine g_astore (pc := 38) (L2 := [(0, _), (1, _), (2, _), (3, _), (4, _)]) C dX7_taken_38 (by decide) rfl ?_
        refine g_aload_n (pc := 40) (i := 0) (j := 0) C dX7_taken_40 rfl rfl ?_
        refine g_aload (pc := 41) (j := 4) C dX7_taken_41 rfl ?_
        refine g_callV (pc := 43) C dX7_taken_43 lmX7_241 kcX7_holdsBalloon (by decide) (by first | rfl | assumption) (c_X7_holdsBalloon hs) rfl rfl (Nat.le_of_ble_eq_true rfl) ?_
        intro r9 sh9 I9 J9 hD9; obtain ⟨rfl, rfl, rfl, rfl⟩ := pm_Dq hD9
        try simp only [Option.toList_some, Option.toList_none, List.cons_append, List.nil_append]
        refine g_istore (pc := 46) (L2 := [(0, _), (1, _), (2, _), (3, _), (4, _), (5, _)]) C dX7_taken_46 (by decide) rfl ?_
        refine g_iload (pc := 48) (j := 5) C dX7_taken_48 rfl ?_
        refine g_if_ne (pc := 50) (tgt := 65) C dX7_taken_50 (by decide) (fun h50 => ?_) (fun h50 => ?_)
        · refine g_iload_n (pc := 65) (i := 3) (j := 3) C dX7_taken_65 rfl rfl ?_
          refine g_if_eq (pc := 66) (tgt := 122) C dX7_taken_66 (by decide) (fun h66 => ?_) (fun h66 => ?_)
          · refine g_aload (pc := 122) (j := 4) C dX7_taken_122 rfl ?_
            refine g_getI (pc := 124) C dX7_taken_124 lfX7_238 (by first | rfl | assumption) rfl ?_
            refine g_iconst (pc := 127) (v := 1) C dX7_taken_127 (by decide) ?_
            refine g_icmp_ne (pc := 128) (tgt := 147) C dX7_taken_128 (by decide) (fun h128 => ?_) (fun h128 => ?_)
            · refine g_iconst (pc := 147) (v := 0) C dX7_taken_147 (by decide) ?_
              refine g_istore (pc := 148) (L2 := [(0, _), (1, _), (2, _), (3, _), (4, _), (5, _), (6, _)]) C dX7_taken_148 (by decide) rfl ?_
              refine g_iload (pc := 150) (j := 6) C dX7_taken_150 rfl ?_
              refine g_if_eq (pc := 152) (tgt := 163) C dX7_taken_152 (by decide) (fun h152 => ?_) (fun h152 => ?_)
              · refine g_bipush (pc := 163) (v := (-13)) C dX7_taken_163 (by decide) ?_
                refine g_iret (pc := 165) C C2 dX7_taken_165 rfl (Nat.le_refl _) (Nat.le_refl _) ?_
                clear C C2
                try clear sS
                try clear sB sP
                clear hkd
                have qb := fun (P : Prop) [Decidable P] => pm_b_0 (P := P)
                exact ⟨by grind [pm_b], rfl, rfl, rfl⟩
              · refine g_aload (pc := 155) (j := 4) C dX7_taken_155 rfl ?_
                refine g_getI (pc := 157) C dX7_taken_157 lfX7_252 (by first | rfl | assumption) rfl ?_
                refine g_goto (pc := 160) (tgt := 165) C dX7_taken_160 (by decide) ?_
                refine g_iret (pc := 165) C C2 dX7_taken_165 rfl (Nat.le_refl _) (Nat.le_refl _) ?_
                clear C C2
                try clear sS
                try clear sB sP
                clear hkd
                have qb := fun (P : Prop) [Decidable P] => pm_b_0 (P := P)
                exact ⟨by grind [pm_b], rfl, rfl, rfl⟩
            · refine g_aload (pc := 131) (j := 4) C dX7_taken_131 rfl ?_
              refine g_getI (pc := 133) C dX7_taken_133 lfX7_251 (by first | rfl | assumption) rfl ?_
              refine g_iload_n (pc := 136) (i := 2) (j := 2) C dX7_taken_136 rfl rfl ?_
              refine g_bipush (pc := 137) (v := 10) C dX7_taken_137 (by decide) ?_
              refine g_isub (pc := 139) C dX7_taken_139 ?_
              refine g_icmp_ne (pc := 140) (tgt := 147) C dX7_taken_140 (by decide) (fun h140 => ?_) (fun h140 => ?_)
              · refine g_iconst (pc := 147) (v := 0) C dX7_taken_147 (by decide) ?_
                refine g_istore (pc := 148) (L2 := [(0, _), (1, _), (2, _), (3, _), (4, _), (5, _), (6, _)]) C dX7_taken_148 (by decide) rfl ?_
                refine g_iload (pc := 150) (j := 6) C dX7_taken_150 rfl ?_
                refine g_if_eq (pc := 152) (tgt := 163) C dX7_taken_152 (by decide) (fun h152 => ?_) (fun h152 => ?_)
                · refine g_bipush (pc := 163) (v := (-13)) C dX7_taken_163 (by decide) ?_
                  refine g_iret (pc := 165) C C2 dX7_taken_165 rfl (Nat.le_refl _) (Nat.le_refl _) ?_
                  clear C C2
                  try clear sS
                  try clear sB sP
                  clear hkd
                  have qb := fun (P : Prop) [Decidable P] => pm_b_0 (P := P)
                  exact ⟨by grind [pm_b], rfl, rfl, rfl⟩
                · refine g_aload (pc := 155) (j := 4) C dX7_taken_155 rfl ?_
                  refine g_getI (pc := 157) C dX7_taken_157 lfX7_252 (by first | rfl | assumption) rfl ?_
                  refine g_goto (pc := 160) (tgt := 165) C dX7_taken_160 (by decide) ?_
                  refine g_iret (pc := 165) C C2 dX7_taken_165 rfl (Nat.le_refl _) (Nat.le_refl _) ?_
                  clear C C2
                  try clear sS
                  try clear sB sP
                  clear hkd
                  have qb := fun (P : Prop) [Decidable P] => pm_b_0 (P := P)
                  exact ⟨by grind [pm_b], rfl, rfl, rfl⟩
              · refine g_iconst (pc := 143) (v := 1) C dX7_taken_143 (by decide) ?_
                refine g_goto (pc := 144) (tgt := 148) C dX7_taken_144 (by decide) ?_
                refine g_istore (pc := 148) (L2 := [(0, _), (1, _), (2, _), (3, _), (4, _), (5, _), (6, _)]) C dX7_taken_148 (by decide) rfl ?_
                refine g_iload (pc := 150) (j := 6) C dX7_taken_150 rfl ?_
                refine g_if_eq (pc := 152) (tgt := 163) C dX7_taken_152 (by decide) (fun h152 => ?_) (fun h152 => ?_)
                · refine g_bipush (pc := 163) (v := (-13)) C dX7_taken_163 (by decide) ?_
                  refine g_iret (pc := 165) C C2 dX7_taken_165 rfl (Nat.le_refl _) (Nat.le_refl _) ?_
                  clear C C2
                  try clear sS
                  try clear sB sP
                  clear hkd
                  have qb := fun (P : Prop) [Decidable P] => pm_b_0 (P := P)
                  exact ⟨by grind [pm_b], rfl, rfl, rfl⟩
                · refine g_aload (pc := 155) (j := 4) C dX7_taken_155 rfl ?_
                  refine g_getI (pc := 157) C dX7_taken_157 lfX7_252 (by first | rfl | assumption) rfl ?_
                  refine g_goto (pc := 160) (tgt := 165) C dX7_taken_160 (by decide) ?_
                  refine g_iret (pc := 165) C C2 dX7_taken_165 rfl (Nat.le_refl _) (Nat.le_refl _) ?_
                  clear C C2
                  try clear sS
                  try clear sB sP
                  clear hkd
                  have qb := fun (P : Prop) [Decidable P] => pm_b_0 (P := P)
                  exact ⟨by grind [pm_b], rfl, rfl, rfl⟩
          · refine g_iload (pc := 69) (j := 5) C dX7_taken_69 rfl ?_
            refine g_if_eq (pc := 71) (tgt := 103) C dX7_taken_71 (by decide) (fun h71 => ?_) (fun h71 => ?_)
            · refine g_iconst (pc := 103) (v := 0) C dX7_taken_103 (by decide) ?_
              refine g_istore (pc := 104) (L2 := [(0, _), (1, _), (2, _), (3, _), (4, _), (5, _), (6, _)]) C dX7_taken_104 (by decide) rfl ?_
              refine g_iload (pc := 106) (j := 6) C dX7_taken_106 rfl ?_
              refine g_if_eq (pc := 108) (tgt := 119) C dX7_taken_108 (by decide) (fun h108 => ?_) (fun h108 => ?_)
              · refine g_bipush (pc := 119) (v := (-13)) C dX7_taken_119 (by decide) ?_
                refine g_iret (pc := 121) C C2 dX7_taken_121 rfl (Nat.le_refl _) (Nat.le_refl _) ?_
                clear C C2
                try clear sS
                try clear sB sP
                clear hkd
                have qb := fun (P : Prop) [Decidable P] => pm_b_0 (P := P)
                exact ⟨by grind [pm_b], rfl, rfl, rfl⟩
              · refine g_aload (pc := 111) (j := 4) C dX7_taken_111 rfl ?_
                refine g_getI (pc := 113) C dX7_taken_113 lfX7_245 (by first | rfl | assumption) rfl ?_
                refine g_goto (pc := 116) (tgt := 121) C dX7_taken_116 (by decide) ?_
                refine g_iret (pc := 121) C C2 dX7_taken_121 rfl (Nat.le_refl _) (Nat.le_refl _) ?_
                clear C C2
                try clear sS
                try clear sB sP
                clear hkd
                have qb := fun (P : Prop) [Decidable P] => pm_b_0 (P := P)
                exact ⟨by grind [pm_b], rfl, rfl, rfl⟩
            · have hhB : sf_holds I s := pm_b_ne.mp h71
              obtain ⟨b, hb, eb⟩ := pm_has hn h6 hhB.2
              have ecb : (I (98 + s) 1).toNatClampNeg = b := by rw [eb]; exact nI_clamp (by omega)
              have sB := shB b (by omega)
              have sP := shP b (by omega)
              obtain ⟨k, hk, ek⟩ := hkd b hb
              refine g_aload_n (pc := 74) (i := 0) (j := 0) C dX7_taken_74 rfl rfl ?_
              refine g_getR (pc := 75) C dX7_taken_75 lfX7_10 (by first | rfl | assumption) rfl ?_
              refine g_getR (pc := 78) C dX7_taken_78 lfX7_118 (by first | rfl | assumption) rfl ?_
              refine g_aload (pc := 81) (j := 4) C dX7_taken_81 rfl ?_
              refine g_getI (pc := 83) C dX7_taken_83 lfX7_245 (by first | rfl | assumption) rfl ?_
              refine g_aald (pc := 86) C dX7_taken_86 (by first | rfl | assumption) (fun _ => rfl) rfl (by decide) eb (rsB b (by omega)) ?_
              refine g_getR (pc := 87) C dX7_taken_87 lfX7_138 (by first | rfl | assumption) rfl ?_
              refine g_iconst (pc := 90) (v := 0) C dX7_taken_90 (by decide) ?_
              refine g_iald (pc := 91) C dX7_taken_91 (by first | rfl | assumption) (by decide) (by first | rfl | assumption) (by first | assumption | decide | omega) ?_
              rw [ek]
              refine g_iload_n (pc := 92) (i := 2) (j := 2) C dX7_taken_92 rfl rfl ?_
              refine g_callS (pc := 93) C dX7_taken_93 lmX7_248 kcX7_isUnder (by decide) (c_X7_isUnder hk) rfl rfl (Nat.le_of_ble_eq_true rfl) ?_
              intro r9 sh9 I9 J9 hD9; obtain ⟨rfl, rfl, rfl, rfl⟩ := pm_Dq hD9
              try simp only [Option.toList_some, Option.toList_none, List.cons_append, List.nil_append]
              refine g_if_eqB (pc := 96) (tgt := 103) C dX7_taken_96 (by decide) (fun h96 => ?_) (fun h96 => ?_)
              · refine g_iconst (pc := 103) (v := 0) C dX7_taken_103 (by decide) ?_
                refine g_istore (pc := 104) (L2 := [(0, _), (1, _), (2, _), (3, _), (4, _), (5, _), (6, _)]) C dX7_taken_104 (by decide) rfl ?_
                refine g_iload (pc := 106) (j := 6) C dX7_taken_106 rfl ?_
                refine g_if_eq (pc := 108) (tgt := 119) C dX7_taken_108 (by decide) (fun h108 => ?_) (fun h108 => ?_)
                · refine g_bipush (pc := 119) (v := (-13)) C dX7_taken_119 (by decide) ?_
                  refine g_iret (pc := 121) C C2 dX7_taken_121 rfl (Nat.le_refl _) (Nat.le_refl _) ?_
                  clear C C2
                  try clear sS
                  try clear sB sP
                  clear hkd
                  have qb := fun (P : Prop) [Decidable P] => pm_b_0 (P := P)
                  exact ⟨by grind [pm_b], rfl, rfl, rfl⟩
                · refine g_aload (pc := 111) (j := 4) C dX7_taken_111 rfl ?_
                  refine g_getI (pc := 113) C dX7_taken_113 lfX7_245 (by first | rfl | assumption) rfl ?_
                  refine g_goto (pc := 116) (tgt := 121) C dX7_taken_116 (by decide) ?_
                  refine g_iret (pc := 121) C C2 dX7_taken_121 rfl (Nat.le_refl _) (Nat.le_refl _) ?_
                  clear C C2
                  try clear sS
                  try clear sB sP
                  clear hkd
                  have qb := fun (P : Prop) [Decidable P] => pm_b_0 (P := P)
                  exact ⟨by grind [pm_b], rfl, rfl, rfl⟩
              · refine g_iconst (pc := 99) (v := 1) C dX7_taken_99 (by decide) ?_
                refine g_goto (pc := 100) (tgt := 104) C dX7_taken_100 (by decide) ?_
                refine g_istore (pc := 104) (L2 := [(0, _), (1, _), (2, _), (3, _), (4, _), (5, _), (6, _)]) C dX7_taken_104 (by decide) rfl ?_
                refine g_iload (pc := 106) (j := 6) C dX7_taken_106 rfl ?_
                refine g_if_eq (pc := 108) (tgt := 119) C dX7_taken_108 (by decide) (fun h108 => ?_) (fun h108 => ?_)
                · refine g_bipush (pc := 119) (v := (-13)) C dX7_taken_119 (by decide) ?_
                  refine g_iret (pc := 121) C C2 dX7_taken_121 rfl (Nat.le_refl _) (Nat.le_refl _) ?_
                  clear C C2
                  try clear sS
                  try clear sB sP
                  clear hkd
                  have qb := fun (P : Prop) [Decidable P] => pm_b_0 (P := P)
                  exact ⟨by grind [pm_b], rfl, rfl, rfl⟩
                · refine g_aload (pc := 111) (j := 4) C dX7_taken_111 rfl ?_
                  refine g_getI (pc := 113) C dX7_taken_113 lfX7_245 (by first | rfl | assumption) rfl ?_
                  refine g_goto (pc := 116) (tgt := 121) C dX7_taken_116 (by decide) ?_
                  refine g_iret (pc := 121) C C2 dX7_taken_121 rfl (Nat.le_refl _) (Nat.le_refl _) ?_
                  clear C C2
                  try clear sS
                  try clear sB sP
                  clear hkd
                  have qb := fun (P : Prop) [Decidable P] => pm_b_0 (P := P)
                  exact ⟨by grind [pm_b], rfl, rfl, rfl⟩
        · refine g_aload (pc := 53) (j := 4) C dX7_taken_53 rfl ?_
          refine g_getI (pc := 55) C dX7_taken_55 lfX7_238 (by first | rfl | assumption) rfl ?_
          refine g_iconst (pc := 58) (v := 1) C dX7_taken_58 (by decide) ?_
          refine g_icmp_eq (pc := 59) (tgt := 65) C dX7_taken_59 (by decide) (fun h59 => ?_) (fun h59 => ?_)
          · refine g_iload_n (pc := 65) (i := 3) (j := 3) C dX7_taken_65 rfl rfl ?_
            refine g_if_eq (pc := 66) (tgt := 122) C dX7_taken_66 (by decide) (fun h66 => ?_) (fun h66 => ?_)
            · refine g_aload (pc := 122) (j := 4) C dX7_taken_122 rfl ?_
              refine g_getI (pc := 124) C dX7_taken_124 lfX7_238 (by first | rfl | assumption) rfl ?_
              refine g_iconst (pc := 127) (v := 1) C dX7_taken_127 (by decide) ?_
              refine g_icmp_ne (pc := 128) (tgt := 147) C dX7_taken_128 (by decide) (fun h128 => ?_) (fun h128 => ?_)
              · refine g_iconst (pc := 147) (v := 0) C dX7_taken_147 (by decide) ?_
                refine g_istore (pc := 148) (L2 := [(0, _), (1, _), (2, _), (3, _), (4, _), (5, _), (6, _)]) C dX7_taken_148 (by decide) rfl ?_
                refine g_iload (pc := 150) (j := 6) C dX7_taken_150 rfl ?_
                refine g_if_eq (pc := 152) (tgt := 163) C dX7_taken_152 (by decide) (fun h152 => ?_) (fun h152 => ?_)
                · refine g_bipush (pc := 163) (v := (-13)) C dX7_taken_163 (by decide) ?_
                  refine g_iret (pc := 165) C C2 dX7_taken_165 rfl (Nat.le_refl _) (Nat.le_refl _) ?_
                  clear C C2
                  try clear sS
                  try clear sB sP
                  clear hkd
                  have qb := fun (P : Prop) [Decidable P] => pm_b_0 (P := P)
                  exact ⟨by grind [pm_b], rfl, rfl, rfl⟩
                · refine g_aload (pc := 155) (j := 4) C dX7_taken_155 rfl ?_
                  refine g_getI (pc := 157) C dX7_taken_157 lfX7_252 (by first | rfl | assumption) rfl ?_
                  refine g_goto (pc := 160) (tgt := 165) C dX7_taken_160 (by decide) ?_
                  refine g_iret (pc := 165) C C2 dX7_taken_165 rfl (Nat.le_refl _) (Nat.le_refl _) ?_
                  clear C C2
                  try clear sS
                  try clear sB sP
                  clear hkd
                  have qb := fun (P : Prop) [Decidable P] => pm_b_0 (P := P)
                  exact ⟨by grind [pm_b], rfl, rfl, rfl⟩
              · refine g_aload (pc := 131) (j := 4) C dX7_taken_131 rfl ?_
                refine g_getI (pc := 133) C dX7_taken_133 lfX7_251 (by first | rfl | assumption) rfl ?_
                refine g_iload_n (pc := 136) (i := 2) (j := 2) C dX7_taken_136 rfl rfl ?_
                refine g_bipush (pc := 137) (v := 10) C dX7_taken_137 (by decide) ?_
                refine g_isub (pc := 139) C dX7_taken_139 ?_
                refine g_icmp_ne (pc := 140) (tgt := 147) C dX7_taken_140 (by decide) (fun h140 => ?_) (fun h140 => ?_)
                · refine g_iconst (pc := 147) (v := 0) C dX7_taken_147 (by decide) ?_
                  refine g_istore (pc := 148) (L2 := [(0, _), (1, _), (2, _), (3, _), (4, _), (5, _), (6, _)]) C dX7_taken_148 (by decide) rfl ?_
                  refine g_iload (pc := 150) (j := 6) C dX7_taken_150 rfl ?_
                  refine g_if_eq (pc := 152) (tgt := 163) C dX7_taken_152 (by decide) (fun h152 => ?_) (fun h152 => ?_)
                  · refine g_bipush (pc := 163) (v := (-13)) C dX7_taken_163 (by decide) ?_
                    refine g_iret (pc := 165) C C2 dX7_taken_165 rfl (Nat.le_refl _) (Nat.le_refl _) ?_
                    clear C C2
                    try clear sS
                    try clear sB sP
                    clear hkd
                    have qb := fun (P : Prop) [Decidable P] => pm_b_0 (P := P)
                    exact ⟨by grind [pm_b], rfl, rfl, rfl⟩
                  · refine g_aload (pc := 155) (j := 4) C dX7_taken_155 rfl ?_
                    refine g_getI (pc := 157) C dX7_taken_157 lfX7_252 (by first | rfl | assumption) rfl ?_
                    refine g_goto (pc := 160) (tgt := 165) C dX7_taken_160 (by decide) ?_
                    refine g_iret (pc := 165) C C2 dX7_taken_165 rfl (Nat.le_refl _) (Nat.le_refl _) ?_
                    clear C C2
                    try clear sS
                    try clear sB sP
                    clear hkd
                    have qb := fun (P : Prop) [Decidable P] => pm_b_0 (P := P)
                    exact ⟨by grind [pm_b], rfl, rfl, rfl⟩
                · refine g_iconst (pc := 143) (v := 1) C dX7_taken_143 (by decide) ?_
                  refine g_goto (pc := 144) (tgt := 148) C dX7_taken_144 (by decide) ?_
                  refine g_istore (pc := 148) (L2 := [(0, _), (1, _), (2, _), (3, _), (4, _), (5, _), (6, _)]) C dX7_taken_148 (by decide) rfl ?_
                  refine g_iload (pc := 150) (j := 6) C dX7_taken_150 rfl ?_
                  refine g_if_eq (pc := 152) (tgt := 163) C dX7_taken_152 (by decide) (fun h152 => ?_) (fun h152 => ?_)
                  · refine g_bipush (pc := 163) (v := (-13)) C dX7_taken_163 (by decide) ?_
                    refine g_iret (pc := 165) C C2 dX7_taken_165 rfl (Nat.le_refl _) (Nat.le_refl _) ?_
                    clear C C2
                    try clear sS
                    try clear sB sP
                    clear hkd
                    have qb := fun (P : Prop) [Decidable P] => pm_b_0 (P := P)
                    exact ⟨by grind [pm_b], rfl, rfl, rfl⟩
                  · refine g_aload (pc := 155) (j := 4) C dX7_taken_155 rfl ?_
                    refine g_getI (pc := 157) C dX7_taken_157 lfX7_252 (by first | rfl | assumption) rfl ?_
                    refine g_goto (pc := 160) (tgt := 165) C dX7_taken_160 (by decide) ?_
                    refine g_iret (pc := 165) C C2 dX7_taken_165 rfl (Nat.le_refl _) (Nat.le_refl _) ?_
                    clear C C2
                    try clear sS
                    try clear sB sP
                    clear hkd
                    have qb := fun (P : Prop) [Decidable P] => pm_b_0 (P := P)
                    exact ⟨by grind [pm_b], rfl, rfl, rfl⟩
            · refine g_iload (pc := 69) (j := 5) C dX7_taken_69 rfl ?_
              refine g_if_eq (pc := 71) (tgt := 103) C dX7_taken_71 (by decide) (fun h71 => ?_) (fun h71 => ?_)
              · refine g_iconst (pc := 103) (v := 0) C dX7_taken_103 (by decide) ?_
                refine g_istore (pc := 104) (L2 := [(0, _), (1, _), (2, _), (3, _), (4, _), (5, _), (6, _)]) C dX7_taken_104 (by decide) rfl ?_
                refine g_iload (pc := 106) (j := 6) C dX7_taken_106 rfl ?_
                refine g_if_eq (pc := 108) (tgt := 119) C dX7_taken_108 (by decide) (fun h108 => ?_) (fun h108 => ?_)
                · refine g_bipush (pc := 119) (v := (-13)) C dX7_taken_119 (by decide) ?_
                  refine g_iret (pc := 121) C C2 dX7_taken_121 rfl (Nat.le_refl _) (Nat.le_refl _) ?_
                  clear C C2
                  try clear sS
                  try clear sB sP
                  clear hkd
                  have qb := fun (P : Prop) [Decidable P] => pm_b_0 (P := P)
                  exact ⟨by grind [pm_b], rfl, rfl, rfl⟩
                · refine g_aload (pc := 111) (j := 4) C dX7_taken_111 rfl ?_
                  refine g_getI (pc := 113) C dX7_taken_113 lfX7_245 (by first | rfl | assumption) rfl ?_
                  refine g_goto (pc := 116) (tgt := 121) C dX7_taken_116 (by decide) ?_
                  refine g_iret (pc := 121) C C2 dX7_taken_121 rfl (Nat.le_refl _) (Nat.le_refl _) ?_
                  clear C C2
                  try clear sS
                  try clear sB sP
                  clear hkd
                  have qb := fun (P : Prop) [Decidable P] => pm_b_0 (P := P)
                  exact ⟨by grind [pm_b], rfl, rfl, rfl⟩
              · have hhB : sf_holds I s := pm_b_ne.mp h71
                obtain ⟨b, hb, eb⟩ := pm_has hn h6 hhB.2
                have ecb : (I (98 + s) 1).toNatClampNeg = b := by rw [eb]; exact nI_clamp (by omega)
                have sB := shB b (by omega)
                have sP := shP b (by omega)
                obtain ⟨k, hk, ek⟩ := hkd b hb
                refine g_aload_n (pc := 74) (i := 0) (j := 0) C dX7_taken_74 rfl rfl ?_
                refine g_getR (pc := 75) C dX7_taken_75 lfX7_10 (by first | rfl | assumption) rfl ?_
                refine g_getR (pc := 78) C dX7_taken_78 lfX7_118 (by first | rfl | assumption) rfl ?_
                refine g_aload (pc := 81) (j := 4) C dX7_taken_81 rfl ?_
                refine g_getI (pc := 83) C dX7_taken_83 lfX7_245 (by first | rfl | assumption) rfl ?_
                refine g_aald (pc := 86) C dX7_taken_86 (by first | rfl | assumption) (fun _ => rfl) rfl (by decide) eb (rsB b (by omega)) ?_
                refine g_getR (pc := 87) C dX7_taken_87 lfX7_138 (by first | rfl | assumption) rfl ?_
                refine g_iconst (pc := 90) (v := 0) C dX7_taken_90 (by decide) ?_
                refine g_iald (pc := 91) C dX7_taken_91 (by first | rfl | assumption) (by decide) (by first | rfl | assumption) (by first | assumption | decide | omega) ?_
                rw [ek]
                refine g_iload_n (pc := 92) (i := 2) (j := 2) C dX7_taken_92 rfl rfl ?_
                refine g_callS (pc := 93) C dX7_taken_93 lmX7_248 kcX7_isUnder (by decide) (c_X7_isUnder hk) rfl rfl (Nat.le_of_ble_eq_true rfl) ?_
                intro r9 sh9 I9 J9 hD9; obtain ⟨rfl, rfl, rfl, rfl⟩ := pm_Dq hD9
                try simp only [Option.toList_some, Option.toList_none, List.cons_append, List.nil_append]
                refine g_if_eqB (pc := 96) (tgt := 103) C dX7_taken_96 (by decide) (fun h96 => ?_) (fun h96 => ?_)
                · refine g_iconst (pc := 103) (v := 0) C dX7_taken_103 (by decide) ?_
                  refine g_istore (pc := 104) (L2 := [(0, _), (1, _), (2, _), (3, _), (4, _), (5, _), (6, _)]) C dX7_taken_104 (by decide) rfl ?_
                  refine g_iload (pc := 106) (j := 6) C dX7_taken_106 rfl ?_
                  refine g_if_eq (pc := 108) (tgt := 119) C dX7_taken_108 (by decide) (fun h108 => ?_) (fun h108 => ?_)
                  · refine g_bipush (pc := 119) (v := (-13)) C dX7_taken_119 (by decide) ?_
                    refine g_iret (pc := 121) C C2 dX7_taken_121 rfl (Nat.le_refl _) (Nat.le_refl _) ?_
                    clear C C2
                    try clear sS
                    try clear sB sP
                    clear hkd
                    have qb := fun (P : Prop) [Decidable P] => pm_b_0 (P := P)
                    exact ⟨by grind [pm_b], rfl, rfl, rfl⟩
                  · refine g_aload (pc := 111) (j := 4) C dX7_taken_111 rfl ?_
                    refine g_getI (pc := 113) C dX7_taken_113 lfX7_245 (by first | rfl | assumption) rfl ?_
                    refine g_goto (pc := 116) (tgt := 121) C dX7_taken_116 (by decide) ?_
                    refine g_iret (pc := 121) C C2 dX7_taken_121 rfl (Nat.le_refl _) (Nat.le_refl _) ?_
                    clear C C2
                    try clear sS
                    try clear sB sP
                    clear hkd
                    have qb := fun (P : Prop) [Decidable P] => pm_b_0 (P := P)
                    exact ⟨by grind [pm_b], rfl, rfl, rfl⟩
                · refine g_iconst (pc := 99) (v := 1) C dX7_taken_99 (by decide) ?_
                  refine g_goto (pc := 100) (tgt := 104) C dX7_taken_100 (by decide) ?_
                  refine g_istore (pc := 104) (L2 := [(0, _), (1, _), (2, _), (3, _), (4, _), (5, _), (6, _)]) C dX7_taken_104 (by decide) rfl ?_
                  refine g_iload (pc := 106) (j := 6) C dX7_taken_106 rfl ?_
                  refine g_if_eq (pc := 108) (tgt := 119) C dX7_taken_108 (by decide) (fun h108 => ?_) (fun h108 => ?_)
                  · refine g_bipush (pc := 119) (v := (-13)) C dX7_taken_119 (by decide) ?_
                    refine g_iret (pc := 121) C C2 dX7_taken_121 rfl (Nat.le_refl _) (Nat.le_refl _) ?_
                    clear C C2
                    try clear sS
                    try clear sB sP
                    clear hkd
                    have qb := fun (P : Prop) [Decidable P] => pm_b_0 (P := P)
                    exact ⟨by grind [pm_b], rfl, rfl, rfl⟩
                  · refine g_aload (pc := 111) (j := 4) C dX7_taken_111 rfl ?_
                    refine g_getI (pc := 113) C dX7_taken_113 lfX7_245 (by first | rfl | assumption) rfl ?_
                    refine g_goto (pc := 116) (tgt := 121) C dX7_taken_116 (by decide) ?_
                    refine g_iret (pc := 121) C C2 dX7_taken_121 rfl (Nat.le_refl _) (Nat.le_refl _) ?_
                    clear C C2
                    try clear sS
                    try clear sB sP
                    clear hkd
                    have qb := fun (P : Prop) [Decidable P] => pm_b_0 (P := P)
                    exact ⟨by grind [pm_b], rfl, rfl, rfl⟩
          · refine g_bipush (pc := 62) (v := (-11)) C dX7_taken_62 (by decide) ?_
            refine g_iret (pc := 64) C C2 dX7_taken_64 rfl (Nat.le_refl _) (Nat.le_refl _) ?_
            clear C C2
            try clear sS
            try clear sB sP
            clear hkd
            have qb := fun (P : Prop) [Decidable P] => pm_b_0 (P := P)
            exact ⟨by grind [pm_b], rfl, rfl, rfl⟩
      · refine g_iconst (pc := 30) (v := (-1)) C dX7_taken_30 (by decide) ?_
        refine g_iret (pc := 31) C C2 dX7_taken_31 rfl (Nat.le_refl _) (Nat.le_refl _) ?_
        clear C C2
        try clear sS
        try clear sB sP
        clear hkd
        have qb := fun (P : Prop) [Decidable P] => pm_b_0 (P := P)
        exact ⟨by grind [pm_b], rfl, rfl, rfl⟩

set_option maxHeartbeats 4000000 in
set_option maxRecDepth 100000 in
theorem c_X7_warms {d : Nat} {I : pm_I} {J : pm_J} {s h c i m : Nat} (hs : s < 4) (hh : h < 24) (hc : h + c ≤ 24) (hs0 : I (90 + 2 * s) 1 = 0) (hln : I (90 + 2 * s) 2 = nI m) (hm : m ≤ 40) (him : i + c ≤ m) : pm_M (d + 3) 0 0 yX7_warms cX7_warms 7 (some .int) [.ref 0, .int (nI s), .int (nI i), .int (nI h), .int (nI c)] SHP I J (pm_D (some (.int (nI c))) SHP (pm_s I 2 (wm_row (I 2) (I (91 + 2 * s)) i h c)) J) := by
  refine pm_start (own := RX7) (nm := "warms") (by decide) rfl rfl (L := [(0, .ref 0), (1, .int (nI s)), (2, .int (nI i)), (3, .int (nI h)), (4, .int (nI c))]) rfl (Nat.le_of_ble_eq_true rfl) (fun Γ C C2 => ?_)
  have sT := shT s hs
  have sI := shI s hs
  have e24 : (24 : Int32) - nI h = nI (24 - h) := by
    have h1 : nI (24 - h) + nI h = nI 24 := by rw [nI_add]; congr 1; omega
    have h2 : nI 24 = 24 := rfl
    rw [← h2, ← h1]
    exact Int32.add_sub_cancel _ _
  have emc : nI m - nI c = nI (m - c) := by
    have h1 : nI (m - c) + nI c = nI m := by rw [nI_add]; congr 1; omega
    rw [← h1]
    exact Int32.add_sub_cancel _ _
  have hloop : ∀ j, j ≤ c → pm_G Γ 0 0 82 [(0, .ref 0), (1, .int (nI s)), (2, .int (nI i)), (3, .int (nI h)), (4, .int (nI c)), (5, .ref (90 + 2 * s)), (6, .int (nI j))] [] SHP (pm_s I 2 (wm_row (I 2) (I (91 + 2 * s)) i h j)) J := by
    refine pm_up (fun j => pm_G Γ 0 0 82 [(0, .ref 0), (1, .int (nI s)), (2, .int (nI i)), (3, .int (nI h)), (4, .int (nI c)), (5, .ref (90 + 2 * s)), (6, .int (nI j))] [] SHP (pm_s I 2 (wm_row (I 2) (I (91 + 2 * s)) i h j)) J) c (fun j hj ih => ?_)
    refine g_iload (pc := 82) (j := 6) C dX7_warms_82 rfl ?_
    refine g_iload (pc := 84) (j := 4) C dX7_warms_84 rfl ?_
    refine g_icmp_ge (pc := 86) (tgt := 124) C dX7_warms_86 (by decide) (fun h86 => ?_) (fun h86 => ?_)
    · have ej : j = c := by (try rw [hn] at h86); have := (nI_leI (a := c) (b := j) (by omega) (by omega)).mp h86; omega
      subst ej
      refine g_iload (pc := 124) (j := 4) C dX7_warms_124 rfl ?_
      refine g_iret (pc := 126) C C2 dX7_warms_126 rfl (Nat.le_refl _) (Nat.le_refl _) ?_
      exact ⟨rfl, rfl, rfl, rfl⟩
    · have hlt : j < c := by (try rw [hn] at h86); exact Nat.lt_of_not_le (fun q => h86 ((nI_leI (a := c) (b := j) (by omega) (by omega)).mpr q))
      refine g_aload_n (pc := 89) (i := 0) (j := 0) C dX7_warms_89 rfl rfl ?_
      refine g_getR (pc := 90) C dX7_warms_90 lfX7_10 (by first | rfl | assumption) rfl ?_
      refine g_getR (pc := 93) C dX7_warms_93 lfX7_100 (by first | rfl | assumption) rfl ?_
      refine g_iload_n (pc := 96) (i := 3) (j := 3) C dX7_warms_96 rfl rfl ?_
      refine g_iload (pc := 97) (j := 6) C dX7_warms_97 rfl ?_
      refine g_iadd (pc := 99) C dX7_warms_99 ?_
      refine g_aload (pc := 100) (j := 5) C dX7_warms_100 rfl ?_
      refine g_getR (pc := 102) C dX7_warms_102 lfX7_215 (by first | rfl | assumption) rfl ?_
      refine g_iload_n (pc := 105) (i := 2) (j := 2) C dX7_warms_105 rfl rfl ?_
      refine g_iload (pc := 106) (j := 6) C dX7_warms_106 rfl ?_
      refine g_iadd (pc := 108) C dX7_warms_108 ?_
      refine g_iald (pc := 109) (j := i + j) C dX7_warms_109 sI (by decide) (nI_add _ _) (by omega) ?_
      refine g_bipush (pc := 110) (v := (-20)) C dX7_warms_110 (by decide) ?_
      refine g_bipush (pc := 112) (v := 40) C dX7_warms_112 (by decide) ?_
      refine g_callS (pc := 114) C dX7_warms_114 lmX7_218 kcX7_held (by decide) (c_X7_held) rfl rfl (Nat.le_of_ble_eq_true rfl) ?_
      intro r9 sh9 I9 J9 hD9; obtain ⟨rfl, rfl, rfl, rfl⟩ := pm_Dq hD9
      try simp only [Option.toList_some, Option.toList_none, List.cons_append, List.nil_append]
      refine g_iast (pc := 117) (j := h + j) C dX7_warms_117 (by first | rfl | assumption) (by decide) (nI_add _ _) (by omega) ?_
      refine g_iinc (pc := 118) (j := 6) (v := _ + 1) (L2 := [(0, _), (1, _), (2, _), (3, _), (4, _), (5, _), (6, _)]) C dX7_warms_118 rfl rfl (by decide) rfl ?_
      refine g_goto (pc := 121) (tgt := 82) C dX7_warms_121 (by decide) ?_
      refine pm_Geq (ih hlt) (by simp only [nI_1]) rfl ?_ rfl
      rw [show pm_s I 2 (wm_row (I 2) (I (91 + 2 * s)) i h j) (91 + 2 * s) = I (91 + 2 * s) from pm_s_off _ _ _ _ (by omega), pm_u_s, pm_s_at, pm_s_s]
      congr 1
      funext k
      unfold wm_row upd
      have ek : h + j - h = j := by omega
      grind
  refine g_iload_n (pc := 0) (i := 1) (j := 1) C dX7_warms_0 rfl rfl ?_
  refine g_callS (pc := 1) C dX7_warms_1 lmX7_206 kcX7_isSheet (by decide) (c_X7_isSheet) rfl rfl (Nat.le_of_ble_eq_true rfl) ?_
  intro r9 sh9 I9 J9 hD9; obtain ⟨rfl, rfl, rfl, rfl⟩ := pm_Dq hD9
  try simp only [Option.toList_some, Option.toList_none, List.cons_append, List.nil_append]
  refine g_if_eqB (pc := 4) (tgt := 27) C dX7_warms_4 (by decide) (fun h4 => absurd ⟨by exact nI_pos' (by omega), by exact nI_le (a := s) (b := 3) (by omega) (by decide)⟩ h4) (fun h4 => ?_)
  refine g_iload_n (pc := 7) (i := 3) (j := 3) C dX7_warms_7 rfl rfl ?_
  refine g_callS (pc := 8) C dX7_warms_8 lmX7_96 kcX7_isHour (by decide) (c_X7_isHour) rfl rfl (Nat.le_of_ble_eq_true rfl) ?_
  intro r9 sh9 I9 J9 hD9; obtain ⟨rfl, rfl, rfl, rfl⟩ := pm_Dq hD9
  try simp only [Option.toList_some, Option.toList_none, List.cons_append, List.nil_append]
  refine g_if_eqB (pc := 11) (tgt := 27) C dX7_warms_11 (by decide) (fun h11 => absurd ⟨by exact nI_pos' (by omega), by exact nI_le (a := h) (b := 23) (by omega) (by decide)⟩ h11) (fun h11 => ?_)
  refine g_iload (pc := 14) (j := 4) C dX7_warms_14 rfl ?_
  refine g_iconst (pc := 16) (v := 0) C dX7_warms_16 (by decide) ?_
  refine g_bipush (pc := 17) (v := 24) C dX7_warms_17 (by decide) ?_
  refine g_iload_n (pc := 19) (i := 3) (j := 3) C dX7_warms_19 rfl rfl ?_
  refine g_isub (pc := 20) C dX7_warms_20 ?_
  refine g_callS (pc := 21) C dX7_warms_21 lmX7_72 kcX7_within (by decide) (c_X7_within) rfl rfl (Nat.le_of_ble_eq_true rfl) ?_
  intro r9 sh9 I9 J9 hD9; obtain ⟨rfl, rfl, rfl, rfl⟩ := pm_Dq hD9
  try simp only [Option.toList_some, Option.toList_none, List.cons_append, List.nil_append]
  refine g_if_neB (pc := 24) (tgt := 29) C dX7_warms_24 (by decide) (fun h24 => ?_) (fun h24 => absurd ⟨by exact nI_pos' (by omega), by rw [e24]; exact nI_le (by omega) (by omega)⟩ h24)
  refine g_aload_n (pc := 29) (i := 0) (j := 0) C dX7_warms_29 rfl rfl ?_
  refine g_getR (pc := 30) C dX7_warms_30 lfX7_53 (by first | rfl | assumption) rfl ?_
  refine g_iload_n (pc := 33) (i := 1) (j := 1) C dX7_warms_33 rfl rfl ?_
  refine g_aald (pc := 34) C dX7_warms_34 (by first | rfl | assumption) (fun _ => rfl) rfl (by decide) (by first | rfl | assumption) (rsT s hs) ?_
  refine g_astore (pc := 35) (L2 := [(0, _), (1, _), (2, _), (3, _), (4, _), (5, _)]) C dX7_warms_35 (by decide) rfl ?_
  refine g_aload (pc := 37) (j := 5) C dX7_warms_37 rfl ?_
  refine g_getI (pc := 39) C dX7_warms_39 lfX7_209 (by first | rfl | assumption) rfl ?_
  refine g_iconst (pc := 42) (v := (-1)) C dX7_warms_42 (by decide) ?_
  refine g_icmp_ne (pc := 43) (tgt := 49) C dX7_warms_43 (by decide) (fun h43 => ?_) (fun h43 => absurd (by rw [hs0]; decide : ¬ I (90 + 2 * s) 1 = -1) (fun q => q h43))
  refine g_aload (pc := 49) (j := 5) C dX7_warms_49 rfl ?_
  refine g_getI (pc := 51) C dX7_warms_51 lfX7_209 (by first | rfl | assumption) rfl ?_
  refine g_if_eq (pc := 54) (tgt := 60) C dX7_warms_54 (by decide) (fun h54 => ?_) (fun h54 => absurd hs0 h54)
  refine g_iload_n (pc := 60) (i := 2) (j := 2) C dX7_warms_60 rfl rfl ?_
  refine g_if_lt (pc := 61) (tgt := 76) C dX7_warms_61 (by decide) (fun h61 => absurd h61 (nI_pos (by omega))) (fun h61 => ?_)
  refine g_iload_n (pc := 64) (i := 2) (j := 2) C dX7_warms_64 rfl rfl ?_
  refine g_aload (pc := 65) (j := 5) C dX7_warms_65 rfl ?_
  refine g_getI (pc := 67) C dX7_warms_67 lfX7_212 (by first | rfl | assumption) rfl ?_
  refine g_iload (pc := 70) (j := 4) C dX7_warms_70 rfl ?_
  refine g_isub (pc := 72) C dX7_warms_72 ?_
  refine g_icmp_le (pc := 73) (tgt := 79) C dX7_warms_73 (by decide) (fun h73 => ?_) (fun h73 => absurd (by rw [hln, emc]; exact nI_le (by omega) (by omega)) h73)
  refine g_iconst (pc := 79) (v := 0) C dX7_warms_79 (by decide) ?_
  refine g_istore (pc := 80) (L2 := [(0, _), (1, _), (2, _), (3, _), (4, _), (5, _), (6, _)]) C dX7_warms_80 (by decide) rfl ?_
  refine pm_Geq (hloop 0 (Nat.zero_le _)) rfl rfl ?_ rfl
  funext a k
  unfold pm_s wm_row
  split
  · next q => subst q; exact (if_neg (by omega)).symm
  · rfl

set_option maxHeartbeats 4000000 in
set_option maxRecDepth 100000 in
theorem c_X7_warms0 {d : Nat} {I : pm_I} {J : pm_J} {x i h c : Int32} (hv : ¬ (((0 ≤ x ∧ x ≤ 3) ∧ (0 ≤ h ∧ h ≤ 23) ∧ 0 ≤ c ∧ c ≤ 24 - h) ∧ I (90 + 2 * x.toNatClampNeg) 1 = 0 ∧ 0 ≤ i ∧ i ≤ I (90 + 2 * x.toNatClampNeg) 2 - c)) : pm_M (d + 2) 0 0 yX7_warms cX7_warms 7 (some .int) [.ref 0, .int x, .int i, .int h, .int c] SHP I J (pm_D (some (.int (if (0 ≤ x ∧ x ≤ 3) ∧ (0 ≤ h ∧ h ≤ 23) ∧ 0 ≤ c ∧ c ≤ 24 - h then (if I (90 + 2 * x.toNatClampNeg) 1 = -1 then -11 else if I (90 + 2 * x.toNatClampNeg) 1 = 0 then -12 else -13) else -1))) SHP I J) := by
  refine pm_start (own := RX7) (nm := "warms") (by decide) rfl rfl (L := [(0, .ref 0), (1, .int x), (2, .int i), (3, .int h), (4, .int c)]) rfl (Nat.le_of_ble_eq_true rfl) (fun Γ C C2 => ?_)
  refine g_iload_n (pc := 0) (i := 1) (j := 1) C dX7_warms_0 rfl rfl ?_
  refine g_callS (pc := 1) C dX7_warms_1 lmX7_206 kcX7_isSheet (by decide) (c_X7_isSheet) rfl rfl (Nat.le_of_ble_eq_true rfl) ?_
  intro r9 sh9 I9 J9 hD9; obtain ⟨rfl, rfl, rfl, rfl⟩ := pm_Dq hD9
  try simp only [Option.toList_some, Option.toList_none, List.cons_append, List.nil_append]
  refine g_if_eqB (pc := 4) (tgt := 27) C dX7_warms_4 (by decide) (fun h4 => ?_) (fun h4 => ?_)
  · refine g_iconst (pc := 27) (v := (-1)) C dX7_warms_27 (by decide) ?_
    refine g_iret (pc := 28) C C2 dX7_warms_28 rfl (Nat.le_refl _) (Nat.le_refl _) ?_
    clear C C2
    try clear sT
    exact ⟨by first | rfl | grind, rfl, by first | rfl | grind, rfl⟩
  · refine g_iload_n (pc := 7) (i := 3) (j := 3) C dX7_warms_7 rfl rfl ?_
    refine g_callS (pc := 8) C dX7_warms_8 lmX7_96 kcX7_isHour (by decide) (c_X7_isHour) rfl rfl (Nat.le_of_ble_eq_true rfl) ?_
    intro r9 sh9 I9 J9 hD9; obtain ⟨rfl, rfl, rfl, rfl⟩ := pm_Dq hD9
    try simp only [Option.toList_some, Option.toList_none, List.cons_append, List.nil_append]
    refine g_if_eqB (pc := 11) (tgt := 27) C dX7_warms_11 (by decide) (fun h11 => ?_) (fun h11 => ?_)
    · refine g_iconst (pc := 27) (v := (-1)) C dX7_warms_27 (by decide) ?_
      refine g_iret (pc := 28) C C2 dX7_warms_28 rfl (Nat.le_refl _) (Nat.le_refl _) ?_
      clear C C2
      try clear sT
      exact ⟨by first | rfl | grind, rfl, by first | rfl | grind, rfl⟩
    · refine g_iload (pc := 14) (j := 4) C dX7_warms_14 rfl ?_
      refine g_iconst (pc := 16) (v := 0) C dX7_warms_16 (by decide) ?_
      refine g_bipush (pc := 17) (v := 24) C dX7_warms_17 (by decide) ?_
      refine g_iload_n (pc := 19) (i := 3) (j := 3) C dX7_warms_19 rfl rfl ?_
      refine g_isub (pc := 20) C dX7_warms_20 ?_
      refine g_callS (pc := 21) C dX7_warms_21 lmX7_72 kcX7_within (by decide) (c_X7_within) rfl rfl (Nat.le_of_ble_eq_true rfl) ?_
      intro r9 sh9 I9 J9 hD9; obtain ⟨rfl, rfl, rfl, rfl⟩ := pm_Dq hD9
      try simp only [Option.toList_some, Option.toList_none, List.cons_append, List.nil_append]
      refine g_if_neB (pc := 24) (tgt := 29) C dX7_warms_24 (by decide) (fun h24 => ?_) (fun h24 => ?_)
      · obtain ⟨s, hs, rfl⟩ := pm_ix (N := 4) h4.1 h4.2 (by decide)
        have ecs : (nI s).toNatClampNeg = s := nI_clamp (by omega)
        have sT := shT s hs
        rw [ecs] at hv
        refine g_aload_n (pc := 29) (i := 0) (j := 0) C dX7_warms_29 rfl rfl ?_
        refine g_getR (pc := 30) C dX7_warms_30 lfX7_53 (by first | rfl | assumption) rfl ?_
        refine g_iload_n (pc := 33) (i := 1) (j := 1) C dX7_warms_33 rfl rfl ?_
        refine g_aald (pc := 34) C dX7_warms_34 (by first | rfl | assumption) (fun _ => rfl) rfl (by decide) (by first | rfl | assumption) (rsT s hs) ?_
        refine g_astore (pc := 35) (L2 := [(0, _), (1, _), (2, _), (3, _), (4, _), (5, _)]) C dX7_warms_35 (by decide) rfl ?_
        refine g_aload (pc := 37) (j := 5) C dX7_warms_37 rfl ?_
        refine g_getI (pc := 39) C dX7_warms_39 lfX7_209 (by first | rfl | assumption) rfl ?_
        refine g_iconst (pc := 42) (v := (-1)) C dX7_warms_42 (by decide) ?_
        refine g_icmp_ne (pc := 43) (tgt := 49) C dX7_warms_43 (by decide) (fun h43 => ?_) (fun h43 => ?_)
        · refine g_aload (pc := 49) (j := 5) C dX7_warms_49 rfl ?_
          refine g_getI (pc := 51) C dX7_warms_51 lfX7_209 (by first | rfl | assumption) rfl ?_
          refine g_if_eq (pc := 54) (tgt := 60) C dX7_warms_54 (by decide) (fun h54 => ?_) (fun h54 => ?_)
          · refine g_iload_n (pc := 60) (i := 2) (j := 2) C dX7_warms_60 rfl rfl ?_
            refine g_if_lt (pc := 61) (tgt := 76) C dX7_warms_61 (by decide) (fun h61 => ?_) (fun h61 => ?_)
            · refine g_bipush (pc := 76) (v := (-12)) C dX7_warms_76 (by decide) ?_
              refine g_iret (pc := 78) C C2 dX7_warms_78 rfl (Nat.le_refl _) (Nat.le_refl _) ?_
              clear C C2
              try clear sT
              exact ⟨by first | rfl | grind, rfl, by first | rfl | grind, rfl⟩
            · refine g_iload_n (pc := 64) (i := 2) (j := 2) C dX7_warms_64 rfl rfl ?_
              refine g_aload (pc := 65) (j := 5) C dX7_warms_65 rfl ?_
              refine g_getI (pc := 67) C dX7_warms_67 lfX7_212 (by first | rfl | assumption) rfl ?_
              refine g_iload (pc := 70) (j := 4) C dX7_warms_70 rfl ?_
              refine g_isub (pc := 72) C dX7_warms_72 ?_
              refine g_icmp_le (pc := 73) (tgt := 79) C dX7_warms_73 (by decide) (fun h73 => ?_) (fun h73 => ?_)
              · exact absurd ⟨⟨h4, h11, h24⟩, h54, Int32.not_lt.mp h61, h73⟩ hv
              · refine g_bipush (pc := 76) (v := (-12)) C dX7_warms_76 (by decide) ?_
                refine g_iret (pc := 78) C C2 dX7_warms_78 rfl (Nat.le_refl _) (Nat.le_refl _) ?_
                clear C C2
                try clear sT
                exact ⟨by first | rfl | grind, rfl, by first | rfl | grind, rfl⟩
          · refine g_bipush (pc := 57) (v := (-13)) C dX7_warms_57 (by decide) ?_
            refine g_iret (pc := 59) C C2 dX7_warms_59 rfl (Nat.le_refl _) (Nat.le_refl _) ?_
            clear C C2
            try clear sT
            exact ⟨by first | rfl | grind, rfl, by first | rfl | grind, rfl⟩
        · refine g_bipush (pc := 46) (v := (-11)) C dX7_warms_46 (by decide) ?_
          refine g_iret (pc := 48) C C2 dX7_warms_48 rfl (Nat.le_refl _) (Nat.le_refl _) ?_
          clear C C2
          try clear sT
          exact ⟨by first | rfl | grind, rfl, by first | rfl | grind, rfl⟩
      · refine g_iconst (pc := 27) (v := (-1)) C dX7_warms_27 (by decide) ?_
        refine g_iret (pc := 28) C C2 dX7_warms_28 rfl (Nat.le_refl _) (Nat.le_refl _) ?_
        clear C C2
        try clear sT
        exact ⟨by first | rfl | grind, rfl, by first | rfl | grind, rfl⟩

set_option maxHeartbeats 4000000 in
set_option maxRecDepth 100000 in
theorem c_X4_take {d : Nat} {I : pm_I} {J : pm_J} {e : Int64} {z n : Nat} (hz : I 46 1 = nI z) (hzn : z + n ≤ 240) : pm_M d 0 0 yX4_take cX4_take 5 (none : Option Jvm.ClassFile.FieldType) [.ref 46, .long e, .int (nI n)] SHP I J (pm_D none SHP (pm_s (pm_u I 46 1 (nI (z + n))) 47 (fd_row (I 47) e z n)) J) := by
  refine pm_start (own := RX4) (nm := "take") (by decide) rfl rfl (L := [(0, .ref 46), (1, .long e), (3, .int (nI n))]) rfl (Nat.le_of_ble_eq_true rfl) (fun Γ C C2 => ?_)
  have hloop : ∀ j, j ≤ n → pm_G Γ 0 0 3 [(0, .ref 46), (1, .long e), (3, .int (nI n)), (4, .int (nI j))] [] SHP (pm_s (pm_u I 46 1 (nI (z + j))) 47 (fd_row (I 47) e z j)) J := by
    refine pm_up (fun j => pm_G Γ 0 0 3 [(0, .ref 46), (1, .long e), (3, .int (nI n)), (4, .int (nI j))] [] SHP (pm_s (pm_u I 46 1 (nI (z + j))) 47 (fd_row (I 47) e z j)) J) n (fun j hj ih => ?_)
    refine g_iload (pc := 3) (j := 3) C dX4_take_3 rfl ?_
    refine g_iload_n (pc := 5) (i := 3) (j := 2) C dX4_take_5 rfl rfl ?_
    refine g_icmp_ge (pc := 6) (tgt := 43) C dX4_take_6 (by decide) (fun h6 => ?_) (fun h6 => ?_)
    · have ej : j = n := by (try rw [hn] at h6); have := (nI_leI (a := n) (b := j) (by omega) (by omega)).mp h6; omega
      subst ej
      refine g_vret (pc := 43) C C2 dX4_take_43 (Nat.le_refl _) (Nat.le_refl _) ?_
      exact ⟨rfl, rfl, rfl, rfl⟩
    · have hlt : j < n := by (try rw [hn] at h6); exact Nat.lt_of_not_le (fun q => h6 ((nI_leI (a := n) (b := j) (by omega) (by omega)).mpr q))
      refine g_aload_n (pc := 9) (i := 0) (j := 0) C dX4_take_9 rfl rfl ?_
      refine g_getR (pc := 10) C dX4_take_10 lfX4_9 (by first | rfl | assumption) rfl ?_
      refine g_aload_n (pc := 13) (i := 0) (j := 0) C dX4_take_13 rfl rfl ?_
      refine g_getI (pc := 14) C dX4_take_14 lfX4_15 (by first | rfl | assumption) rfl ?_
      refine g_lload_n (pc := 17) (i := 1) (j := 1) C dX4_take_17 rfl rfl ?_
      refine g_bipush (pc := 18) (v := 8) C dX4_take_18 (by decide) ?_
      refine g_iload (pc := 20) (j := 3) C dX4_take_20 rfl ?_
      refine g_imul (pc := 22) C dX4_take_22 ?_
      refine g_lshr (pc := 23) C dX4_take_23 ?_
      refine g_l2i (pc := 24) C dX4_take_24 ?_
      refine g_i2b (pc := 25) C dX4_take_25 ?_
      refine g_bast (pc := 26) (j := z + j) C dX4_take_26 (by first | rfl | assumption) (by decide) (by rw [pm_s_off _ _ _ _ (by decide), pm_u_at, pk_us]) (by omega) ?_
      refine g_aload_n (pc := 27) (i := 0) (j := 0) C dX4_take_27 rfl rfl ?_
      refine g_dup (pc := 28) C dX4_take_28 rfl ?_
      refine g_getI (pc := 29) C dX4_take_29 lfX4_15 (by first | rfl | assumption) rfl ?_
      refine g_iconst (pc := 32) (v := 1) C dX4_take_32 (by decide) ?_
      refine g_iadd (pc := 33) C dX4_take_33 ?_
      refine g_putI (pc := 34) C dX4_take_34 lpX4_15 rfl rfl (by first | rfl | assumption) rfl ?_
      refine g_iinc (pc := 37) (j := 3) (v := _ + 1) (L2 := [(0, _), (1, _), (3, _), (4, _)]) C dX4_take_37 rfl rfl (by decide) rfl ?_
      refine g_goto (pc := 40) (tgt := 3) C dX4_take_40 (by decide) ?_
      refine pm_Geq (ih hlt) (by simp only [nI_1]) rfl ?_ rfl
      funext a k
      have ek : z + j - z = j := by omega
      unfold pm_s fd_row pm_u upd fd_b
      simp only [← Nat.add_assoc, ← nI_1]
      grind
  refine g_iconst (pc := 0) (v := 0) C dX4_take_0 (by decide) ?_
  refine g_istore (pc := 1) (L2 := [(0, _), (1, _), (3, _), (4, _)]) C dX4_take_1 (by decide) rfl ?_
  refine pm_Geq (hloop 0 (Nat.zero_le _)) rfl rfl ?_ rfl
  funext a
  by_cases h7 : a = 47
  · subst h7; rw [pm_s_at]; funext k; exact (if_neg (by omega)).symm
  · rw [pm_s_off _ _ _ _ h7]
    by_cases h8 : a = 46
    · subst h8; rw [pm_u_at, Nat.add_zero, ← hz]; funext k; unfold upd; split
      · next q => rw [q]
      · rfl
    · rw [pm_u_off h8]

set_option maxHeartbeats 4000000 in
set_option maxRecDepth 100000 in
theorem c_X7_feed {d : Nat} {I : pm_I} {J : pm_J} {e : Int64} {x : Int32} {z : Nat} (hz : I 46 1 = nI z) (hz240 : z ≤ 240) : pm_M (d + 1) 0 0 yX7_feed cX7_feed 4 (some .int) [.ref 0, .long e, .int x] SHP I J (pm_D (some (.int (if 1 ≤ x ∧ x ≤ 8 then (if 240 < z + x.toNatClampNeg then -2 else nI (z + x.toNatClampNeg)) else -1))) SHP (if (1 ≤ x ∧ x ≤ 8) ∧ z + x.toNatClampNeg ≤ 240 then pm_s (pm_u I 46 1 (nI (z + x.toNatClampNeg))) 47 (fd_row (I 47) e z x.toNatClampNeg) else I) J) := by
  refine pm_start (own := RX7) (nm := "feed") (by decide) rfl rfl (L := [(0, .ref 0), (1, .long e), (3, .int x)]) rfl (Nat.le_of_ble_eq_true rfl) (fun Γ C C2 => ?_)
  refine g_iload_n (pc := 0) (i := 3) (j := 2) C dX7_feed_0 rfl rfl ?_
  refine g_iconst (pc := 1) (v := 1) C dX7_feed_1 (by decide) ?_
  refine g_bipush (pc := 2) (v := 8) C dX7_feed_2 (by decide) ?_
  refine g_callS (pc := 4) C dX7_feed_4 lmX7_72 kcX7_within (by decide) (c_X7_within) rfl rfl (Nat.le_of_ble_eq_true rfl) ?_
  intro r9 sh9 I9 J9 hD9; obtain ⟨rfl, rfl, rfl, rfl⟩ := pm_Dq hD9
  try simp only [Option.toList_some, Option.toList_none, List.cons_append, List.nil_append]
  refine g_if_neB (pc := 7) (tgt := 12) C dX7_feed_7 (by decide) (fun h7 => ?_) (fun h7 => ?_)
  · obtain ⟨c, hc, rfl⟩ := pm_ix (N := 9) (Int32.le_trans (by decide) h7.1) h7.2 (by decide)
    have ecc : (nI c).toNatClampNeg = c := nI_clamp (by omega)
    refine g_iload_n (pc := 12) (i := 3) (j := 2) C dX7_feed_12 rfl rfl ?_
    refine g_sipush (pc := 13) (v := 240) C dX7_feed_13 (by decide) ?_
    refine g_aload_n (pc := 16) (i := 0) (j := 0) C dX7_feed_16 rfl rfl ?_
    refine g_getR (pc := 17) C dX7_feed_17 lfX7_29 (by first | rfl | assumption) rfl ?_
    refine g_getI (pc := 20) C dX7_feed_20 lfX7_76 (by first | rfl | assumption) rfl ?_
    refine g_isub (pc := 23) C dX7_feed_23 ?_
    rw [hz, fd_240 hz240]
    refine g_icmp_le (pc := 24) (tgt := 30) C dX7_feed_24 (by decide) (fun h24 => ?_) (fun h24 => ?_)
    · have hle : z + c ≤ 240 := by have := (nI_leI (a := c) (b := 240 - z) (by omega) (by omega)).mp h24; omega
      refine g_aload_n (pc := 30) (i := 0) (j := 0) C dX7_feed_30 rfl rfl ?_
      refine g_getR (pc := 31) C dX7_feed_31 lfX7_29 (by first | rfl | assumption) rfl ?_
      refine g_lload_n (pc := 34) (i := 1) (j := 1) C dX7_feed_34 rfl rfl ?_
      refine g_iload_n (pc := 35) (i := 3) (j := 2) C dX7_feed_35 rfl rfl ?_
      refine g_callV (pc := 36) C dX7_feed_36 lmX7_79 kcX4_take (by decide) (by first | rfl | assumption) (c_X4_take hz (by omega)) rfl rfl (Nat.le_of_ble_eq_true rfl) ?_
      intro r9 sh9 I9 J9 hD9; obtain ⟨rfl, rfl, rfl, rfl⟩ := pm_Dq hD9
      try simp only [Option.toList_some, Option.toList_none, List.cons_append, List.nil_append]
      refine g_aload_n (pc := 39) (i := 0) (j := 0) C dX7_feed_39 rfl rfl ?_
      refine g_getR (pc := 40) C dX7_feed_40 lfX7_29 (by first | rfl | assumption) rfl ?_
      refine g_getI (pc := 43) C dX7_feed_43 lfX7_76 (by first | rfl | assumption) rfl ?_
      rw [pm_s_off _ _ _ _ (by decide), pm_u_at, pk_us]
      refine g_iret (pc := 46) C C2 dX7_feed_46 rfl (Nat.le_refl _) (Nat.le_refl _) ?_
      clear C C2
      exact ⟨by first | rfl | grind, rfl, by first | rfl | grind, rfl⟩
    · have hgt : 240 < z + c := by have := Nat.lt_of_not_le (fun q => h24 ((nI_leI (a := c) (b := 240 - z) (by omega) (by omega)).mpr q)); omega
      refine g_bipush (pc := 27) (v := (-2)) C dX7_feed_27 (by decide) ?_
      refine g_iret (pc := 29) C C2 dX7_feed_29 rfl (Nat.le_refl _) (Nat.le_refl _) ?_
      clear C C2
      exact ⟨by first | rfl | grind, rfl, by first | rfl | grind, rfl⟩
  · refine g_iconst (pc := 10) (v := (-1)) C dX7_feed_10 (by decide) ?_
    refine g_iret (pc := 11) C C2 dX7_feed_11 rfl (Nat.le_refl _) (Nat.le_refl _) ?_
    clear C C2
    exact ⟨by first | rfl | grind, rfl, by first | rfl | grind, rfl⟩
