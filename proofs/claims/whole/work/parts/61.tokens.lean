/-! The tape: its tokens; the class's reading of them -/
def tk_sort (v : Int32) : Nat := if 97 ≤ v ∧ v ≤ 122 then 1 else if 48 ≤ v ∧ v ≤ 57 then 2 else 3
/-- the sort of what stands at p: 0 the end, 1 a letter, 2 a digit, 3 another -/
def tk_s (f : Nat → Int32) (z p : Nat) : Nat := if p < z then tk_sort (f p) else 0
def tk_bF (f : Nat → Int32) : Nat → Nat → Nat
  | 0, p => p
  | n + 1, p => if f p = 32 then tk_bF f n (p + 1) else p
/-- behind the blanks from p on -/
def tk_b (f : Nat → Int32) (z p : Nat) : Nat := tk_bF f (z - p) p
def tk_rF (f : Nat → Int32) (s : Nat) : Nat → Nat → Nat
  | 0, p => p
  | n + 1, p => if tk_sort (f p) = s then tk_rF f s n (p + 1) else p
/-- behind the row of sort s from p on -/
def tk_r (f : Nat → Int32) (z s p : Nat) : Nat := tk_rF f s (z - p) p
/-- behind the token that begins at b -/
def tk_e (f : Nat → Int32) (z b : Nat) : Nat := if tk_s f z b = 0 then b else if tk_s f z b = 3 then b + 1 else tk_r f z (tk_s f z b) (b + 1)
/-- where the next token begins -/
def tk_x (f : Nat → Int32) (z b : Nat) : Nat := tk_b f z (tk_e f z b)
/-- the number of the first j digits from b on -/
def tk_n (f : Nat → Int32) (b : Nat) : Nat → Int32
  | 0 => 0
  | j + 1 => tk_n f b j * 10 + (f (b + j) - 48)
theorem tk_b_in {f : Nat → Int32} {z p : Nat} (h : p < z) : tk_b f z p = if f p = 32 then tk_b f z (p + 1) else p := by
  unfold tk_b
  rw [show z - p = (z - (p + 1)) + 1 by omega, tk_bF]
theorem tk_b_out {f : Nat → Int32} {z p : Nat} (h : z ≤ p) : tk_b f z p = p := by
  unfold tk_b
  rw [show z - p = 0 by omega, tk_bF]
theorem tk_b_le {f : Nat → Int32} {z p : Nat} (hp : p ≤ z) : p ≤ tk_b f z p ∧ tk_b f z p ≤ z := by
  obtain ⟨n, hn⟩ : ∃ n, z - p = n := ⟨_, rfl⟩
  induction n generalizing p with
  | zero => rw [tk_b_out (by omega)]; omega
  | succ n ih =>
    rw [tk_b_in (by omega)]
    have := ih (p := p + 1) (by omega) (by omega)
    split <;> omega
theorem tk_r_in {f : Nat → Int32} {z s p : Nat} (h : p < z) : tk_r f z s p = if tk_sort (f p) = s then tk_r f z s (p + 1) else p := by
  unfold tk_r
  rw [show z - p = (z - (p + 1)) + 1 by omega, tk_rF]
theorem tk_r_out {f : Nat → Int32} {z s p : Nat} (h : z ≤ p) : tk_r f z s p = p := by
  unfold tk_r
  rw [show z - p = 0 by omega, tk_rF]
theorem tk_r_le {f : Nat → Int32} {z s p : Nat} (hp : p ≤ z) : p ≤ tk_r f z s p ∧ tk_r f z s p ≤ z := by
  obtain ⟨n, hn⟩ : ∃ n, z - p = n := ⟨_, rfl⟩
  induction n generalizing p with
  | zero => rw [tk_r_out (by omega)]; omega
  | succ n ih =>
    rw [tk_r_in (by omega)]
    have := ih (p := p + 1) (by omega) (by omega)
    split <;> omega
theorem tk_s_0 {f : Nat → Int32} {z p : Nat} : tk_s f z p = 0 ↔ z ≤ p := by
  unfold tk_s tk_sort
  constructor
  · intro h
    grind
  · intro h
    rw [if_neg (by omega)]
theorem tk_s_le {f : Nat → Int32} {z p : Nat} : tk_s f z p ≤ 3 := by
  unfold tk_s tk_sort
  grind
theorem tk_e_le {f : Nat → Int32} {z b : Nat} (hb : b ≤ z) : b ≤ tk_e f z b ∧ tk_e f z b ≤ z := by
  unfold tk_e
  by_cases h : tk_s f z b = 0
  · rw [if_pos h]; omega
  · have hlt : b < z := Nat.lt_of_not_le (fun q => h (tk_s_0.mpr q))
    rw [if_neg h]
    have := tk_r_le (f := f) (s := tk_s f z b) (show b + 1 ≤ z by omega)
    split <;> omega
theorem tk_e_gt {f : Nat → Int32} {z b : Nat} (hb : b < z) : b < tk_e f z b := by
  unfold tk_e
  have h : ¬ tk_s f z b = 0 := fun q => by have := tk_s_0.mp q; omega
  rw [if_neg h]
  have := tk_r_le (f := f) (s := tk_s f z b) (show b + 1 ≤ z by omega)
  split <;> omega
theorem tk_x_le {f : Nat → Int32} {z b : Nat} (hb : b ≤ z) : tk_x f z b ≤ z := (tk_b_le (tk_e_le hb).2).2
theorem nI_subN {a b : Nat} (h : b ≤ a) : nI a - nI b = nI (a - b) := by
  have h1 : nI (a - b) + nI b = nI a := by rw [nI_add]; congr 1; omega
  rw [← h1]
  exact Int32.add_sub_cancel _ _
theorem pm_u_u (I : pm_I) (q k : Nat) (x y : Int32) : pm_u (pm_u I q k x) q k y = pm_u I q k y := by
  funext b j
  unfold pm_u upd
  grind
/-- the class's tape: z bytes, the token that begins at b is looked at, the fault -/
def tp (I : pm_I) (z b : Nat) (φ : Int32) : pm_I := pm_s I 46 (fun k => if k = 1 then nI z else if k = 2 then nI (tk_s (I 47) z b) else if k = 3 then nI b else if k = 4 then nI (tk_e (I 47) z b) else if k = 5 then φ else I 46 k)
theorem tp_1 {I : pm_I} {z b : Nat} {φ : Int32} : tp I z b φ 46 1 = nI z := rfl
theorem tp_2 {I : pm_I} {z b : Nat} {φ : Int32} : tp I z b φ 46 2 = nI (tk_s (I 47) z b) := rfl
theorem tp_3 {I : pm_I} {z b : Nat} {φ : Int32} : tp I z b φ 46 3 = nI b := rfl
theorem tp_4 {I : pm_I} {z b : Nat} {φ : Int32} : tp I z b φ 46 4 = nI (tk_e (I 47) z b) := rfl
theorem tp_5 {I : pm_I} {z b : Nat} {φ : Int32} : tp I z b φ 46 5 = φ := rfl
theorem tp_off {I : pm_I} {z b : Nat} {φ : Int32} {q : Nat} (h : q ≠ 46) : tp I z b φ q = I q := pm_s_off _ _ _ _ h
theorem tp_47 {I : pm_I} {z b : Nat} {φ : Int32} : tp I z b φ 47 = I 47 := tp_off (by decide)
theorem tp_tp {I : pm_I} {z z2 b b2 : Nat} {φ φ2 : Int32} : tp (tp I z b φ) z2 b2 φ2 = tp I z2 b2 φ2 := by
  unfold tp
  rw [pm_s_s]
  congr 1
  funext k
  rw [pm_s_off _ _ _ _ (show (47 : Nat) ≠ 46 by decide), pm_s_at]
  grind
theorem tp_u {I : pm_I} {z b q p : Nat} {φ v : Int32} (h1 : q ≠ 46) (h2 : q ≠ 47) : pm_u (tp I z b φ) q p v = tp (pm_u I q p v) z b φ := by
  unfold tp
  rw [pm_u_off (Ne.symm h2), pm_u_off (Ne.symm h1)]
  funext a
  by_cases e : a = q
  · subst e
    rw [pm_u_at, pm_s_off _ _ _ _ h1, pm_s_off _ _ _ _ h1, pm_u_at]
  · rw [pm_u_off e]
    by_cases e2 : a = 46
    · subst e2
      rw [pm_s_at, pm_s_at]
    · rw [pm_s_off _ _ _ _ e2, pm_s_off _ _ _ _ e2, pm_u_off e]
theorem tp_s {I : pm_I} {z b q : Nat} {φ : Int32} {g : Nat → Int32} (h1 : q ≠ 46) (h2 : q ≠ 47) : pm_s (tp I z b φ) q g = tp (pm_s I q g) z b φ := by
  unfold tp
  rw [pm_s_off I q 47 g (Ne.symm h2), pm_s_off I q 46 g (Ne.symm h1)]
  funext a
  by_cases e : a = q
  · subst e
    rw [pm_s_at, pm_s_off _ _ _ _ h1, pm_s_at]
  · rw [pm_s_off _ _ _ _ e]
    by_cases e2 : a = 46
    · subst e2
      rw [pm_s_at, pm_s_at]
    · rw [pm_s_off _ _ _ _ e2, pm_s_off _ _ _ _ e2, pm_s_off _ _ _ _ e]
theorem tp_46 {I : pm_I} {z b k : Nat} {φ v : Int32} (h1 : 1 ≤ k) (h5 : k ≤ 5) : tp (pm_u I 46 k v) z b φ = tp I z b φ := by
  unfold tp
  rw [pm_u_off (show (47 : Nat) ≠ 46 by decide), pm_u_at, pm_u_s, pm_s_s]
  congr 1
  funext j
  unfold upd
  grind
/-- the first fault counts -/
def tk_f (φ : Int32) (b : Nat) : Int32 := if φ = -3 then nI b else φ
abbrev tk_nm (f : Nat → Int32) (z b : Nat) (t : List Int32) : Prop := tk_s f z b = 1 ∧ tk_e f z b - b = t.length ∧ ∀ k, k < t.length → f (b + k) = t.getD k 0
abbrev tk_N (f : Nat → Int32) (z b : Nat) (lo hi : Int32) : Prop := tk_s f z b = 2 ∧ tk_e f z b - b ≤ 3 ∧ lo ≤ tk_n f b (tk_e f z b - b) ∧ tk_n f b (tk_e f z b - b) ≤ hi
/-- the class's cursor: where it looks, its fault -/
abbrev cs_T : Type := Nat × Int32
abbrev tps (I : pm_I) (z : Nat) (st : cs_T) : pm_I := tp I z st.1 st.2
def cs_x (f : Nat → Int32) (z : Nat) (st : cs_T) : cs_T := (tk_x f z st.1, st.2)
def cs_f (st : cs_T) : cs_T := (st.1, tk_f st.2 st.1)
def cs_num (f : Nat → Int32) (z : Nat) (lo hi : Int32) (st : cs_T) : cs_T := if tk_N f z st.1 lo hi then cs_x f z st else cs_f st
def cs_v (f : Nat → Int32) (z : Nat) (lo hi : Int32) (st : cs_T) : Int32 := if tk_N f z st.1 lo hi then tk_n f st.1 (tk_e f z st.1 - st.1) else lo
def cs_nm (f : Nat → Int32) (z : Nat) (t : List Int32) (st : cs_T) : cs_T := if tk_nm f z st.1 t then cs_x f z st else cs_f st
def cs_sg (f : Nat → Int32) (z : Nat) (st : cs_T) : cs_T := if tk_s f z st.1 = 3 ∧ f st.1 = 59 then cs_x f z st else cs_f st
/-- a part that may be told -/
def cs_pt (f : Nat → Int32) (z : Nat) (t : List Int32) (lo hi : Int32) (st : cs_T) : cs_T := if st.2 = -3 ∧ tk_nm f z st.1 t then cs_num f z lo hi (cs_x f z st) else st
def cs_pI (I : pm_I) (f : Nat → Int32) (z q p : Nat) (t : List Int32) (lo hi : Int32) (st : cs_T) : pm_I := if st.2 = -3 ∧ tk_nm f z st.1 t then pm_u I q p (cs_v f z lo hi (cs_x f z st)) else I
theorem cs_x_le {f : Nat → Int32} {z : Nat} {st : cs_T} (h : st.1 ≤ z) : (cs_x f z st).1 ≤ z := tk_x_le h
theorem cs_num_le {f : Nat → Int32} {z : Nat} {lo hi : Int32} {st : cs_T} (h : st.1 ≤ z) : (cs_num f z lo hi st).1 ≤ z := by
  unfold cs_num
  split
  · exact cs_x_le h
  · exact h
theorem cs_nm_le {f : Nat → Int32} {z : Nat} {t : List Int32} {st : cs_T} (h : st.1 ≤ z) : (cs_nm f z t st).1 ≤ z := by
  unfold cs_nm
  split
  · exact cs_x_le h
  · exact h
theorem cs_sg_le {f : Nat → Int32} {z : Nat} {st : cs_T} (h : st.1 ≤ z) : (cs_sg f z st).1 ≤ z := by
  unfold cs_sg
  split
  · exact cs_x_le h
  · exact h
theorem cs_pt_le {f : Nat → Int32} {z : Nat} {t : List Int32} {lo hi : Int32} {st : cs_T} (h : st.1 ≤ z) : (cs_pt f z t lo hi st).1 ≤ z := by
  unfold cs_pt
  split
  · exact cs_num_le (cs_x_le h)
  · exact h
theorem cs_v_in {f : Nat → Int32} {z : Nat} {lo hi : Int32} {st : cs_T} (h : lo ≤ hi) : lo ≤ cs_v f z lo hi st ∧ cs_v f z lo hi st ≤ hi := by
  unfold cs_v
  split
  · next q => exact q.2.2
  · exact ⟨Int32.le_refl _, h⟩
set_option maxHeartbeats 4000000 in
set_option maxRecDepth 100000 in
theorem c_X4_sortAt {d : Nat} {I : pm_I} {J : pm_J} {z : Nat} (hz : I 46 1 = nI z) (hz2 : z ≤ 240) {p : Nat} (hp : p ≤ 240) : pm_M d 0 0 yX4_sortAt cX4_sortAt 3 (some .int) [.ref 46, .int (nI p)] SHP I J (pm_D (some (.int (nI (tk_s (I 47) z p)))) SHP I J) := by
  refine pm_start (own := RX4) (nm := "sortAt") (by decide) rfl rfl (L := [(0, .ref 46), (1, .int (nI p))]) rfl (Nat.le_of_ble_eq_true rfl) (fun Γ C C2 => ?_)
  refine g_iload_n (pc := 0) (i := 1) (j := 1) C dX4_sortAt_0 rfl rfl ?_
  refine g_aload_n (pc := 1) (i := 0) (j := 0) C dX4_sortAt_1 rfl rfl ?_
  refine g_getI (pc := 2) C dX4_sortAt_2 lfX4_15 (by first | rfl | assumption) rfl ?_
  refine g_icmp_lt (pc := 5) (tgt := 10) C dX4_sortAt_5 (by decide) (fun h5 => ?_) (fun h5 => ?_)
  · have hlt : p < z := by rw [hz] at h5; exact (nI_ltI (by omega) (by omega)).mp h5
    refine g_aload_n (pc := 10) (i := 0) (j := 0) C dX4_sortAt_10 rfl rfl ?_
    refine g_getR (pc := 11) C dX4_sortAt_11 lfX4_9 (by first | rfl | assumption) rfl ?_
    refine g_iload_n (pc := 14) (i := 1) (j := 1) C dX4_sortAt_14 rfl rfl ?_
    refine g_bald (pc := 15) (j := p) C dX4_sortAt_15 (by first | rfl | assumption) (by decide) (by first | rfl | assumption) (by omega) ?_
    generalize ev : I 47 p = v
    refine g_istore_n (pc := 16) (i := 2) (L2 := [(0, _), (1, _), (2, _)]) C dX4_sortAt_16 rfl (by decide) rfl ?_
    refine g_iload_n (pc := 17) (i := 2) (j := 2) C dX4_sortAt_17 rfl rfl ?_
    refine g_bipush (pc := 18) (v := 97) C dX4_sortAt_18 (by decide) ?_
    refine g_icmp_lt (pc := 20) (tgt := 31) C dX4_sortAt_20 (by decide) (fun h20 => ?_) (fun h20 => ?_)
    · refine g_iload_n (pc := 31) (i := 2) (j := 2) C dX4_sortAt_31 rfl rfl ?_
      refine g_bipush (pc := 32) (v := 48) C dX4_sortAt_32 (by decide) ?_
      refine g_icmp_lt (pc := 34) (tgt := 47) C dX4_sortAt_34 (by decide) (fun h34 => ?_) (fun h34 => ?_)
      · refine g_iconst (pc := 47) (v := 3) C dX4_sortAt_47 (by decide) ?_
        refine g_iret (pc := 48) C C2 dX4_sortAt_48 rfl (Nat.le_refl _) (Nat.le_refl _) ?_
        refine ⟨?_, rfl, rfl, rfl⟩
        clear C C2
        first | (exfalso; grind; done) | rw [show tk_s (I 47) z p = 0 from tk_s_0.mpr hge] | (rw [show tk_s (I 47) z p = 1 by unfold tk_s tk_sort; rw [if_pos hlt, ev]; grind]) | (rw [show tk_s (I 47) z p = 2 by unfold tk_s tk_sort; rw [if_pos hlt, ev]; grind]) | (rw [show tk_s (I 47) z p = 3 by unfold tk_s tk_sort; rw [if_pos hlt, ev]; grind])
        all_goals rfl
      · refine g_iload_n (pc := 37) (i := 2) (j := 2) C dX4_sortAt_37 rfl rfl ?_
        refine g_bipush (pc := 38) (v := 57) C dX4_sortAt_38 (by decide) ?_
        refine g_icmp_gt (pc := 40) (tgt := 47) C dX4_sortAt_40 (by decide) (fun h40 => ?_) (fun h40 => ?_)
        · refine g_iconst (pc := 47) (v := 3) C dX4_sortAt_47 (by decide) ?_
          refine g_iret (pc := 48) C C2 dX4_sortAt_48 rfl (Nat.le_refl _) (Nat.le_refl _) ?_
          refine ⟨?_, rfl, rfl, rfl⟩
          clear C C2
          first | (exfalso; grind; done) | rw [show tk_s (I 47) z p = 0 from tk_s_0.mpr hge] | (rw [show tk_s (I 47) z p = 1 by unfold tk_s tk_sort; rw [if_pos hlt, ev]; grind]) | (rw [show tk_s (I 47) z p = 2 by unfold tk_s tk_sort; rw [if_pos hlt, ev]; grind]) | (rw [show tk_s (I 47) z p = 3 by unfold tk_s tk_sort; rw [if_pos hlt, ev]; grind])
          all_goals rfl
        · refine g_iconst (pc := 43) (v := 2) C dX4_sortAt_43 (by decide) ?_
          refine g_goto (pc := 44) (tgt := 48) C dX4_sortAt_44 (by decide) ?_
          refine g_iret (pc := 48) C C2 dX4_sortAt_48 rfl (Nat.le_refl _) (Nat.le_refl _) ?_
          refine ⟨?_, rfl, rfl, rfl⟩
          clear C C2
          first | (exfalso; grind; done) | rw [show tk_s (I 47) z p = 0 from tk_s_0.mpr hge] | (rw [show tk_s (I 47) z p = 1 by unfold tk_s tk_sort; rw [if_pos hlt, ev]; grind]) | (rw [show tk_s (I 47) z p = 2 by unfold tk_s tk_sort; rw [if_pos hlt, ev]; grind]) | (rw [show tk_s (I 47) z p = 3 by unfold tk_s tk_sort; rw [if_pos hlt, ev]; grind])
          all_goals rfl
    · refine g_iload_n (pc := 23) (i := 2) (j := 2) C dX4_sortAt_23 rfl rfl ?_
      refine g_bipush (pc := 24) (v := 122) C dX4_sortAt_24 (by decide) ?_
      refine g_icmp_gt (pc := 26) (tgt := 31) C dX4_sortAt_26 (by decide) (fun h26 => ?_) (fun h26 => ?_)
      · refine g_iload_n (pc := 31) (i := 2) (j := 2) C dX4_sortAt_31 rfl rfl ?_
        refine g_bipush (pc := 32) (v := 48) C dX4_sortAt_32 (by decide) ?_
        refine g_icmp_lt (pc := 34) (tgt := 47) C dX4_sortAt_34 (by decide) (fun h34 => ?_) (fun h34 => ?_)
        · refine g_iconst (pc := 47) (v := 3) C dX4_sortAt_47 (by decide) ?_
          refine g_iret (pc := 48) C C2 dX4_sortAt_48 rfl (Nat.le_refl _) (Nat.le_refl _) ?_
          refine ⟨?_, rfl, rfl, rfl⟩
          clear C C2
          first | (exfalso; grind; done) | rw [show tk_s (I 47) z p = 0 from tk_s_0.mpr hge] | (rw [show tk_s (I 47) z p = 1 by unfold tk_s tk_sort; rw [if_pos hlt, ev]; grind]) | (rw [show tk_s (I 47) z p = 2 by unfold tk_s tk_sort; rw [if_pos hlt, ev]; grind]) | (rw [show tk_s (I 47) z p = 3 by unfold tk_s tk_sort; rw [if_pos hlt, ev]; grind])
          all_goals rfl
        · refine g_iload_n (pc := 37) (i := 2) (j := 2) C dX4_sortAt_37 rfl rfl ?_
          refine g_bipush (pc := 38) (v := 57) C dX4_sortAt_38 (by decide) ?_
          refine g_icmp_gt (pc := 40) (tgt := 47) C dX4_sortAt_40 (by decide) (fun h40 => ?_) (fun h40 => ?_)
          · refine g_iconst (pc := 47) (v := 3) C dX4_sortAt_47 (by decide) ?_
            refine g_iret (pc := 48) C C2 dX4_sortAt_48 rfl (Nat.le_refl _) (Nat.le_refl _) ?_
            refine ⟨?_, rfl, rfl, rfl⟩
            clear C C2
            first | (exfalso; grind; done) | rw [show tk_s (I 47) z p = 0 from tk_s_0.mpr hge] | (rw [show tk_s (I 47) z p = 1 by unfold tk_s tk_sort; rw [if_pos hlt, ev]; grind]) | (rw [show tk_s (I 47) z p = 2 by unfold tk_s tk_sort; rw [if_pos hlt, ev]; grind]) | (rw [show tk_s (I 47) z p = 3 by unfold tk_s tk_sort; rw [if_pos hlt, ev]; grind])
            all_goals rfl
          · refine g_iconst (pc := 43) (v := 2) C dX4_sortAt_43 (by decide) ?_
            refine g_goto (pc := 44) (tgt := 48) C dX4_sortAt_44 (by decide) ?_
            refine g_iret (pc := 48) C C2 dX4_sortAt_48 rfl (Nat.le_refl _) (Nat.le_refl _) ?_
            refine ⟨?_, rfl, rfl, rfl⟩
            clear C C2
            first | (exfalso; grind; done) | rw [show tk_s (I 47) z p = 0 from tk_s_0.mpr hge] | (rw [show tk_s (I 47) z p = 1 by unfold tk_s tk_sort; rw [if_pos hlt, ev]; grind]) | (rw [show tk_s (I 47) z p = 2 by unfold tk_s tk_sort; rw [if_pos hlt, ev]; grind]) | (rw [show tk_s (I 47) z p = 3 by unfold tk_s tk_sort; rw [if_pos hlt, ev]; grind])
            all_goals rfl
      · refine g_iconst (pc := 29) (v := 1) C dX4_sortAt_29 (by decide) ?_
        refine g_iret (pc := 30) C C2 dX4_sortAt_30 rfl (Nat.le_refl _) (Nat.le_refl _) ?_
        refine ⟨?_, rfl, rfl, rfl⟩
        clear C C2
        first | (exfalso; grind; done) | rw [show tk_s (I 47) z p = 0 from tk_s_0.mpr hge] | (rw [show tk_s (I 47) z p = 1 by unfold tk_s tk_sort; rw [if_pos hlt, ev]; grind]) | (rw [show tk_s (I 47) z p = 2 by unfold tk_s tk_sort; rw [if_pos hlt, ev]; grind]) | (rw [show tk_s (I 47) z p = 3 by unfold tk_s tk_sort; rw [if_pos hlt, ev]; grind])
        all_goals rfl
  · have hge : z ≤ p := by rw [hz] at h5; exact Nat.le_of_not_lt (fun q => h5 (nI_lt q (by omega)))
    refine g_iconst (pc := 8) (v := 0) C dX4_sortAt_8 (by decide) ?_
    refine g_iret (pc := 9) C C2 dX4_sortAt_9 rfl (Nat.le_refl _) (Nat.le_refl _) ?_
    refine ⟨?_, rfl, rfl, rfl⟩
    clear C C2
    first | (exfalso; grind; done) | rw [show tk_s (I 47) z p = 0 from tk_s_0.mpr hge] | (rw [show tk_s (I 47) z p = 1 by unfold tk_s tk_sort; rw [if_pos hlt, ev]; grind]) | (rw [show tk_s (I 47) z p = 2 by unfold tk_s tk_sort; rw [if_pos hlt, ev]; grind]) | (rw [show tk_s (I 47) z p = 3 by unfold tk_s tk_sort; rw [if_pos hlt, ev]; grind])
    all_goals rfl

set_option maxHeartbeats 4000000 in
set_option maxRecDepth 100000 in
theorem c_X4_fail {d : Nat} {I : pm_I} {J : pm_J} {z b : Nat} {φ : Int32}  : pm_M d 0 0 yX4_fail cX4_fail 1 (none : Option Jvm.ClassFile.FieldType) [.ref 46] SHP (tp I z b φ) J (pm_D none SHP (tp I z b (tk_f φ b)) J) := by
  refine pm_start (own := RX4) (nm := "fail") (by decide) rfl rfl (L := [(0, .ref 46)]) rfl (Nat.le_of_ble_eq_true rfl) (fun Γ C C2 => ?_)
  refine g_aload_n (pc := 0) (i := 0) (j := 0) C dX4_fail_0 rfl rfl ?_
  refine g_getI (pc := 1) C dX4_fail_1 lfX4_28 (by first | rfl | assumption) rfl ?_
  rw [tp_5]
  refine g_bipush (pc := 4) (v := (-3)) C dX4_fail_4 (by decide) ?_
  refine g_icmp_ne (pc := 6) (tgt := 17) C dX4_fail_6 (by decide) (fun h6 => ?_) (fun h6 => ?_)
  · refine g_vret (pc := 17) C C2 dX4_fail_17 (Nat.le_refl _) (Nat.le_refl _) ?_
    refine ⟨rfl, rfl, ?_, rfl⟩
    first | (rw [show tk_f φ b = nI b from if_pos h6]; unfold tp; rw [pm_u_s, pm_s_at, pm_s_s]; congr 1; funext k; unfold upd; grind) | rw [show tk_f φ b = φ from if_neg h6]
  · refine g_aload_n (pc := 9) (i := 0) (j := 0) C dX4_fail_9 rfl rfl ?_
    refine g_aload_n (pc := 10) (i := 0) (j := 0) C dX4_fail_10 rfl rfl ?_
    refine g_getI (pc := 11) C dX4_fail_11 lfX4_22 (by first | rfl | assumption) rfl ?_
    rw [tp_3]
    refine g_putI (pc := 14) C dX4_fail_14 lpX4_28 rfl rfl (by first | rfl | assumption) rfl ?_
    refine g_vret (pc := 17) C C2 dX4_fail_17 (Nat.le_refl _) (Nat.le_refl _) ?_
    refine ⟨rfl, rfl, ?_, rfl⟩
    first | (rw [show tk_f φ b = nI b from if_pos h6]; unfold tp; rw [pm_u_s, pm_s_at, pm_s_s]; congr 1; funext k; unfold upd; grind) | rw [show tk_f φ b = φ from if_neg h6]

set_option maxHeartbeats 4000000 in
set_option maxRecDepth 100000 in
theorem c_X4_advance {d : Nat} {I : pm_I} {J : pm_J} {z : Nat} (hz : I 46 1 = nI z) (hz2 : z ≤ 240) {p : Nat} (hp : I 46 4 = nI p) (hpz : p ≤ z) : pm_M (d + 1) 0 0 yX4_advance cX4_advance 1 (none : Option Jvm.ClassFile.FieldType) [.ref 46] SHP I J (pm_D none SHP (tp I z (tk_b (I 47) z p) (I 46 5)) J) := by
  refine pm_start (own := RX4) (nm := "advance") (by decide) rfl rfl (L := [(0, .ref 46)]) rfl (Nat.le_of_ble_eq_true rfl) (fun Γ C C2 => ?_)
  obtain ⟨b, hb⟩ : ∃ b, tk_b (I 47) z p = b := ⟨_, rfl⟩
  have hbz := (tk_b_le (f := I 47) hpz).2
  rw [hb] at hbz
  have hfin : ∀ e, e = tk_e (I 47) z b → (pm_s I 46 (upd (upd (upd (I 46) 3 (nI b)) 2 (nI (tk_s (I 47) z b))) 4 (nI e))) = tp I z b (I 46 5) := by
    intro e he
    subst he
    unfold tp
    congr 1
    funext k
    unfold upd
    grind
  rw [hb] at C2
  have hl2 : ∀ e, e ≤ z → ((tk_s (I 47) z b = 1 ∨ tk_s (I 47) z b = 2) → b < e ∧ tk_r (I 47) z (tk_s (I 47) z b) e = tk_e (I 47) z b) → (¬ (tk_s (I 47) z b = 1 ∨ tk_s (I 47) z b = 2) → e = tk_e (I 47) z b) → pm_G Γ 0 0 75 [(0, .ref 46)] [] SHP (pm_s I 46 (upd (upd (upd (I 46) 3 (nI b)) 2 (nI (tk_s (I 47) z b))) 4 (nI e))) J := by
    refine pm_up (fun e => ((tk_s (I 47) z b = 1 ∨ tk_s (I 47) z b = 2) → b < e ∧ tk_r (I 47) z (tk_s (I 47) z b) e = tk_e (I 47) z b) → (¬ (tk_s (I 47) z b = 1 ∨ tk_s (I 47) z b = 2) → e = tk_e (I 47) z b) → pm_G Γ 0 0 75 [(0, .ref 46)] [] SHP (pm_s I 46 (upd (upd (upd (I 46) 3 (nI b)) 2 (nI (tk_s (I 47) z b))) 4 (nI e))) J) z (fun e hj ih q1 q2 => ?_)
    have g1 : (pm_s I 46 (upd (upd (upd (I 46) 3 (nI b)) 2 (nI (tk_s (I 47) z b))) 4 (nI e))) 46 1 = nI z := by rw [pm_s_at]; exact hz
    have g2 : (pm_s I 46 (upd (upd (upd (I 46) 3 (nI b)) 2 (nI (tk_s (I 47) z b))) 4 (nI e))) 46 2 = nI (tk_s (I 47) z b) := by rw [pm_s_at]; rfl
    have g4 : (pm_s I 46 (upd (upd (upd (I 46) 3 (nI b)) 2 (nI (tk_s (I 47) z b))) 4 (nI e))) 46 4 = nI e := by rw [pm_s_at]; rfl
    have g47 : (pm_s I 46 (upd (upd (upd (I 46) 3 (nI b)) 2 (nI (tk_s (I 47) z b))) 4 (nI e))) 47 = I 47 := pm_s_off _ _ _ _ (by decide)
    have s3 := tk_s_le (f := I 47) (z := z) (p := b)
    have e1 := nI_eq (a := tk_s (I 47) z b) (b := 1) (by omega) (by decide)
    have e2 := nI_eq (a := tk_s (I 47) z b) (b := 2) (by omega) (by decide)
    refine g_aload_n (pc := 75) (i := 0) (j := 0) C dX4_advance_75 rfl rfl ?_
    refine g_getI (pc := 76) C dX4_advance_76 lfX4_19 (by first | rfl | assumption) rfl ?_
    rw [g2]
    refine g_iconst (pc := 79) (v := 1) C dX4_advance_79 (by decide) ?_
    refine g_icmp_eq (pc := 80) (tgt := 91) C dX4_advance_80 (by decide) (fun h80 => ?_) (fun h80 => ?_)
    · have hs : tk_s (I 47) z b = 1 ∨ tk_s (I 47) z b = 2 := by first | exact Or.inl (e1.mp h80) | exact Or.inr (e2.mp h88)
      refine g_aload_n (pc := 91) (i := 0) (j := 0) C dX4_advance_91 rfl rfl ?_
      refine g_getI (pc := 92) C dX4_advance_92 lfX4_25 (by first | rfl | assumption) rfl ?_
      rw [g4]
      refine g_aload_n (pc := 95) (i := 0) (j := 0) C dX4_advance_95 rfl rfl ?_
      refine g_getI (pc := 96) C dX4_advance_96 lfX4_15 (by first | rfl | assumption) rfl ?_
      rw [g1]
      refine g_icmp_ge (pc := 99) (tgt := 130) C dX4_advance_99 (by decide) (fun h99 => ?_) (fun h99 => ?_)
      · refine g_vret (pc := 130) C C2 dX4_advance_130 (Nat.le_refl _) (Nat.le_refl _) ?_
        refine ⟨rfl, rfl, hfin e ?_, rfl⟩
        first | (exact q2 (fun q => by rcases q with q | q; exact h80 (e1.mpr q); exact h88 (e2.mpr q))) | (have hge : z ≤ e := (nI_leI (by omega) (by omega)).mp h99; rw [← (q1 hs).2]; exact (tk_r_out hge).symm) | (have hne : ¬ tk_s (I 47) z e = tk_s (I 47) z b := fun q => h114 (by rw [q]); rw [← (q1 hs).2, tk_r_in hlt, if_neg (fun q => hne (by rw [← q]; exact if_pos hlt))])
      · have hlt : e < z := Nat.lt_of_not_le (fun q => h99 (nI_le q (by omega)))
        refine g_aload_n (pc := 102) (i := 0) (j := 0) C dX4_advance_102 rfl rfl ?_
        refine g_aload_n (pc := 103) (i := 0) (j := 0) C dX4_advance_103 rfl rfl ?_
        refine g_getI (pc := 104) C dX4_advance_104 lfX4_25 (by first | rfl | assumption) rfl ?_
        rw [g4]
        refine g_callV (pc := 107) C dX4_advance_107 lmX4_149 kcX4_sortAt (by decide) (by first | rfl | assumption) (c_X4_sortAt (p := e) g1 hz2 (by omega)) rfl rfl (Nat.le_of_ble_eq_true rfl) ?_
        intro r9 sh9 I9 J9 hD9; obtain ⟨rfl, rfl, rfl, rfl⟩ := pm_Dq hD9; clear hD9
        try simp only [Option.toList_some, Option.toList_none, List.cons_append, List.nil_append]
        rw [g47]
        refine g_aload_n (pc := 110) (i := 0) (j := 0) C dX4_advance_110 rfl rfl ?_
        refine g_getI (pc := 111) C dX4_advance_111 lfX4_19 (by first | rfl | assumption) rfl ?_
        rw [g2]
        refine g_icmp_ne (pc := 114) (tgt := 130) C dX4_advance_114 (by decide) (fun h114 => ?_) (fun h114 => ?_)
        · refine g_vret (pc := 130) C C2 dX4_advance_130 (Nat.le_refl _) (Nat.le_refl _) ?_
          refine ⟨rfl, rfl, hfin e ?_, rfl⟩
          first | (exact q2 (fun q => by rcases q with q | q; exact h80 (e1.mpr q); exact h88 (e2.mpr q))) | (have hge : z ≤ e := (nI_leI (by omega) (by omega)).mp h99; rw [← (q1 hs).2]; exact (tk_r_out hge).symm) | (have hne : ¬ tk_s (I 47) z e = tk_s (I 47) z b := fun q => h114 (by rw [q]); rw [← (q1 hs).2, tk_r_in hlt, if_neg (fun q => hne (by rw [← q]; exact if_pos hlt))])
        · refine g_aload_n (pc := 117) (i := 0) (j := 0) C dX4_advance_117 rfl rfl ?_
          refine g_dup (pc := 118) C dX4_advance_118 rfl ?_
          refine g_getI (pc := 119) C dX4_advance_119 lfX4_25 (by first | rfl | assumption) rfl ?_
          rw [g4]
          refine g_iconst (pc := 122) (v := 1) C dX4_advance_122 (by decide) ?_
          refine g_iadd (pc := 123) C dX4_advance_123 ?_
          refine g_putI (pc := 124) C dX4_advance_124 lpX4_25 rfl rfl (by first | rfl | assumption) rfl ?_
          refine g_goto (pc := 127) (tgt := 75) C dX4_advance_127 (by decide) ?_
          have heq : tk_s (I 47) z e = tk_s (I 47) z b := (nI_eq (by have := tk_s_le (f := I 47) (z := z) (p := e); omega) (by omega)).mp h114
          have hso : tk_sort (I 47 e) = tk_s (I 47) z b := by rw [← heq]; exact (if_pos hlt).symm
          refine pm_Geq (ih hlt (fun q => ⟨by have := (q1 q).1; omega, ?_⟩) (fun q => absurd hs q)) rfl rfl ?_ rfl
          · rw [← (q1 hs).2, tk_r_in (p := e) hlt, if_pos hso]
          · rw [pm_u_s, pm_s_at, pm_s_s]
            congr 1
            funext k
            unfold upd
            rw [nI_1]
            grind
    · refine g_aload_n (pc := 83) (i := 0) (j := 0) C dX4_advance_83 rfl rfl ?_
      refine g_getI (pc := 84) C dX4_advance_84 lfX4_19 (by first | rfl | assumption) rfl ?_
      rw [g2]
      refine g_iconst (pc := 87) (v := 2) C dX4_advance_87 (by decide) ?_
      refine g_icmp_ne (pc := 88) (tgt := 130) C dX4_advance_88 (by decide) (fun h88 => ?_) (fun h88 => ?_)
      · refine g_vret (pc := 130) C C2 dX4_advance_130 (Nat.le_refl _) (Nat.le_refl _) ?_
        refine ⟨rfl, rfl, hfin e ?_, rfl⟩
        first | (exact q2 (fun q => by rcases q with q | q; exact h80 (e1.mpr q); exact h88 (e2.mpr q))) | (have hge : z ≤ e := (nI_leI (by omega) (by omega)).mp h99; rw [← (q1 hs).2]; exact (tk_r_out hge).symm) | (have hne : ¬ tk_s (I 47) z e = tk_s (I 47) z b := fun q => h114 (by rw [q]); rw [← (q1 hs).2, tk_r_in hlt, if_neg (fun q => hne (by rw [← q]; exact if_pos hlt))])
      · have hs : tk_s (I 47) z b = 1 ∨ tk_s (I 47) z b = 2 := by first | exact Or.inl (e1.mp h80) | exact Or.inr (e2.mp h88)
        refine g_aload_n (pc := 91) (i := 0) (j := 0) C dX4_advance_91 rfl rfl ?_
        refine g_getI (pc := 92) C dX4_advance_92 lfX4_25 (by first | rfl | assumption) rfl ?_
        rw [g4]
        refine g_aload_n (pc := 95) (i := 0) (j := 0) C dX4_advance_95 rfl rfl ?_
        refine g_getI (pc := 96) C dX4_advance_96 lfX4_15 (by first | rfl | assumption) rfl ?_
        rw [g1]
        refine g_icmp_ge (pc := 99) (tgt := 130) C dX4_advance_99 (by decide) (fun h99 => ?_) (fun h99 => ?_)
        · refine g_vret (pc := 130) C C2 dX4_advance_130 (Nat.le_refl _) (Nat.le_refl _) ?_
          refine ⟨rfl, rfl, hfin e ?_, rfl⟩
          first | (exact q2 (fun q => by rcases q with q | q; exact h80 (e1.mpr q); exact h88 (e2.mpr q))) | (have hge : z ≤ e := (nI_leI (by omega) (by omega)).mp h99; rw [← (q1 hs).2]; exact (tk_r_out hge).symm) | (have hne : ¬ tk_s (I 47) z e = tk_s (I 47) z b := fun q => h114 (by rw [q]); rw [← (q1 hs).2, tk_r_in hlt, if_neg (fun q => hne (by rw [← q]; exact if_pos hlt))])
        · have hlt : e < z := Nat.lt_of_not_le (fun q => h99 (nI_le q (by omega)))
          refine g_aload_n (pc := 102) (i := 0) (j := 0) C dX4_advance_102 rfl rfl ?_
          refine g_aload_n (pc := 103) (i := 0) (j := 0) C dX4_advance_103 rfl rfl ?_
          refine g_getI (pc := 104) C dX4_advance_104 lfX4_25 (by first | rfl | assumption) rfl ?_
          rw [g4]
          refine g_callV (pc := 107) C dX4_advance_107 lmX4_149 kcX4_sortAt (by decide) (by first | rfl | assumption) (c_X4_sortAt (p := e) g1 hz2 (by omega)) rfl rfl (Nat.le_of_ble_eq_true rfl) ?_
          intro r9 sh9 I9 J9 hD9; obtain ⟨rfl, rfl, rfl, rfl⟩ := pm_Dq hD9; clear hD9
          try simp only [Option.toList_some, Option.toList_none, List.cons_append, List.nil_append]
          rw [g47]
          refine g_aload_n (pc := 110) (i := 0) (j := 0) C dX4_advance_110 rfl rfl ?_
          refine g_getI (pc := 111) C dX4_advance_111 lfX4_19 (by first | rfl | assumption) rfl ?_
          rw [g2]
          refine g_icmp_ne (pc := 114) (tgt := 130) C dX4_advance_114 (by decide) (fun h114 => ?_) (fun h114 => ?_)
          · refine g_vret (pc := 130) C C2 dX4_advance_130 (Nat.le_refl _) (Nat.le_refl _) ?_
            refine ⟨rfl, rfl, hfin e ?_, rfl⟩
            first | (exact q2 (fun q => by rcases q with q | q; exact h80 (e1.mpr q); exact h88 (e2.mpr q))) | (have hge : z ≤ e := (nI_leI (by omega) (by omega)).mp h99; rw [← (q1 hs).2]; exact (tk_r_out hge).symm) | (have hne : ¬ tk_s (I 47) z e = tk_s (I 47) z b := fun q => h114 (by rw [q]); rw [← (q1 hs).2, tk_r_in hlt, if_neg (fun q => hne (by rw [← q]; exact if_pos hlt))])
          · refine g_aload_n (pc := 117) (i := 0) (j := 0) C dX4_advance_117 rfl rfl ?_
            refine g_dup (pc := 118) C dX4_advance_118 rfl ?_
            refine g_getI (pc := 119) C dX4_advance_119 lfX4_25 (by first | rfl | assumption) rfl ?_
            rw [g4]
            refine g_iconst (pc := 122) (v := 1) C dX4_advance_122 (by decide) ?_
            refine g_iadd (pc := 123) C dX4_advance_123 ?_
            refine g_putI (pc := 124) C dX4_advance_124 lpX4_25 rfl rfl (by first | rfl | assumption) rfl ?_
            refine g_goto (pc := 127) (tgt := 75) C dX4_advance_127 (by decide) ?_
            have heq : tk_s (I 47) z e = tk_s (I 47) z b := (nI_eq (by have := tk_s_le (f := I 47) (z := z) (p := e); omega) (by omega)).mp h114
            have hso : tk_sort (I 47 e) = tk_s (I 47) z b := by rw [← heq]; exact (if_pos hlt).symm
            refine pm_Geq (ih hlt (fun q => ⟨by have := (q1 q).1; omega, ?_⟩) (fun q => absurd hs q)) rfl rfl ?_ rfl
            · rw [← (q1 hs).2, tk_r_in (p := e) hlt, if_pos hso]
            · rw [pm_u_s, pm_s_at, pm_s_s]
              congr 1
              funext k
              unfold upd
              rw [nI_1]
              grind
  have hl1 : ∀ j, j ≤ z → tk_b (I 47) z j = b → pm_G Γ 0 0 8 [(0, .ref 46)] [] SHP (pm_u I 46 3 (nI j)) J := by
    refine pm_up (fun j => tk_b (I 47) z j = b → pm_G Γ 0 0 8 [(0, .ref 46)] [] SHP (pm_u I 46 3 (nI j)) J) z (fun j hj ih q1 => ?_)
    have g1 : (pm_u I 46 3 (nI j)) 46 1 = nI z := by rw [pm_u_at, pk_un (by decide)]; exact hz
    have g3 : (pm_u I 46 3 (nI j)) 46 3 = nI j := by rw [pm_u_at, pk_us]
    have g47 : (pm_u I 46 3 (nI j)) 47 = I 47 := pm_u_off (by decide)
    refine g_aload_n (pc := 8) (i := 0) (j := 0) C dX4_advance_8 rfl rfl ?_
    refine g_getI (pc := 9) C dX4_advance_9 lfX4_22 (by first | rfl | assumption) rfl ?_
    rw [g3]
    refine g_aload_n (pc := 12) (i := 0) (j := 0) C dX4_advance_12 rfl rfl ?_
    refine g_getI (pc := 13) C dX4_advance_13 lfX4_15 (by first | rfl | assumption) rfl ?_
    rw [g1]
    refine g_icmp_ge (pc := 16) (tgt := 46) C dX4_advance_16 (by decide) (fun h16 => ?_) (fun h16 => ?_)
    · have ebj : b = j := by first | (rw [← q1]; exact tk_b_out ((nI_leI (by omega) (by omega)).mp h16)) | (rw [← q1, tk_b_in hlt, if_neg h30])
      clear q1 ih
      subst ebj
      refine g_aload_n (pc := 46) (i := 0) (j := 0) C dX4_advance_46 rfl rfl ?_
      refine g_aload_n (pc := 47) (i := 0) (j := 0) C dX4_advance_47 rfl rfl ?_
      refine g_aload_n (pc := 48) (i := 0) (j := 0) C dX4_advance_48 rfl rfl ?_
      refine g_getI (pc := 49) C dX4_advance_49 lfX4_22 (by first | rfl | assumption) rfl ?_
      rw [g3]
      refine g_callV (pc := 52) C dX4_advance_52 lmX4_149 kcX4_sortAt (by decide) (by first | rfl | assumption) (c_X4_sortAt (p := b) g1 hz2 (by omega)) rfl rfl (Nat.le_of_ble_eq_true rfl) ?_
      intro r9 sh9 I9 J9 hD9; obtain ⟨rfl, rfl, rfl, rfl⟩ := pm_Dq hD9; clear hD9
      try simp only [Option.toList_some, Option.toList_none, List.cons_append, List.nil_append]
      rw [g47]
      refine g_putI (pc := 55) C dX4_advance_55 lpX4_19 rfl rfl (by first | rfl | assumption) rfl ?_
      refine g_aload_n (pc := 58) (i := 0) (j := 0) C dX4_advance_58 rfl rfl ?_
      refine g_aload_n (pc := 59) (i := 0) (j := 0) C dX4_advance_59 rfl rfl ?_
      refine g_getI (pc := 60) C dX4_advance_60 lfX4_22 (by first | rfl | assumption) rfl ?_
      rw [show pm_u (pm_u I 46 3 (nI b)) 46 2 (nI (tk_s (I 47) z b)) 46 3 = nI b by rw [pm_u_at, pk_un (by decide), pm_u_at, pk_us]]
      refine g_iconst (pc := 63) (v := 1) C dX4_advance_63 (by decide) ?_
      refine g_iadd (pc := 64) C dX4_advance_64 ?_
      refine g_aload_n (pc := 65) (i := 0) (j := 0) C dX4_advance_65 rfl rfl ?_
      refine g_getI (pc := 66) C dX4_advance_66 lfX4_15 (by first | rfl | assumption) rfl ?_
      rw [show pm_u (pm_u I 46 3 (nI b)) 46 2 (nI (tk_s (I 47) z b)) 46 1 = nI z by rw [pm_u_at, pk_un (by decide)]; exact g1]
      rw [nI_1]
      refine g_mmin (pc := 69) C dX4_advance_69 ljX4_153 lsM_min liM kcM_min (Nat.le_of_ble_eq_true rfl) ?_
      refine g_putI (pc := 72) C dX4_advance_72 lpX4_25 rfl rfl (by first | rfl | assumption) rfl ?_
      have hmin : (if nI z < nI (b + 1) then nI z else nI (b + 1)) = nI (if b < z then b + 1 else z) := by
        by_cases q : b < z
        · rw [if_pos q, if_neg (nI_nlt (by omega) (by omega))]
        · rw [if_neg q, if_pos (nI_lt (by omega) (by omega))]
      rw [hmin]
      refine pm_Geq (hl2 (if b < z then b + 1 else z) (by split <;> omega) (fun q => ?_) (fun q => ?_)) rfl rfl ?_ rfl
      · have hlt : b < z := Nat.lt_of_not_le (fun q9 => by have := tk_s_0 (f := I 47).mpr q9; omega)
        rw [if_pos hlt]
        refine ⟨by omega, ?_⟩
        unfold tk_e
        rw [if_neg (by omega), if_neg (by omega)]
      · have s3 := tk_s_le (f := I 47) (z := z) (p := b)
        by_cases hlt : b < z
        · have h0 : ¬ tk_s (I 47) z b = 0 := fun q9 => by have := tk_s_0.mp q9; omega
          rw [if_pos hlt]
          unfold tk_e
          rw [if_neg h0, if_pos (by omega)]
        · rw [if_neg hlt]
          unfold tk_e
          rw [if_pos (tk_s_0.mpr (by omega))]
          omega
      · funext a k
        unfold pm_u pm_s upd
        grind
    · have hlt : j < z := Nat.lt_of_not_le (fun q => h16 (nI_le q (by omega)))
      refine g_aload_n (pc := 19) (i := 0) (j := 0) C dX4_advance_19 rfl rfl ?_
      refine g_getR (pc := 20) C dX4_advance_20 lfX4_9 (by first | rfl | assumption) rfl ?_
      refine g_aload_n (pc := 23) (i := 0) (j := 0) C dX4_advance_23 rfl rfl ?_
      refine g_getI (pc := 24) C dX4_advance_24 lfX4_22 (by first | rfl | assumption) rfl ?_
      rw [g3]
      refine g_bald (pc := 27) (j := j) C dX4_advance_27 (by first | rfl | assumption) (by decide) (by first | rfl | assumption) (by omega) ?_
      rw [g47]
      refine g_bipush (pc := 28) (v := 32) C dX4_advance_28 (by decide) ?_
      refine g_icmp_ne (pc := 30) (tgt := 46) C dX4_advance_30 (by decide) (fun h30 => ?_) (fun h30 => ?_)
      · have ebj : b = j := by first | (rw [← q1]; exact tk_b_out ((nI_leI (by omega) (by omega)).mp h16)) | (rw [← q1, tk_b_in hlt, if_neg h30])
        clear q1 ih
        subst ebj
        refine g_aload_n (pc := 46) (i := 0) (j := 0) C dX4_advance_46 rfl rfl ?_
        refine g_aload_n (pc := 47) (i := 0) (j := 0) C dX4_advance_47 rfl rfl ?_
        refine g_aload_n (pc := 48) (i := 0) (j := 0) C dX4_advance_48 rfl rfl ?_
        refine g_getI (pc := 49) C dX4_advance_49 lfX4_22 (by first | rfl | assumption) rfl ?_
        rw [g3]
        refine g_callV (pc := 52) C dX4_advance_52 lmX4_149 kcX4_sortAt (by decide) (by first | rfl | assumption) (c_X4_sortAt (p := b) g1 hz2 (by omega)) rfl rfl (Nat.le_of_ble_eq_true rfl) ?_
        intro r9 sh9 I9 J9 hD9; obtain ⟨rfl, rfl, rfl, rfl⟩ := pm_Dq hD9; clear hD9
        try simp only [Option.toList_some, Option.toList_none, List.cons_append, List.nil_append]
        rw [g47]
        refine g_putI (pc := 55) C dX4_advance_55 lpX4_19 rfl rfl (by first | rfl | assumption) rfl ?_
        refine g_aload_n (pc := 58) (i := 0) (j := 0) C dX4_advance_58 rfl rfl ?_
        refine g_aload_n (pc := 59) (i := 0) (j := 0) C dX4_advance_59 rfl rfl ?_
        refine g_getI (pc := 60) C dX4_advance_60 lfX4_22 (by first | rfl | assumption) rfl ?_
        rw [show pm_u (pm_u I 46 3 (nI b)) 46 2 (nI (tk_s (I 47) z b)) 46 3 = nI b by rw [pm_u_at, pk_un (by decide), pm_u_at, pk_us]]
        refine g_iconst (pc := 63) (v := 1) C dX4_advance_63 (by decide) ?_
        refine g_iadd (pc := 64) C dX4_advance_64 ?_
        refine g_aload_n (pc := 65) (i := 0) (j := 0) C dX4_advance_65 rfl rfl ?_
        refine g_getI (pc := 66) C dX4_advance_66 lfX4_15 (by first | rfl | assumption) rfl ?_
        rw [show pm_u (pm_u I 46 3 (nI b)) 46 2 (nI (tk_s (I 47) z b)) 46 1 = nI z by rw [pm_u_at, pk_un (by decide)]; exact g1]
        rw [nI_1]
        refine g_mmin (pc := 69) C dX4_advance_69 ljX4_153 lsM_min liM kcM_min (Nat.le_of_ble_eq_true rfl) ?_
        refine g_putI (pc := 72) C dX4_advance_72 lpX4_25 rfl rfl (by first | rfl | assumption) rfl ?_
        have hmin : (if nI z < nI (b + 1) then nI z else nI (b + 1)) = nI (if b < z then b + 1 else z) := by
          by_cases q : b < z
          · rw [if_pos q, if_neg (nI_nlt (by omega) (by omega))]
          · rw [if_neg q, if_pos (nI_lt (by omega) (by omega))]
        rw [hmin]
        refine pm_Geq (hl2 (if b < z then b + 1 else z) (by split <;> omega) (fun q => ?_) (fun q => ?_)) rfl rfl ?_ rfl
        · have hlt : b < z := Nat.lt_of_not_le (fun q9 => by have := tk_s_0 (f := I 47).mpr q9; omega)
          rw [if_pos hlt]
          refine ⟨by omega, ?_⟩
          unfold tk_e
          rw [if_neg (by omega), if_neg (by omega)]
        · have s3 := tk_s_le (f := I 47) (z := z) (p := b)
          by_cases hlt : b < z
          · have h0 : ¬ tk_s (I 47) z b = 0 := fun q9 => by have := tk_s_0.mp q9; omega
            rw [if_pos hlt]
            unfold tk_e
            rw [if_neg h0, if_pos (by omega)]
          · rw [if_neg hlt]
            unfold tk_e
            rw [if_pos (tk_s_0.mpr (by omega))]
            omega
        · funext a k
          unfold pm_u pm_s upd
          grind
      · refine g_aload_n (pc := 33) (i := 0) (j := 0) C dX4_advance_33 rfl rfl ?_
        refine g_dup (pc := 34) C dX4_advance_34 rfl ?_
        refine g_getI (pc := 35) C dX4_advance_35 lfX4_22 (by first | rfl | assumption) rfl ?_
        rw [g3]
        refine g_iconst (pc := 38) (v := 1) C dX4_advance_38 (by decide) ?_
        refine g_iadd (pc := 39) C dX4_advance_39 ?_
        refine g_putI (pc := 40) C dX4_advance_40 lpX4_22 rfl rfl (by first | rfl | assumption) rfl ?_
        refine g_goto (pc := 43) (tgt := 8) C dX4_advance_43 (by decide) ?_
        rw [pm_u_u, nI_1]
        exact ih hlt (by rw [← q1, tk_b_in hlt, if_pos h30])
  refine g_aload_n (pc := 0) (i := 0) (j := 0) C dX4_advance_0 rfl rfl ?_
  refine g_aload_n (pc := 1) (i := 0) (j := 0) C dX4_advance_1 rfl rfl ?_
  refine g_getI (pc := 2) C dX4_advance_2 lfX4_25 (by first | rfl | assumption) rfl ?_
  rw [hp]
  refine g_putI (pc := 5) C dX4_advance_5 lpX4_22 rfl rfl (by first | rfl | assumption) rfl ?_
  exact hl1 p hpz hb

theorem c_X4_adv {d : Nat} {I : pm_I} {J : pm_J} {z b : Nat} {φ : Int32} (hz2 : z ≤ 240) (hb : b ≤ z) : pm_M (d + 1) 0 0 yX4_advance cX4_advance 1 (none : Option Jvm.ClassFile.FieldType) [.ref 46] SHP (tp I z b φ) J (pm_D none SHP (tp I z (tk_x (I 47) z b) φ) J) := by
  have h := c_X4_advance (d := d) (I := (tp I z b φ)) (J := J) (z := z) tp_1 hz2 tp_4 (tk_e_le hb).2
  rw [tp_47, tp_5, tp_tp] at h
  exact h
