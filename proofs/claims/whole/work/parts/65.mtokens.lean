/-! The model's reading of the tape: tokens, words -/
def tk_by (g : Nat → Int32) (z k : Nat) : Int32 := if k < z then g k else -1
theorem tk_by_l {g : Nat → Int32} {z k : Nat} : (97 ≤ tk_by g z k ∧ tk_by g z k ≤ 122) ↔ tk_s g z k = 1 := by
  unfold tk_by tk_s tk_sort
  by_cases h : k < z
  · rw [if_pos h, if_pos h]
    grind
  · rw [if_neg h, if_neg h]
    exact ⟨fun q => absurd q.1 (by decide), fun q => absurd q (by decide)⟩
theorem tk_by_d {g : Nat → Int32} {z k : Nat} : (48 ≤ tk_by g z k ∧ tk_by g z k ≤ 57) ↔ tk_s g z k = 2 := by
  unfold tk_by tk_s tk_sort
  by_cases h : k < z
  · rw [if_pos h, if_pos h]
    grind
  · rw [if_neg h, if_neg h]
    exact ⟨fun q => absurd q.1 (by decide), fun q => absurd q (by decide)⟩
theorem tk_by_32 {g : Nat → Int32} {z k : Nat} : tk_by g z k = 32 ↔ k < z ∧ g k = 32 := by
  unfold tk_by
  by_cases h : k < z
  · rw [if_pos h]
    exact ⟨fun q => ⟨h, q⟩, fun q => q.2⟩
  · rw [if_neg h]
    exact ⟨fun q => absurd q (by decide), fun q => absurd q.1 h⟩
theorem tk_by_0 {g : Nat → Int32} {z k : Nat} (hg : ∀ k, k < z → 0 ≤ g k) : tk_by g z k < 0 ↔ tk_s g z k = 0 := by
  rw [tk_s_0]
  unfold tk_by
  by_cases h : k < z
  · rw [if_pos h]
    exact ⟨fun q => absurd q (Int32.not_lt.mpr (hg k h)), fun q => by omega⟩
  · rw [if_neg h]
    exact ⟨fun _ => by omega, fun _ => by decide⟩
/-- the word of the first j letters -/
def tk_wd (g : Nat → Int32) (b : Nat) : Nat → Int64
  | 0 => 0
  | j + 1 => 27 * tk_wd g b j + (g (b + j)).toInt64 - 96
def tk_wv (g : Nat → Int32) (b j : Nat) : Int64 := if j ≤ 8 then tk_wd g b j else -1
def tk_nv (g : Nat → Int32) (b j : Nat) : Int32 := if j ≤ 3 then tk_n g b j else -1
def tk_w (g : Nat → Int32) (z b : Nat) : Int64 := if tk_s g z b = 1 then tk_wv g b (tk_e g z b - b) else 0
def tk_val (g : Nat → Int32) (z b : Nat) : Int32 := if tk_s g z b = 2 then tk_nv g b (tk_e g z b - b) else tk_by g z b
def mrow (R : Nat → Int32) (s b e v : Int32) : Nat → Int32 := fun k => if k = 11 then s else if k = 12 then b else if k = 13 then e else if k = 15 then v else R k
theorem mrow_11 {R : Nat → Int32} {s b e v : Int32} : mrow R s b e v 11 = s := rfl
theorem mrow_12 {R : Nat → Int32} {s b e v : Int32} : mrow R s b e v 12 = b := rfl
theorem mrow_13 {R : Nat → Int32} {s b e v : Int32} : mrow R s b e v 13 = e := rfl
theorem mrow_15 {R : Nat → Int32} {s b e v : Int32} : mrow R s b e v 15 = v := rfl
theorem mrow_10 {R : Nat → Int32} {s b e v : Int32} : mrow R s b e v 10 = R 10 := rfl
theorem mrow_u11 {R : Nat → Int32} {s b e v x : Int32} : upd (mrow R s b e v) 11 x = mrow R x b e v := by
  funext k; unfold upd mrow; grind
theorem mrow_u13 {R : Nat → Int32} {s b e v x : Int32} : upd (mrow R s b e v) 13 x = mrow R s b x v := by
  funext k; unfold upd mrow; grind
theorem mrow_u15 {R : Nat → Int32} {s b e v x : Int32} : upd (mrow R s b e v) 15 x = mrow R s b e x := by
  funext k; unfold upd mrow; grind
/-- the model at the token that begins at b; v: good -/
def mtI (I : pm_I) (z b : Nat) (v : Int32) : pm_I := pm_s I 102 (fun k => if k = 11 then nI (tk_s (I 107) z b) else if k = 12 then nI b else if k = 13 then nI (tk_e (I 107) z b) else if k = 15 then tk_val (I 107) z b else if k = 16 then v else I 102 k)
def mtJ (J : pm_J) (g : Nat → Int32) (z b : Nat) : pm_J := pm_uJ J 102 14 (tk_w g z b)
theorem mtI_end {I : pm_I} {z b : Nat} : pm_s I 102 (mrow (I 102) (nI (tk_s (I 107) z b)) (nI b) (nI (tk_e (I 107) z b)) (tk_val (I 107) z b)) = mtI I z b (I 102 16) := by
  unfold mtI mrow
  congr 1
  funext k
  grind
theorem mtI_11 {I : pm_I} {z b : Nat} {v : Int32} : mtI I z b v 102 11 = nI (tk_s (I 107) z b) := rfl
theorem mtI_12 {I : pm_I} {z b : Nat} {v : Int32} : mtI I z b v 102 12 = nI b := rfl
theorem mtI_13 {I : pm_I} {z b : Nat} {v : Int32} : mtI I z b v 102 13 = nI (tk_e (I 107) z b) := rfl
theorem mtI_15 {I : pm_I} {z b : Nat} {v : Int32} : mtI I z b v 102 15 = tk_val (I 107) z b := rfl
theorem mtI_16 {I : pm_I} {z b : Nat} {v : Int32} : mtI I z b v 102 16 = v := rfl
theorem mtI_10 {I : pm_I} {z b : Nat} {v : Int32} : mtI I z b v 102 10 = I 102 10 := rfl
theorem mtI_17 {I : pm_I} {z b : Nat} {v : Int32} : mtI I z b v 102 17 = I 102 17 := rfl
theorem mtI_off {I : pm_I} {z b q : Nat} {v : Int32} (h : q ≠ 102) : mtI I z b v q = I q := pm_s_off _ _ _ _ h
theorem mtI_107 {I : pm_I} {z b : Nat} {v : Int32} : mtI I z b v 107 = I 107 := mtI_off (by decide)
theorem mtI_mtI {I : pm_I} {z z2 b b2 : Nat} {v v2 : Int32} : mtI (mtI I z b v) z2 b2 v2 = mtI I z2 b2 v2 := by
  unfold mtI
  rw [pm_s_s]
  congr 1
  funext k
  rw [pm_s_off _ _ _ _ (show (107 : Nat) ≠ 102 by decide), pm_s_at]
  grind
theorem mtI_u {I : pm_I} {z b q p : Nat} {v x : Int32} (h1 : q ≠ 102) (h2 : q ≠ 107) : pm_u (mtI I z b v) q p x = mtI (pm_u I q p x) z b v := by
  unfold mtI
  rw [pm_u_off (Ne.symm h2), pm_u_off (Ne.symm h1)]
  funext a
  by_cases e : a = q
  · subst e
    rw [pm_u_at, pm_s_off _ _ _ _ h1, pm_s_off _ _ _ _ h1, pm_u_at]
  · rw [pm_u_off e]
    by_cases e2 : a = 102
    · subst e2
      rw [pm_s_at, pm_s_at]
    · rw [pm_s_off _ _ _ _ e2, pm_s_off _ _ _ _ e2, pm_u_off e]
theorem mtI_u16 {I : pm_I} {z b : Nat} {v x : Int32} : pm_u (mtI I z b v) 102 16 x = mtI I z b x := by
  unfold mtI
  rw [pm_u_s, pm_s_s, pm_s_at]
  congr 1
  funext k
  unfold upd
  grind
theorem mtI_uo {I : pm_I} {z b k : Nat} {v x : Int32} (h : k = 17 ∨ k = 18) : pm_u (mtI I z b v) 102 k x = mtI (pm_u I 102 k x) z b v := by
  unfold mtI
  rw [pm_u_off (show (107 : Nat) ≠ 102 by decide), pm_u_at, pm_u_s, pm_u_s, pm_s_s, pm_s_s, pm_s_at]
  congr 1
  funext j
  unfold upd
  rcases h with rfl | rfl <;> grind
theorem pm_uJ_uJ (J : pm_J) (q k : Nat) (x y : Int64) : pm_uJ (pm_uJ J q k x) q k y = pm_uJ J q k y := by
  funext b j
  unfold pm_uJ vp_updL
  grind
theorem mtJ_mtJ {J : pm_J} {g : Nat → Int32} {z b b2 : Nat} : mtJ (mtJ J g z b) g z b2 = mtJ J g z b2 := pm_uJ_uJ _ _ _ _ _
theorem mtJ_14 {J : pm_J} {g : Nat → Int32} {z b : Nat} : mtJ J g z b 102 14 = tk_w g z b := by
  unfold mtJ
  rw [pm_uJ_at]
  exact if_pos rfl
/-- a word as a number, letters from 1 on -/
def tk_wn (d : Nat → Nat) : Nat → Nat
  | 0 => 0
  | j + 1 => 27 * tk_wn d j + d j
theorem tk_wn_lt {d : Nat → Nat} : ∀ {j : Nat}, (∀ i, i < j → d i ≤ 26) → tk_wn d j < 27 ^ j
  | 0, _ => Nat.zero_lt_one
  | j + 1, h => by
    have h1 := tk_wn_lt (d := d) (j := j) (fun i hi => h i (by omega))
    have h2 := h j (by omega)
    show 27 * tk_wn d j + d j < 27 ^ (j + 1)
    rw [Nat.pow_succ]
    omega
theorem tk_wn_inj {d e : Nat → Nat} : ∀ {l m : Nat}, (∀ i, i < l → 1 ≤ d i ∧ d i ≤ 26) → (∀ i, i < m → 1 ≤ e i ∧ e i ≤ 26) → tk_wn d l = tk_wn e m → l = m ∧ ∀ i, i < l → d i = e i
  | 0, 0, _, _, _ => ⟨rfl, fun i hi => absurd hi (Nat.not_lt_zero i)⟩
  | 0, m + 1, _, he, h => by
    have h1 := he m (by omega)
    have h2 : (0 : Nat) = 27 * tk_wn e m + e m := h
    omega
  | l + 1, 0, hd, _, h => by
    have h1 := hd l (by omega)
    have h2 : 27 * tk_wn d l + d l = 0 := h
    omega
  | l + 1, m + 1, hd, he, h => by
    have h1 := hd l (by omega)
    have h2 := he m (by omega)
    have h3 : 27 * tk_wn d l + d l = 27 * tk_wn e m + e m := h
    have h4 : d l = e m := by omega
    obtain ⟨h5, h6⟩ := tk_wn_inj (l := l) (m := m) (fun i hi => hd i (by omega)) (fun i hi => he i (by omega)) (by omega)
    subst h5
    refine ⟨rfl, fun i hi => ?_⟩
    by_cases e : i = l
    · subst e; exact h4
    · exact h6 i (by omega)
/-- the letter at p, from 1 on -/
def tk_lt (g : Nat → Int32) (p : Nat) : Nat := (g p).toNatClampNeg - 96
theorem tk_sort_1 {v : Int32} (h : tk_sort v = 1) : ∃ c, 97 ≤ c ∧ c ≤ 122 ∧ v = nI c := by
  have h2 : 97 ≤ v ∧ v ≤ 122 := by
    unfold tk_sort at h
    grind
  obtain ⟨c, hc, rfl⟩ := pm_ix (N := 123) (Int32.le_trans (by decide) h2.1) h2.2 (by decide)
  exact ⟨c, (nI_leI (a := 97) (b := c) (by decide) (by omega)).mp h2.1, by omega, rfl⟩
theorem tk_wd_n {g : Nat → Int32} {b : Nat} : ∀ {j : Nat}, j ≤ 8 → (∀ i, i < j → tk_sort (g (b + i)) = 1) → tk_wd g b j = Int64.ofNat (tk_wn (fun i => tk_lt g (b + i)) j)
  | 0, _, _ => rfl
  | j + 1, h8, h => by
    obtain ⟨c, c1, c2, ec⟩ := tk_sort_1 (h j (by omega))
    have ih := tk_wd_n (g := g) (b := b) (j := j) (by omega) (fun i hi => h i (by omega))
    have e1 : tk_lt g (b + j) = c - 96 := by unfold tk_lt; rw [ec, nI_clamp (by omega)]
    have e2 : (nI c).toInt64 = Int64.ofNat (c - 96) + 96 := by
      rw [nI_l (by omega)]
      show Int64.ofNat c = Int64.ofNat (c - 96) + Int64.ofNat 96
      rw [← Int64.ofNat_add]
      congr 1
      omega
    show 27 * tk_wd g b j + (g (b + j)).toInt64 - 96 = Int64.ofNat (27 * tk_wn (fun i => tk_lt g (b + i)) j + tk_lt g (b + j))
    rw [ih, ec, e2, e1, Int64.ofNat_add, Int64.ofNat_mul]
    show 27 * Int64.ofNat (tk_wn (fun i => tk_lt g (b + i)) j) + (Int64.ofNat (c - 96) + 96) - 96 = 27 * Int64.ofNat (tk_wn (fun i => tk_lt g (b + i)) j) + Int64.ofNat (c - 96)
    rw [← Int64.add_assoc, Int64.add_sub_cancel]
theorem tk_r_run {f : Nat → Int32} {z s p : Nat} (hp : p ≤ z) : ∀ i, p ≤ i → i < tk_r f z s p → tk_sort (f i) = s := by
  obtain ⟨n, hn⟩ : ∃ n, z - p = n := ⟨_, rfl⟩
  induction n generalizing p with
  | zero =>
    intro i h1 h2
    rw [tk_r_out (by omega)] at h2
    omega
  | succ n ih =>
    intro i h1 h2
    rw [tk_r_in (by omega)] at h2
    split at h2
    · next q =>
      by_cases e : i = p
      · subst e; exact q
      · exact ih (p := p + 1) (by omega) (by omega) i (by omega) h2
    · omega
/-- all of a name is letters, of a number digits -/
theorem tk_run {f : Nat → Int32} {z b : Nat} (h : tk_s f z b = 1 ∨ tk_s f z b = 2) : ∀ i, i < tk_e f z b - b → tk_sort (f (b + i)) = tk_s f z b ∧ b + i < z := by
  intro i hi
  have hb : b < z := tk_N_lt (f := f) (by omega)
  have he := tk_e_le (f := f) (z := z) (b := b) (by omega)
  refine ⟨?_, by omega⟩
  by_cases e : i = 0
  · subst e
    exact (if_pos hb).symm
  · have h2 : tk_e f z b = tk_r f z (tk_s f z b) (b + 1) := by
      unfold tk_e
      rw [if_neg (by omega), if_neg (by omega)]
    exact tk_r_run (z := z) (p := b + 1) (by omega) (b + i) (by omega) (by omega)
/-- the words by their places -/
def mw (i : Nat) : Int64 := match i with
  | 0 => 795814727
  | 1 => 380873
  | 2 => 6476758
  | 3 => 6223770571
  | 4 => 47329743
  | 5 => 1095881
  | 6 => 257
  | 7 => 5149
  | 8 => 375088
  | 9 => 365666
  | 10 => 1420852
  | 11 => 194935564
  | 12 => 453937
  | 13 => 70312
  | _ => 5146
theorem mw_n : ∀ i, i < 15 → mw i = Int64.ofNat (tk_wn (fun k => ((pm_tx i).2.2.getD k 0).toNatClampNeg - 96) (pm_tx i).2.2.length) := by decide +kernel
theorem mw_lt : ∀ i, i < 15 → tk_wn (fun k => ((pm_tx i).2.2.getD k 0).toNatClampNeg - 96) (pm_tx i).2.2.length < 27 ^ 8 := by decide +kernel
theorem mw_ne : ∀ i, i < 15 → ¬ (-1 : Int64) = mw i := by decide +kernel
theorem mw_tx : ∀ i, i < 15 → ∀ k, k < (pm_tx i).2.2.length → 97 ≤ ((pm_tx i).2.2.getD k 0).toNatClampNeg ∧ ((pm_tx i).2.2.getD k 0).toNatClampNeg ≤ 122 ∧ (pm_tx i).2.2.getD k 0 = nI ((pm_tx i).2.2.getD k 0).toNatClampNeg := by decide +kernel
theorem i64_inj {a b : Nat} (ha : a < 2 ^ 63) (hb : b < 2 ^ 63) (h : Int64.ofNat a = Int64.ofNat b) : a = b := by
  have h1 := congrArg Int64.toInt h
  rw [Int64.toInt_ofNat_of_lt ha, Int64.toInt_ofNat_of_lt hb] at h1
  omega
theorem i64_inj8 {a b : Nat} (ha : a < 27 ^ 8) (hb : b < 27 ^ 8) (h : Int64.ofNat a = Int64.ofNat b) : a = b := i64_inj (Nat.lt_of_lt_of_le ha (Nat.le_of_ble_eq_true rfl)) (Nat.lt_of_lt_of_le hb (Nat.le_of_ble_eq_true rfl)) h
theorem tk_dig {g : Nat → Int32} {z b : Nat} (h1 : tk_s g z b = 1) : ∀ k, k < tk_e g z b - b → 1 ≤ tk_lt g (b + k) ∧ tk_lt g (b + k) ≤ 26 := by
  intro k hk
  obtain ⟨c, c1, c2, ec⟩ := tk_sort_1 (((tk_run (Or.inl h1)) k hk).1.trans h1)
  have e : tk_lt g (b + k) = c - 96 := by
    unfold tk_lt
    rw [ec, nI_clamp (by omega)]
  rw [e]
  omega
theorem tk_word_a {g : Nat → Int32} {z b i : Nat} (hi : i < 15) (h1 : tk_s g z b = 1) (h8 : tk_e g z b - b ≤ 8) (h2 : tk_wn (fun k => tk_lt g (b + k)) (tk_e g z b - b) = tk_wn (fun k => ((pm_tx i).2.2.getD k 0).toNatClampNeg - 96) (pm_tx i).2.2.length) : tk_nm g z b (pm_tx i).2.2 := by
  have hm : ∀ k, k < (pm_tx i).2.2.length → 1 ≤ ((pm_tx i).2.2.getD k 0).toNatClampNeg - 96 ∧ ((pm_tx i).2.2.getD k 0).toNatClampNeg - 96 ≤ 26 := fun k hk => by
    have h := mw_tx i hi k hk
    omega
  obtain ⟨e1, e2⟩ := tk_wn_inj (tk_dig h1) hm h2
  refine ⟨h1, e1, fun k hk => ?_⟩
  have e3 := e2 k (by omega)
  obtain ⟨c, c1, c2, ec⟩ := tk_sort_1 (((tk_run (Or.inl h1)) k (by omega)).1.trans h1)
  obtain ⟨t1, t2, t3⟩ := mw_tx i hi k hk
  have e4 : tk_lt g (b + k) = c - 96 := by
    unfold tk_lt
    rw [ec, nI_clamp (by omega)]
  have e5 : c = ((pm_tx i).2.2.getD k 0).toNatClampNeg := by
    have e6 : tk_lt g (b + k) = ((pm_tx i).2.2.getD k 0).toNatClampNeg - 96 := e3
    omega
  rw [ec, e5]
  exact t3.symm
theorem tk_word_b {g : Nat → Int32} {z b i : Nat} (hi : i < 15) (h1 : tk_s g z b = 1) (h8 : tk_e g z b - b ≤ 8) (h2 : tk_w g z b = mw i) : tk_wn (fun k => tk_lt g (b + k)) (tk_e g z b - b) = tk_wn (fun k => ((pm_tx i).2.2.getD k 0).toNatClampNeg - 96) (pm_tx i).2.2.length := by
  have h3 : tk_w g z b = Int64.ofNat (tk_wn (fun k => tk_lt g (b + k)) (tk_e g z b - b)) := by
    unfold tk_w tk_wv
    rw [if_pos h1, if_pos h8]
    exact tk_wd_n h8 (fun k hk => by rw [(tk_run (Or.inl h1) k hk).1, h1])
  have h4 := (h3.symm.trans h2).trans (mw_n i hi)
  have hl := tk_wn_lt (d := fun k => tk_lt g (b + k)) (j := tk_e g z b - b) (fun k hk => (tk_dig h1 k hk).2)
  have hl2 := Nat.lt_of_lt_of_le hl (Nat.pow_le_pow_right (show 27 > 0 by decide) h8)
  exact i64_inj8 hl2 (mw_lt i hi) h4
theorem tk_word_c {g : Nat → Int32} {z b i : Nat} (hi : i < 15) (h : tk_nm g z b (pm_tx i).2.2) : tk_s g z b = 1 ∧ tk_w g z b = mw i := by
  have h7 := tx_len_le i hi
  obtain ⟨h1, h2, h3⟩ := h
  have h8 : tk_e g z b - b ≤ 8 := by omega
  refine ⟨h1, ?_⟩
  have h4 : tk_w g z b = Int64.ofNat (tk_wn (fun k => tk_lt g (b + k)) (tk_e g z b - b)) := by
    unfold tk_w tk_wv
    rw [if_pos h1, if_pos h8]
    exact tk_wd_n h8 (fun k hk => by rw [(tk_run (Or.inl h1) k hk).1, h1])
  have key : ∀ m, m ≤ (pm_tx i).2.2.length → tk_wn (fun k => tk_lt g (b + k)) m = tk_wn (fun k => ((pm_tx i).2.2.getD k 0).toNatClampNeg - 96) m := by
    intro m
    induction m with
    | zero => intro _; exact (show tk_wn (fun k => tk_lt g (b + k)) 0 = 0 from rfl).trans (show 0 = tk_wn (fun k => ((pm_tx i).2.2.getD k 0).toNatClampNeg - 96) 0 from rfl)
    | succ m ih =>
      intro hm
      have e6 := ih (by omega)
      have e7 : tk_lt g (b + m) = ((pm_tx i).2.2.getD m 0).toNatClampNeg - 96 := by
        unfold tk_lt
        rw [h3 m (by omega)]
      show 27 * tk_wn (fun k => tk_lt g (b + k)) m + tk_lt g (b + m) = 27 * tk_wn (fun k => ((pm_tx i).2.2.getD k 0).toNatClampNeg - 96) m + (((pm_tx i).2.2.getD m 0).toNatClampNeg - 96)
      omega
  have h6 : tk_wn (fun k => tk_lt g (b + k)) (tk_e g z b - b) = tk_wn (fun k => ((pm_tx i).2.2.getD k 0).toNatClampNeg - 96) (pm_tx i).2.2.length := by
    rw [h2]
    exact key _ (Nat.le_refl _)
  exact h4.trans ((congrArg Int64.ofNat h6).trans (mw_n i hi).symm)
/-- the model's word is the class's name -/
theorem tk_word {g : Nat → Int32} {z b i : Nat} (hi : i < 15) : (tk_s g z b = 1 ∧ tk_w g z b = mw i) ↔ tk_nm g z b (pm_tx i).2.2 := by
  refine ⟨fun h => ?_, tk_word_c hi⟩
  obtain ⟨h1, h2⟩ := h
  by_cases h8 : tk_e g z b - b ≤ 8
  · exact tk_word_a hi h1 h8 (tk_word_b hi h1 h8 h2)
  · have h3 : tk_w g z b = -1 := by
      unfold tk_w tk_wv
      rw [if_pos h1, if_neg h8]
    exact absurd (h3.symm.trans h2) (mw_ne i hi)
