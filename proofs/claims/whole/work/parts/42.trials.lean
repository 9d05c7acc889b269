/-! The model's trials: who touches, in the class's words -/
theorem mo_pop_add : ∀ k, k < 6 → ∀ s, s < 2 ^ k → mo_pop (s + 2 ^ k) = mo_pop s + 1 := by decide +kernel
theorem mo_pop_0 : ∀ s, s < 64 → mo_pop s = 0 → s = 0 := by decide +kernel
theorem bl_near_sym {x y g : Int32} : bl_near x y g ↔ bl_near y x g := by
  unfold bl_near
  rw [bl_abs_sw]
  constructor <;> exact fun h => ⟨h.2.1, h.1, h.2.2⟩
theorem mo_ts {B2 B Hf : Nat → Nat → Int32} {g : Int32} {i k n : Nat} (hi : i < n) (hC : ∀ j, j < n → j ≠ i → B2 j 2 = B j 2) (hH : ∀ j, j < n → B2 j 3 = Hf j k) : ∀ m, m ≤ n → m ≤ 6 → ∃ s, s < 2 ^ m ∧ bl_tset B2 g i m = nI s ∧ mo_pop s = tr_ti B Hf g i (B2 i 2) k m
  | 0, _, _ => ⟨0, by decide, rfl, rfl⟩
  | m + 1, hm, h6 => by
    obtain ⟨s, h1, h2, h3⟩ := mo_ts (g := g) hi hC hH m (by omega) (by omega)
    have h2m : 2 ^ (m + 1) = 2 ^ m * 2 := Nat.pow_succ ..
    unfold bl_tset tr_ti
    by_cases q : i ≠ m ∧ bl_touch (B2 i) (B2 m) g
    · rw [if_pos q, if_pos ⟨fun z => q.1 z.symm, by rw [← hC m (by omega) (fun z => q.1 z.symm)]; exact q.2.1.symm, by rw [← hH i hi, ← hH m (by omega)]; exact q.2.2⟩]
      exact ⟨s + 2 ^ m, by omega, by rw [h2]; exact bl_or_bit m (by omega) s h1, by rw [mo_pop_add m (by omega) s h1, h3]⟩
    · rw [if_neg q, if_neg (fun z => q ⟨fun y => z.1 y.symm, by rw [hC m (by omega) z.1]; exact z.2.1.symm, by rw [hH i hi, hH m (by omega)]; exact z.2.2⟩)]
      exact ⟨s, by omega, h2, h3⟩
theorem mo_ts64 {B2 B Hf : Nat → Nat → Int32} {g : Int32} {i k n : Nat} (hi : i < n) (h6 : n ≤ 6) (hC : ∀ j, j < n → j ≠ i → B2 j 2 = B j 2) (hH : ∀ j, j < n → B2 j 3 = Hf j k) : ∃ s, s < 64 ∧ bl_tset B2 g i n = nI s ∧ mo_pop s = tr_ti B Hf g i (B2 i 2) k n := by
  obtain ⟨s, h1, h2⟩ := mo_ts (g := g) hi hC hH n (Nat.le_refl _) h6
  have h3 : 2 ^ n ≤ 2 ^ 6 := Nat.pow_le_pow_right (by decide) h6
  exact ⟨s, by have : 2 ^ 6 = 64 := by decide
               omega, h2⟩
theorem mo_ts0 {B2 B Hf : Nat → Nat → Int32} {g : Int32} {i k n : Nat} (hi : i < n) (h6 : n ≤ 6) (hC : ∀ j, j < n → j ≠ i → B2 j 2 = B j 2) (hH : ∀ j, j < n → B2 j 3 = Hf j k) : bl_tset B2 g i n = 0 ↔ tr_ti B Hf g i (B2 i 2) k n = 0 := by
  obtain ⟨s, h1, h2, h3⟩ := mo_ts64 (g := g) hi h6 hC hH
  rw [h2, ← h3]
  constructor
  · intro q
    have e : s = 0 := (nI_eq (b := 0) (by omega) (by decide)).mp q
    rw [e]
    rfl
  · intro q
    rw [mo_pop_0 s h1 q]
    rfl
theorem mo_ends {B2 B Hf : Nat → Nat → Int32} {g : Int32} {k n : Nat} (h6 : n ≤ 6) (hC : ∀ j, j < n → B2 j 2 = B j 2) (hH : ∀ j, j < n → B2 j 3 = Hf j k) : ∀ m, m ≤ n → bl_ends B2 g n m = nI (tr_s1 B Hf g n k m)
  | 0, _ => rfl
  | m + 1, hm => by
    obtain ⟨s, h1, h2, h3⟩ := mo_ts64 (B2 := B2) (B := B) (Hf := Hf) (g := g) (i := m) (k := k) (n := n) (by omega) h6 (fun j hj _ => hC j hj) hH
    unfold bl_ends tr_s1
    rw [mo_ends h6 hC hH m (by omega), h2, bl_bc_pop s h1, h3, nI_add, hC m (by omega)]
/-- a sum over a square, both ways alike, is even -/
def ev_r (r : Nat → Nat → Nat) (i : Nat) : Nat → Nat
  | 0 => 0
  | j + 1 => ev_r r i j + r i j
def ev_s (r : Nat → Nat → Nat) (m : Nat) : Nat → Nat
  | 0 => 0
  | i + 1 => ev_s r m i + ev_r r i m
theorem ev_col {r : Nat → Nat → Nat} {m : Nat} (hs : ∀ i j, r i j = r j i) : ∀ k, ev_s r (m + 1) k = ev_s r m k + ev_r r m k
  | 0 => rfl
  | k + 1 => by
    show ev_s r (m + 1) k + (ev_r r k m + r k m) = (ev_s r m k + ev_r r k m) + (ev_r r m k + r m k)
    rw [ev_col hs k, hs k m]
    omega
theorem ev_even {r : Nat → Nat → Nat} (hs : ∀ i j, r i j = r j i) (hz : ∀ i, r i i = 0) : ∀ n, ev_s r n n % 2 = 0
  | 0 => rfl
  | n + 1 => by
    have h1 := ev_even hs hz n
    have h2 : ev_s r (n + 1) (n + 1) = ev_s r (n + 1) n + (ev_r r n n + r n n) := rfl
    rw [h2, ev_col hs n, hz n]
    omega
def ev_R (B Hf : Nat → Nat → Int32) (g : Int32) (k i j : Nat) : Nat := if j ≠ i ∧ B j 2 = B i 2 ∧ bl_near (Hf i k) (Hf j k) g then 1 else 0
theorem ev_R_sym {B Hf : Nat → Nat → Int32} {g : Int32} {k : Nat} (i j : Nat) : ev_R B Hf g k i j = ev_R B Hf g k j i := by
  unfold ev_R
  have h := bl_near_sym (x := Hf i k) (y := Hf j k) (g := g)
  by_cases q : j ≠ i ∧ B j 2 = B i 2 ∧ bl_near (Hf i k) (Hf j k) g
  · rw [if_pos q, if_pos ⟨fun z => q.1 z.symm, q.2.1.symm, h.mp q.2.2⟩]
  · rw [if_neg q, if_neg (fun z => q ⟨fun y => z.1 y.symm, z.2.1.symm, h.mpr z.2.2⟩)]
theorem ev_ti {B Hf : Nat → Nat → Int32} {g : Int32} {k i : Nat} : ∀ n, tr_ti B Hf g i (B i 2) k n = ev_r (ev_R B Hf g k) i n
  | 0 => rfl
  | n + 1 => by
    unfold tr_ti ev_r
    rw [ev_ti n]
    unfold ev_R
    split <;> rfl
theorem ev_s1 {B Hf : Nat → Nat → Int32} {g : Int32} {k n : Nat} : ∀ m, tr_s1 B Hf g n k m = ev_s (ev_R B Hf g k) n m
  | 0 => rfl
  | m + 1 => by
    unfold tr_s1 ev_s
    rw [ev_s1 m, ev_ti n]
theorem tr_s1_even {B Hf : Nat → Nat → Int32} {g : Int32} {k n : Nat} : tr_s1 B Hf g n k n % 2 = 0 := by
  rw [ev_s1]
  exact ev_even ev_R_sym (fun i => if_neg (fun z => z.1 rfl)) n
theorem tr_s2_even {B Hf : Nat → Nat → Int32} {g : Int32} {n : Nat} : ∀ m, tr_s2 B Hf g n m % 2 = 0
  | 0 => rfl
  | m + 1 => by
    have h1 := tr_s2_even (B := B) (Hf := Hf) (g := g) (n := n) m
    have h2 := tr_s1_even (B := B) (Hf := Hf) (g := g) (k := m + 1) (n := n)
    unfold tr_s2
    omega
theorem tr_s1_le {B Hf : Nat → Nat → Int32} {g : Int32} {k n : Nat} : ∀ m, tr_s1 B Hf g n k m ≤ m * n
  | 0 => Nat.zero_le _
  | m + 1 => by
    have h1 := tr_s1_le (B := B) (Hf := Hf) (g := g) (k := k) (n := n) m
    have h2 := tr_ti_le (B := B) (Hf := Hf) (gap := g) (i := m) (c := B m 2) (k := k) n
    unfold tr_s1
    rw [Nat.succ_mul]
    omega
theorem tr_s2_le {B Hf : Nat → Nat → Int32} {g : Int32} {n : Nat} (h6 : n ≤ 6) : ∀ m, tr_s2 B Hf g n m ≤ m * 36
  | 0 => Nat.zero_le _
  | m + 1 => by
    have h1 := tr_s2_le (B := B) (Hf := Hf) (g := g) h6 m
    have h2 := tr_s1_le (B := B) (Hf := Hf) (g := g) (k := m + 1) (n := n) n
    have h3 : n * n ≤ 6 * 6 := Nat.mul_le_mul h6 h6
    unfold tr_s2
    omega
theorem tr_s2_half {B Hf : Nat → Nat → Int32} {g : Int32} {n m : Nat} (h6 : n ≤ 6) : nI (tr_s2 B Hf g n m / 2) + nI (tr_s1 B Hf g n (m + 1) n) / 2 = nI (tr_s2 B Hf g n (m + 1) / 2) := by
  have h1 := tr_s2_even (B := B) (Hf := Hf) (g := g) (n := n) m
  have h2 := tr_s1_even (B := B) (Hf := Hf) (g := g) (k := m + 1) (n := n)
  have h3 := tr_s1_le (B := B) (Hf := Hf) (g := g) (k := m + 1) (n := n) n
  have h4 : n * n ≤ 6 * 6 := Nat.mul_le_mul h6 h6
  rw [show (2 : Int32) = nI 2 from rfl, pk_div (by omega) (by decide) (by decide), nI_add]
  congr 1
  rw [show tr_s2 B Hf g n (m + 1) = tr_s2 B Hf g n m + tr_s1 B Hf g n (m + 1) n from rfl]
  omega
theorem tr_s1_0 {B Hf : Nat → Nat → Int32} {g : Int32} {k n : Nat} : ∀ m, tr_s1 B Hf g n k m = 0 ↔ ∀ i, i < m → tr_ti B Hf g i (B i 2) k n = 0
  | 0 => ⟨fun _ i hi => by omega, fun _ => rfl⟩
  | m + 1 => by
    have ih := tr_s1_0 (B := B) (Hf := Hf) (g := g) (k := k) (n := n) m
    unfold tr_s1
    constructor
    · intro h i hi
      by_cases e : i = m
      · subst e; omega
      · exact ih.mp (by omega) i (by omega)
    · intro h
      have h1 := ih.mpr (fun i hi => h i (by omega))
      have h2 := h m (by omega)
      omega
theorem tr_ti_0 {B Hf : Nat → Nat → Int32} {g : Int32} {k i : Nat} {c : Int32} : ∀ n, tr_ti B Hf g i c k n = 0 ↔ ∀ j, j < n → ¬ (j ≠ i ∧ B j 2 = c ∧ bl_near (Hf i k) (Hf j k) g)
  | 0 => ⟨fun _ i hi => by omega, fun _ => rfl⟩
  | n + 1 => by
    have ih := tr_ti_0 (B := B) (Hf := Hf) (g := g) (k := k) (i := i) (c := c) n
    unfold tr_ti
    by_cases q : n ≠ i ∧ B n 2 = c ∧ bl_near (Hf i k) (Hf n k) g
    · rw [if_pos q]
      exact ⟨fun h => by omega, fun h => absurd q (h n (by omega))⟩
    · rw [if_neg q, ih]
      constructor
      · intro h j hj
        by_cases e : j = n
        · subst e; exact q
        · exact h j (by omega)
      · exact fun h j hj => h j (by omega)
theorem tr_sj_none {B Hf : Nat → Nat → Int32} {g : Int32} {k n i : Nat} : ∀ r, r ≤ n → (tr_sj B Hf g k n i r = none ↔ ∀ j, n - r ≤ j → j < n → ¬ (B i 2 = B j 2 ∧ bl_near (Hf i k) (Hf j k) g))
  | 0, _ => ⟨fun _ j h1 h2 => by omega, fun _ => rfl⟩
  | r + 1, hr => by
    have ih := tr_sj_none (B := B) (Hf := Hf) (g := g) (k := k) (n := n) (i := i) r (by omega)
    unfold tr_sj
    by_cases q : B i 2 = B (n - (r + 1)) 2 ∧ bl_near (Hf i k) (Hf (n - (r + 1)) k) g
    · rw [if_pos q]
      exact ⟨fun h => (by cases h), fun h => absurd q (h (n - (r + 1)) (by omega) (by omega))⟩
    · rw [if_neg q, ih]
      constructor
      · intro h j h1 h2
        by_cases e : j = n - (r + 1)
        · subst e; exact q
        · exact h j (by omega) h2
      · exact fun h j h1 h2 => h j (by omega) h2
theorem tr_sj_lt {B Hf : Nat → Nat → Int32} {g : Int32} {k n i m : Nat} : ∀ r, r ≤ n → tr_sj B Hf g k n i r = some m → m < n
  | 0, _, h => by cases h
  | r + 1, hr, h => by
    unfold tr_sj at h
    split at h
    · cases h; omega
    · exact tr_sj_lt r (by omega) h
theorem tr_si_none {B Hf : Nat → Nat → Int32} {g : Int32} {k n : Nat} (h6 : n ≤ 6) : ∀ r, r ≤ n → (tr_si B Hf g k n r = -3 ↔ ∀ i, n - r ≤ i → ∀ j, i < j → j < n → ¬ (B i 2 = B j 2 ∧ bl_near (Hf i k) (Hf j k) g)) ∧ (tr_si B Hf g k n r = -3 ∨ 0 ≤ tr_si B Hf g k n r)
  | 0, _ => ⟨⟨fun _ i h1 j h2 h3 => by omega, fun _ => rfl⟩, Or.inl rfl⟩
  | r + 1, hr => by
    have ih := tr_si_none (B := B) (Hf := Hf) (g := g) (k := k) (n := n) h6 r (by omega)
    have hj := tr_sj_none (B := B) (Hf := Hf) (g := g) (k := k) (n := n) (i := n - (r + 1)) r (by omega)
    have hl := fun m => tr_sj_lt (B := B) (Hf := Hf) (g := g) (k := k) (n := n) (i := n - (r + 1)) (m := m) r (by omega)
    unfold tr_si
    cases hq : tr_sj B Hf g k n (n - (r + 1)) r with
    | none =>
      simp only
      refine ⟨?_, ih.2⟩
      rw [ih.1]
      have hj2 := hj.mp hq
      constructor
      · intro h i h1 j h2 h3
        by_cases e : i = n - (r + 1)
        · subst e; exact hj2 j (by omega) h3
        · exact h i (by omega) j h2 h3
      · exact fun h i h1 j h2 h3 => h i (by omega) j h2 h3
    | some m =>
      simp only
      have hm := hl m hq
      have hp := nI_pos (n := 10 * (n - (r + 1)) + m) (by omega)
      refine ⟨⟨fun h => absurd h (nI_ne3 (by omega)), fun h => ?_⟩, Or.inr (Int32.not_lt.mp hp)⟩
      exfalso
      have : tr_sj B Hf g k n (n - (r + 1)) r = none := hj.mpr (fun j h1 h2 => h (n - (r + 1)) (Nat.le_refl _) j (by omega) h2)
      rw [hq] at this
      cases this
theorem tr_si_s1 {B Hf : Nat → Nat → Int32} {g : Int32} {k n : Nat} (h6 : n ≤ 6) : tr_si B Hf g k n n = -3 ↔ tr_s1 B Hf g n k n = 0 := by
  rw [(tr_si_none h6 n (Nat.le_refl _)).1, tr_s1_0]
  constructor
  · intro h i hi
    rw [tr_ti_0]
    intro j hj q
    by_cases e : i < j
    · exact h i (by omega) j e hj ⟨q.2.1.symm, q.2.2⟩
    · exact h j (by omega) i (by have := q.1; omega) hi ⟨q.2.1, bl_near_sym.mp q.2.2⟩
  · intro h i _ j h1 h2 q
    exact (tr_ti_0 n).mp (h i (by omega)) j h2 ⟨by omega, q.1.symm, q.2⟩
theorem tr_s2_0 {B Hf : Nat → Nat → Int32} {g : Int32} {n : Nat} : ∀ m, tr_s2 B Hf g n m = 0 ↔ ∀ k, k < m → tr_s1 B Hf g n (k + 1) n = 0
  | 0 => ⟨fun _ i hi => by omega, fun _ => rfl⟩
  | m + 1 => by
    have ih := tr_s2_0 (B := B) (Hf := Hf) (g := g) (n := n) m
    unfold tr_s2
    constructor
    · intro h k hk
      by_cases e : k = m
      · subst e; omega
      · exact ih.mp (by omega) k (by omega)
    · intro h
      have h1 := ih.mpr (fun k hk => h k (by omega))
      have h2 := h m (by omega)
      omega
theorem bl_pass_2 {f : Nat → Int32} {t h : Int32} : bl_pass f t h 2 = f 2 := by
  unfold bl_pass bl_p3 bl_p2 bl_p1
  rw [pk_un (by decide), pk_un (by decide), pk_un (by decide)]
theorem tr_ev_2 {w : Nat → Int32} {c : Int32} {t : Nat} {f : Nat → Int32} : ∀ k, tr_ev w c t f k 2 = f 2
  | 0 => rfl
  | k + 1 => by rw [tr_ev, bl_pass_2, tr_ev_2 k]
/-- the column has no say in an hour -/
theorem bl_pass_col {f f2 : Nat → Int32} {t h : Int32} (e : ∀ p, p ≠ 2 → f p = f2 p) : ∀ p, p ≠ 2 → bl_pass f t h p = bl_pass f2 t h p := by
  intro p hp
  unfold bl_pass bl_p3 bl_p2 bl_p1 bl_leaks bl_target bl_lift bl_weight upd
  simp only [e 0 (by decide), e 1 (by decide), e 3 (by decide), e 4 (by decide), e 5 (by decide), e 6 (by decide), e 7 (by decide), e 8 (by decide), e p hp]
theorem tr_ev_col {w : Nat → Int32} {c : Int32} {t : Nat} {f f2 : Nat → Int32} (e : ∀ p, p ≠ 2 → f p = f2 p) : ∀ k p, p ≠ 2 → tr_ev w c t f k p = tr_ev w c t f2 k p
  | 0 => e
  | k + 1 => bl_pass_col (tr_ev_col e k)
/-- clear, with a part of i set so: as the model sees it -/
abbrev mo_CC (w : Nat → Int32) (g c : Int32) (t m n : Nat) (B : Nat → Nat → Int32) (i : Nat) : Prop := ∀ k, k < m + 1 → bl_tset (fun b => tr_ev w c t (B b) k) g i n = 0
abbrev mo_CW (w : Nat → Int32) (g : Int32) (t m n : Nat) (B : Nat → Nat → Int32) (i p : Nat) (v : Int32) : Prop := ∀ k, k < m + 1 → tr_ti B (tr_hw (fun b k => tr_ev w 0 t (B b) k 3) i (tr_ev w 0 t (upd (B i) p v))) g i (B i 2) k n = 0
abbrev mo_CI (w : Nat → Int32) (g : Int32) (t m n : Nat) (B : Nat → Nat → Int32) (i : Nat) (col : Int32) : Prop := ∀ k, k < m + 1 → tr_ti B (fun b k => tr_ev w 0 t (B b) k 3) g i col k n = 0
theorem mo_CC_CW {w : Nat → Int32} {g : Int32} {t m n : Nat} {B : Nat → Nat → Int32} {i p : Nat} {v : Int32} (hi : i < n) (h6 : n ≤ 6) (hp : p ≠ 2) : mo_CC w g 0 t m n (mo_B1 B i p v) i ↔ mo_CW w g t m n B i p v := by
  refine forall_congr' (fun k => imp_congr_right (fun hk => ?_))
  rw [mo_ts0 (B := B) (k := k) (Hf := tr_hw (fun b k => tr_ev w 0 t (B b) k 3) i (tr_ev w 0 t (upd (B i) p v))) hi h6 (fun j hj hne => ?_) (fun j hj => ?_)]
  · simp only [tr_ev_2, mo_B1_at, pk_un (Ne.symm hp)]
  · simp only [tr_ev_2, mo_B1, if_neg hne]
  · unfold tr_hw mo_B1
    by_cases e : j = i
    · rw [if_pos e, if_pos e]
    · rw [if_neg e, if_neg e]
theorem mo_CC_CI {w : Nat → Int32} {g : Int32} {t m n : Nat} {B : Nat → Nat → Int32} {i : Nat} {v : Int32} (hi : i < n) (h6 : n ≤ 6) : mo_CC w g 0 t m n (mo_B1 B i 2 v) i ↔ mo_CI w g t m n B i v := by
  refine forall_congr' (fun k => imp_congr_right (fun hk => ?_))
  rw [mo_ts0 (B := B) (k := k) (Hf := fun b k => tr_ev w 0 t (B b) k 3) hi h6 (fun j hj hne => ?_) (fun j hj => ?_)]
  · simp only [tr_ev_2, mo_B1_at, pk_us]
  · simp only [tr_ev_2, mo_B1, if_neg hne]
  · unfold mo_B1
    by_cases e : j = i
    · subst e
      rw [if_pos rfl]
      exact tr_ev_col (fun p hp => pk_un hp) k 3 (by decide)
    · rw [if_neg e]
theorem pm_b_01 {P : Prop} [Decidable P] : pm_b P = 0 ∨ pm_b P = 1 := by
  unfold pm_b
  split
  · exact Or.inr rfl
  · exact Or.inl rfl
set_option maxHeartbeats 4000000 in
set_option maxRecDepth 100000 in
theorem c_X8_firstPair {d : Nat} {I : pm_I} {J : pm_J} {I0 : pm_I} {w : Nat → Int32} {g c : Int32} {n a t : Nat} {B : Nat → Nat → Int32} (hF : mo_F I0 w g c n) (ha : a ≤ 43) (ht : t < 200) (hW : mo_W I0 a t n B I) {Bc Hf : Nat → Nat → Int32} {k : Nat} (hC : ∀ b, b < n → B b 2 = Bc b 2) (hH : ∀ b, b < n → B b 3 = Hf b k)  : pm_M (d + 3) 0 0 yX8_firstPair cX8_firstPair 3 (some .int) [.ref 102] SHP I J (pm_D (some (.int (tr_si Bc Hf g k n n))) SHP I J) := by
  refine pm_start (own := RX8) (nm := "firstPair") (by decide) rfl rfl (L := [(0, .ref 102)]) rfl (Nat.le_of_ble_eq_true rfl) (fun Γ C C2 => ?_)
  have h6 := hF.2.1
  have hn : I 102 2 = nI n := (hW.2.1 2 (by decide)).trans hF.1
  have drop : ∀ (x y : Int32), pm_G Γ 0 0 2 [(0, .ref 102), (1, .int x)] [] SHP I J → pm_G Γ 0 0 2 [(0, .ref 102), (1, .int x), (2, .int y)] [] SHP I J := fun x y h => pm_drop h [0, 1] rfl
  have hloop : ∀ j, j ≤ n → tr_si Bc Hf g k n n = tr_si Bc Hf g k n (n - j) → pm_G Γ 0 0 2 [(0, .ref 102), (1, .int (nI j))] [] SHP I J := by
    refine pm_up (fun j => tr_si Bc Hf g k n n = tr_si Bc Hf g k n (n - j) → pm_G Γ 0 0 2 [(0, .ref 102), (1, .int (nI j))] [] SHP I J) n (fun j hj ih hR => ?_)
    refine g_iload_n (pc := 2) (i := 1) (j := 1) C dX8_firstPair_2 rfl rfl ?_
    refine g_aload_n (pc := 3) (i := 0) (j := 0) C dX8_firstPair_3 rfl rfl ?_
    refine g_getI (pc := 4) C dX8_firstPair_4 lfX8_82 (by first | rfl | assumption) rfl ?_
    refine g_icmp_ge (pc := 7) (tgt := 50) C dX8_firstPair_7 (by decide) (fun h7 => ?_) (fun h7 => ?_)
    · have ej : j = n := by (try rw [hn] at h7); have := (nI_leI (a := n) (b := j) (by omega) (by omega)).mp h7; omega
      subst ej
      refine g_bipush (pc := 50) (v := (-3)) C dX8_firstPair_50 (by decide) ?_
      refine g_iret (pc := 52) C C2 dX8_firstPair_52 rfl (Nat.le_refl _) (Nat.le_refl _) ?_
      refine ⟨?_, rfl, rfl, rfl⟩
      rw [hR, Nat.sub_self]
      rfl
    · have hlt : j < n := by (try rw [hn] at h7); exact Nat.lt_of_not_le (fun q => h7 ((nI_leI (a := n) (b := j) (by omega) (by omega)).mpr q))
      refine g_iload_n (pc := 10) (i := 1) (j := 1) C dX8_firstPair_10 rfl rfl ?_
      refine g_iconst (pc := 11) (v := 1) C dX8_firstPair_11 (by decide) ?_
      refine g_iadd (pc := 12) C dX8_firstPair_12 ?_
      refine g_istore_n (pc := 13) (i := 2) (L2 := [(0, _), (1, _), (2, _)]) C dX8_firstPair_13 rfl (by decide) rfl ?_
      have hq : ∀ i, i ≤ n → (j < i → tr_si Bc Hf g k n n = (match tr_sj Bc Hf g k n j (n - i) with | some q => nI (10 * j + q) | none => tr_si Bc Hf g k n (n - (j + 1))) → pm_G Γ 0 0 14 [(0, .ref 102), (1, .int (nI j)), (2, .int (nI i))] [] SHP I J) := by
        refine pm_up (fun i => j < i → tr_si Bc Hf g k n n = (match tr_sj Bc Hf g k n j (n - i) with | some q => nI (10 * j + q) | none => tr_si Bc Hf g k n (n - (j + 1))) → pm_G Γ 0 0 14 [(0, .ref 102), (1, .int (nI j)), (2, .int (nI i))] [] SHP I J) n (fun i hi ih2 hji hR2 => ?_)
        refine g_iload_n (pc := 14) (i := 2) (j := 2) C dX8_firstPair_14 rfl rfl ?_
        refine g_aload_n (pc := 15) (i := 0) (j := 0) C dX8_firstPair_15 rfl rfl ?_
        refine g_getI (pc := 16) C dX8_firstPair_16 lfX8_82 (by first | rfl | assumption) rfl ?_
        refine g_icmp_ge (pc := 19) (tgt := 44) C dX8_firstPair_19 (by decide) (fun h19 => ?_) (fun h19 => ?_)
        · have ei : n ≤ i := by rw [hn] at h19; exact (nI_leI (by omega) (by omega)).mp h19
          refine g_iinc (pc := 44) (j := 1) (v := _ + 1) (L2 := [(0, _), (1, _), (2, _)]) C dX8_firstPair_44 rfl rfl (by decide) rfl ?_
          refine g_goto (pc := 47) (tgt := 2) C dX8_firstPair_47 (by decide) ?_
          refine drop _ _ (pm_Geq (ih hlt ?_) (by simp only [nI_1]) rfl rfl rfl)
          rw [hR2, show n - i = 0 by omega]
          rfl
        · have hilt : i < n := by rw [hn] at h19; exact Nat.lt_of_not_le (fun q => h19 ((nI_leI (a := n) (b := i) (by omega) (by omega)).mpr q))
          refine g_aload_n (pc := 22) (i := 0) (j := 0) C dX8_firstPair_22 rfl rfl ?_
          refine g_iload_n (pc := 23) (i := 1) (j := 1) C dX8_firstPair_23 rfl rfl ?_
          refine g_iload_n (pc := 24) (i := 2) (j := 2) C dX8_firstPair_24 rfl rfl ?_
          refine g_callV (pc := 25) C dX8_firstPair_25 lmX8_267 kcX8_isTouch (by decide) (by first | rfl | assumption) (c_mo_touch hF ha ht hW hlt hilt) rfl rfl (Nat.le_of_ble_eq_true rfl) ?_
          intro r9 sh9 I9 J9 hD9; obtain ⟨rfl, rfl, rfl, rfl⟩ := pm_Dq hD9; clear hD9
          try simp only [Option.toList_some, Option.toList_none, List.cons_append, List.nil_append]
          refine g_if_eqB (pc := 28) (tgt := 38) C dX8_firstPair_28 (by decide) (fun h28 => ?_) (fun h28 => ?_)
          · refine g_iinc (pc := 38) (j := 2) (v := _ + 1) (L2 := [(0, _), (1, _), (2, _)]) C dX8_firstPair_38 rfl rfl (by decide) rfl ?_
            refine g_goto (pc := 41) (tgt := 14) C dX8_firstPair_41 (by decide) ?_
            refine pm_Geq (ih2 hilt (by omega) ?_) (by simp only [nI_1]) rfl rfl rfl
            rw [hR2, tr_sj_step hilt, if_neg ?_]
            intro q
            have e1 := hH j hlt
            have e2 := hH i hilt
            have e3 := hC j hlt
            have e4 := hC i hilt
            exact h28 ⟨by omega, by rw [e3, e4]; exact q.1, by rw [e1, e2]; exact q.2⟩
          · refine g_bipush (pc := 31) (v := 10) C dX8_firstPair_31 (by decide) ?_
            refine g_iload_n (pc := 33) (i := 1) (j := 1) C dX8_firstPair_33 rfl rfl ?_
            refine g_imul (pc := 34) C dX8_firstPair_34 ?_
            refine g_iload_n (pc := 35) (i := 2) (j := 2) C dX8_firstPair_35 rfl rfl ?_
            refine g_iadd (pc := 36) C dX8_firstPair_36 ?_
            refine g_iret (pc := 37) C C2 dX8_firstPair_37 rfl (Nat.le_refl _) (Nat.le_refl _) ?_
            refine ⟨?_, rfl, rfl, rfl⟩
            have e1 := hH j hlt
            have e2 := hH i hilt
            have e3 := hC j hlt
            have e4 := hC i hilt
            have e5 : tr_sj Bc Hf g k n j (n - i) = some i := by rw [tr_sj_step hilt, if_pos ⟨by rw [← e3, ← e4]; exact h28.2.1, by rw [← e1, ← e2]; exact h28.2.2⟩]
            rw [hR2, e5]
            show some (Value.int (nI 10 * nI j + nI i)) = _
            rw [pk_mul, nI_add]
      refine pm_Geq (hq (j + 1) (by omega) (by omega) ?_) (by simp only [nI_1]) rfl rfl rfl
      rw [hR, tr_si_step hlt]
      cases tr_sj Bc Hf g k n j (n - (j + 1)) <;> rfl
  refine g_iconst (pc := 0) (v := 0) C dX8_firstPair_0 (by decide) ?_
  refine g_istore_n (pc := 1) (i := 1) (L2 := [(0, _), (1, _)]) C dX8_firstPair_1 rfl (by decide) rfl ?_
  exact hloop 0 (Nat.zero_le _) rfl

set_option maxHeartbeats 4000000 in
set_option maxRecDepth 100000 in
theorem c_X8_isClear {d : Nat} {I : pm_I} {J : pm_J} {I0 : pm_I} {w : Nat → Int32} {g c : Int32} {n a t : Nat} {B : Nat → Nat → Int32} (hF : mo_F I0 w g c n) (ha : a ≤ 43) (ht : t ≤ 96) (hok : ∀ b, b < n → mo_ok (B b)) {h : Nat} (hh : h ≤ 48) {i : Nat} (hi : i < n) (hE : mo_E I0 w c a t n B 0 I) : pm_M (d + 5) 0 0 yX8_isClear cX8_isClear 5 (some .boolean) [.ref 102, .int (nI i), .int (nI h)] SHP I J (fun r sh2 I2 J2 => r = some (.int (pm_b (mo_CC w g c t (min h (96 - t)) n B i))) ∧ sh2 = SHP ∧ J2 = J ∧ ∃ k, mo_E I0 w c a t n B k I2) := by
  refine pm_start (own := RX8) (nm := "isClear") (by decide) rfl rfl (L := [(0, .ref 102), (1, .int (nI i)), (2, .int (nI h))]) rfl (Nat.le_of_ble_eq_true rfl) (fun Γ C C2 => ?_)
  have hno : ∀ I2 (x : Int32) j, mo_E I0 w c a t n B j I2 → j ≤ (min h (96 - t)) → ¬ (bl_tset (fun b => tr_ev w c t (B b) j) g i n = 0) → pm_G Γ 0 0 17 [(0, .ref 102), (1, .int (nI i)), (2, .int (nI h)), (3, .int 0), (4, .int x)] [] SHP I2 J := by
    intro I2 x j hV hjm hz
    refine g_iload_n (pc := 17) (i := 3) (j := 3) C dX8_isClear_17 rfl rfl ?_
    refine g_if_eq (pc := 18) (tgt := 54) C dX8_isClear_18 (by decide) (fun h18 => ?_) (fun h18 => absurd rfl h18)
    refine g_iload_n (pc := 54) (i := 3) (j := 3) C dX8_isClear_54 rfl rfl ?_
    refine g_iret (pc := 55) C C2 dX8_isClear_55 (by first | rfl | exact pm_nz) (Nat.le_refl _) (Nat.le_refl _) ?_
    refine ⟨?_, rfl, rfl, j, hV⟩
    rw [pm_b, if_neg (fun q => hz (q j (by omega)))]
  have hloop : ∀ j, j ≤ (min h (96 - t)) → ∀ I2, mo_E I0 w c a t n B j I2 → (∀ k, k < j + 1 → bl_tset (fun b => tr_ev w c t (B b) k) g i n = 0) → pm_G Γ 0 0 17 [(0, .ref 102), (1, .int (nI i)), (2, .int (nI h)), (3, .int 1), (4, .int (nI j))] [] SHP I2 J := by
    refine pm_up (fun j => ∀ I2, mo_E I0 w c a t n B j I2 → (∀ k, k < j + 1 → bl_tset (fun b => tr_ev w c t (B b) k) g i n = 0) → pm_G Γ 0 0 17 [(0, .ref 102), (1, .int (nI i)), (2, .int (nI h)), (3, .int 1), (4, .int (nI j))] [] SHP I2 J) (min h (96 - t)) (fun j hj ih I2 hV hz => ?_)
    refine g_iload_n (pc := 17) (i := 3) (j := 3) C dX8_isClear_17 rfl rfl ?_
    refine g_if_eq (pc := 18) (tgt := 54) C dX8_isClear_18 (by decide) (fun h18 => absurd h18 (by decide)) (fun h18 => ?_)
    refine g_iload (pc := 21) (j := 4) C dX8_isClear_21 rfl ?_
    refine g_iload_n (pc := 23) (i := 2) (j := 2) C dX8_isClear_23 rfl rfl ?_
    refine g_icmp_ge (pc := 24) (tgt := 54) C dX8_isClear_24 (by decide) (fun h24 => ?_) (fun h24 => ?_)
    · refine g_iload_n (pc := 54) (i := 3) (j := 3) C dX8_isClear_54 rfl rfl ?_
      refine g_iret (pc := 55) C C2 dX8_isClear_55 (by first | rfl | exact pm_nz) (Nat.le_refl _) (Nat.le_refl _) ?_
      refine ⟨?_, rfl, rfl, j, ?_⟩
      · have ej : j = (min h (96 - t)) := by first | (have q := (nI_leI (a := h) (b := j) (by omega) (by omega)).mp h24; omega) | omega
        rw [pm_b, if_pos (fun k hk => hz k (by omega))]
      · first | exact hV | (rw [hN h31]; exact hV)
    · have q4 : ¬ h ≤ j := fun z => h24 ((nI_leI (a := h) (b := j) (by omega) (by omega)).mpr z)
      refine g_aload_n (pc := 27) (i := 0) (j := 0) C dX8_isClear_27 rfl rfl ?_
      refine g_callV (pc := 28) C dX8_isClear_28 lmX8_282 kcX8_goesOn (by decide) (by first | rfl | assumption) (c_X8_goesOn hF ha ht hok (k := j) (by omega) hV) rfl rfl (Nat.le_of_ble_eq_true rfl) ?_
      intro r9 sh9 I9 J9 hD9; obtain ⟨rfl, rfl, rfl, hY, hN⟩ := hD9
      try simp only [Option.toList_some, Option.toList_none, List.cons_append, List.nil_append]
      refine g_if_eqB (pc := 31) (tgt := 54) C dX8_isClear_31 (by decide) (fun h31 => ?_) (fun h31 => ?_)
      · refine g_iload_n (pc := 54) (i := 3) (j := 3) C dX8_isClear_54 rfl rfl ?_
        refine g_iret (pc := 55) C C2 dX8_isClear_55 (by first | rfl | exact pm_nz) (Nat.le_refl _) (Nat.le_refl _) ?_
        refine ⟨?_, rfl, rfl, j, ?_⟩
        · have ej : j = (min h (96 - t)) := by first | (have q := (nI_leI (a := h) (b := j) (by omega) (by omega)).mp h24; omega) | omega
          rw [pm_b, if_pos (fun k hk => hz k (by omega))]
        · first | exact hV | (rw [hN h31]; exact hV)
      · refine g_aload_n (pc := 34) (i := 0) (j := 0) C dX8_isClear_34 rfl rfl ?_
        refine g_iload_n (pc := 35) (i := 1) (j := 1) C dX8_isClear_35 rfl rfl ?_
        refine g_callV (pc := 36) C dX8_isClear_36 lmX8_270 kcX8_touchSet (by decide) (by first | rfl | assumption) (c_mo_tset hF ha (by omega) (hY h31) hi) rfl rfl (Nat.le_of_ble_eq_true rfl) ?_
        intro r9 sh9 I9 J9 hD9; obtain ⟨rfl, rfl, rfl, rfl⟩ := pm_Dq hD9; clear hD9
        try simp only [Option.toList_some, Option.toList_none, List.cons_append, List.nil_append]
        refine g_if_ne (pc := 39) (tgt := 46) C dX8_isClear_39 (by decide) (fun h39 => ?_) (fun h39 => ?_)
        · refine g_iconst (pc := 46) (v := 0) C dX8_isClear_46 (by decide) ?_
          refine g_istore_n (pc := 47) (i := 3) (L2 := [(0, _), (1, _), (2, _), (3, _), (4, _)]) C dX8_isClear_47 rfl (by decide) rfl ?_
          refine g_iinc (pc := 48) (j := 4) (v := _ + 1) (L2 := [(0, _), (1, _), (2, _), (3, _), (4, _)]) C dX8_isClear_48 rfl rfl (by decide) rfl ?_
          refine g_goto (pc := 51) (tgt := 17) C dX8_isClear_51 (by decide) ?_
          first | exact pm_Geq (hno _ _ (j + 1) (hY h31) (by omega) h39) rfl rfl rfl rfl | (refine pm_Geq (ih (by omega) _ (hY h31) (fun k hk => ?_)) (by simp only [nI_1]) rfl rfl rfl; by_cases e : k = j + 1; (subst e; exact h39); exact hz k (by omega))
        · refine g_iconst (pc := 42) (v := 1) C dX8_isClear_42 (by decide) ?_
          refine g_goto (pc := 43) (tgt := 47) C dX8_isClear_43 (by decide) ?_
          refine g_istore_n (pc := 47) (i := 3) (L2 := [(0, _), (1, _), (2, _), (3, _), (4, _)]) C dX8_isClear_47 rfl (by decide) rfl ?_
          refine g_iinc (pc := 48) (j := 4) (v := _ + 1) (L2 := [(0, _), (1, _), (2, _), (3, _), (4, _)]) C dX8_isClear_48 rfl rfl (by decide) rfl ?_
          refine g_goto (pc := 51) (tgt := 17) C dX8_isClear_51 (by decide) ?_
          first | exact pm_Geq (hno _ _ (j + 1) (hY h31) (by omega) h39) rfl rfl rfl rfl | (refine pm_Geq (ih (by omega) _ (hY h31) (fun k hk => ?_)) (by simp only [nI_1]) rfl rfl rfl; by_cases e : k = j + 1; (subst e; exact h39); exact hz k (by omega))
  refine g_aload_n (pc := 0) (i := 0) (j := 0) C dX8_isClear_0 rfl rfl ?_
  refine g_iload_n (pc := 1) (i := 1) (j := 1) C dX8_isClear_1 rfl rfl ?_
  refine g_callV (pc := 2) C dX8_isClear_2 lmX8_270 kcX8_touchSet (by decide) (by first | rfl | assumption) (c_mo_tset hF ha (by omega) hE hi) rfl rfl (Nat.le_of_ble_eq_true rfl) ?_
  intro r9 sh9 I9 J9 hD9; obtain ⟨rfl, rfl, rfl, rfl⟩ := pm_Dq hD9; clear hD9
  try simp only [Option.toList_some, Option.toList_none, List.cons_append, List.nil_append]
  refine g_if_ne (pc := 5) (tgt := 12) C dX8_isClear_5 (by decide) (fun h5 => ?_) (fun h5 => ?_)
  · refine g_iconst (pc := 12) (v := 0) C dX8_isClear_12 (by decide) ?_
    refine g_istore_n (pc := 13) (i := 3) (L2 := [(0, _), (1, _), (2, _), (3, _)]) C dX8_isClear_13 rfl (by decide) rfl ?_
    refine g_iconst (pc := 14) (v := 0) C dX8_isClear_14 (by decide) ?_
    refine g_istore (pc := 15) (L2 := [(0, _), (1, _), (2, _), (3, _), (4, _)]) C dX8_isClear_15 (by decide) rfl ?_
    first | exact pm_Geq (hno _ _ 0 hE (by omega) h5) rfl rfl rfl rfl | (refine pm_Geq (hloop 0 (by omega) _ hE (fun k hk => ?_)) rfl rfl rfl rfl; have e : k = 0 := (by omega); subst e; exact h5)
  · refine g_iconst (pc := 8) (v := 1) C dX8_isClear_8 (by decide) ?_
    refine g_goto (pc := 9) (tgt := 13) C dX8_isClear_9 (by decide) ?_
    refine g_istore_n (pc := 13) (i := 3) (L2 := [(0, _), (1, _), (2, _), (3, _)]) C dX8_isClear_13 rfl (by decide) rfl ?_
    refine g_iconst (pc := 14) (v := 0) C dX8_isClear_14 (by decide) ?_
    refine g_istore (pc := 15) (L2 := [(0, _), (1, _), (2, _), (3, _), (4, _)]) C dX8_isClear_15 (by decide) rfl ?_
    first | exact pm_Geq (hno _ _ 0 hE (by omega) h5) rfl rfl rfl rfl | (refine pm_Geq (hloop 0 (by omega) _ hE (fun k hk => ?_)) rfl rfl rfl rfl; have e : k = 0 := (by omega); subst e; exact h5)

set_option maxHeartbeats 4000000 in
set_option maxRecDepth 100000 in
theorem c_X8_isClearWith {d : Nat} {I : pm_I} {J : pm_J} {w : Nat → Int32} {g c : Int32} {n t : Nat} {B : Nat → Nat → Int32} (hF : mo_F I w g c n) (ht : t ≤ 96) (hok : ∀ b, b < n → mo_ok (B b)) (hW : mo_W I 0 t n B I) {h : Nat} (hh : h ≤ 48) {i p : Nat} {v : Int32} (hi : i < n) (hp1 : 1 ≤ p) (hp7 : p ≤ 7) (hok2 : mo_ok (upd (B i) (p + 1) v)) : pm_M (d + 6) 0 0 yX8_isClearWith cX8_isClearWith 6 (some .boolean) [.ref 102, .int (nI i), .int (nI p), .int v, .int (nI h)] SHP I J (fun r sh2 I2 J2 => r = some (.int (pm_b (mo_CC w g c t (min h (96 - t)) n (mo_B1 B i (p + 1) v) i))) ∧ sh2 = SHP ∧ J2 = J ∧ mo_off I I2) := by
  refine pm_start (own := RX8) (nm := "isClearWith") (by decide) rfl rfl (L := [(0, .ref 102), (1, .int (nI i)), (2, .int (nI p)), (3, .int v), (4, .int (nI h))]) rfl (Nat.le_of_ble_eq_true rfl) (fun Γ C C2 => ?_)
  have h6 := hF.2.1
  refine g_aload_n (pc := 0) (i := 0) (j := 0) C dX8_isClearWith_0 rfl rfl ?_
  refine g_callV (pc := 1) C dX8_isClearWith_1 lmX8_292 kcX8_lends (by decide) (by first | rfl | assumption) (c_X8_lends) rfl rfl (Nat.le_of_ble_eq_true rfl) ?_
  intro r9 sh9 I9 J9 hD9; obtain ⟨rfl, rfl, rfl, rfl⟩ := pm_Dq hD9; clear hD9
  try simp only [Option.toList_some, Option.toList_none, List.cons_append, List.nil_append]
  have hL := mo_W_lend hW hF.2.1
  refine g_aload_n (pc := 4) (i := 0) (j := 0) C dX8_isClearWith_4 rfl rfl ?_
  refine g_iload_n (pc := 5) (i := 1) (j := 1) C dX8_isClearWith_5 rfl rfl ?_
  refine g_iload_n (pc := 6) (i := 2) (j := 2) C dX8_isClearWith_6 rfl rfl ?_
  refine g_iload_n (pc := 7) (i := 3) (j := 3) C dX8_isClearWith_7 rfl rfl ?_
  refine g_callV (pc := 8) C dX8_isClearWith_8 lmX8_215 kcX8_sets (by decide) (by first | rfl | assumption) (c_X8_sets hL.2.2.1 (by decide) (by omega) hp7) rfl rfl (Nat.le_of_ble_eq_true rfl) ?_
  intro r9 sh9 I9 J9 hD9; obtain ⟨rfl, rfl, rfl, rfl⟩ := pm_Dq hD9; clear hD9
  try simp only [Option.toList_some, Option.toList_none, List.cons_append, List.nil_append]
  have hE := mo_W_set (b := i) (p := p) (v := v) hL hp1 hp7
  refine g_aload_n (pc := 11) (i := 0) (j := 0) C dX8_isClearWith_11 rfl rfl ?_
  refine g_iload_n (pc := 12) (i := 1) (j := 1) C dX8_isClearWith_12 rfl rfl ?_
  refine g_iload (pc := 13) (j := 4) C dX8_isClearWith_13 rfl ?_
  refine g_callV (pc := 15) C dX8_isClearWith_15 lmX8_298 kcX8_isClear (by decide) (by first | rfl | assumption) (c_X8_isClear (a := 43) hF (by decide) ht (B := mo_B1 B i (p + 1) v) (fun b hb => by unfold mo_B1; by_cases e : b = i; (rw [if_pos e]; exact hok2); (rw [if_neg e]; exact hok b hb)) hh hi hE) rfl rfl (Nat.le_of_ble_eq_true rfl) ?_
  intro r9 sh9 I9 J9 hD9; obtain ⟨rfl, rfl, rfl, k9, hV⟩ := hD9
  try simp only [Option.toList_some, Option.toList_none, List.cons_append, List.nil_append]
  refine g_istore (pc := 18) (L2 := [(0, _), (1, _), (2, _), (3, _), (4, _), (5, _)]) C dX8_isClearWith_18 (by decide) rfl ?_
  refine g_aload_n (pc := 20) (i := 0) (j := 0) C dX8_isClearWith_20 rfl rfl ?_
  refine g_iconst (pc := 21) (v := 0) C dX8_isClearWith_21 (by decide) ?_
  refine g_putI (pc := 22) C dX8_isClearWith_22 lpX8_85 rfl rfl (by first | rfl | assumption) rfl ?_
  refine g_iload (pc := 25) (j := 5) C dX8_isClearWith_25 rfl ?_
  refine g_iret (pc := 27) C C2 dX8_isClearWith_27 (by first | rfl | exact pm_nz) (Nat.le_refl _) (Nat.le_refl _) ?_
  exact ⟨rfl, rfl, rfl, mo_W_back hV hW.2.2.1⟩

set_option maxHeartbeats 4000000 in
set_option maxRecDepth 100000 in
theorem c_X8_pairsBehind {d : Nat} {I : pm_I} {J : pm_J} {I0 : pm_I} {w : Nat → Int32} {g c : Int32} {n a t : Nat} {B : Nat → Nat → Int32} (hF : mo_F I0 w g c n) (ha : a ≤ 43) (ht : t ≤ 96) (hok : ∀ b, b < n → mo_ok (B b)) {h : Nat} (hh : h ≤ 48) {Bc : Nat → Nat → Int32} (hC : ∀ b, b < n → B b 2 = Bc b 2) (hE : mo_E I0 w c a t n B 0 I) : pm_M (d + 5) 0 0 yX8_pairsBehind cX8_pairsBehind 4 (some .int) [.ref 102, .int (nI h)] SHP I J (fun r sh2 I2 J2 => r = some (.int (nI (tr_s2 Bc (fun b k => tr_ev w c t (B b) k 3) g n (min h (96 - t)) / 2))) ∧ sh2 = SHP ∧ J2 = J ∧ ∃ k, mo_E I0 w c a t n B k I2) := by
  refine pm_start (own := RX8) (nm := "pairsBehind") (by decide) rfl rfl (L := [(0, .ref 102), (1, .int (nI h))]) rfl (Nat.le_of_ble_eq_true rfl) (fun Γ C C2 => ?_)
  have hloop : ∀ j, j ≤ (min h (96 - t)) → ∀ I2, mo_E I0 w c a t n B j I2 → pm_G Γ 0 0 4 [(0, .ref 102), (1, .int (nI h)), (2, .int (nI (tr_s2 Bc (fun b k => tr_ev w c t (B b) k 3) g n j / 2))), (3, .int (nI j))] [] SHP I2 J := by
    refine pm_up (fun j => ∀ I2, mo_E I0 w c a t n B j I2 → pm_G Γ 0 0 4 [(0, .ref 102), (1, .int (nI h)), (2, .int (nI (tr_s2 Bc (fun b k => tr_ev w c t (B b) k 3) g n j / 2))), (3, .int (nI j))] [] SHP I2 J) (min h (96 - t)) (fun j hj ih I2 hV => ?_)
    refine g_iload_n (pc := 4) (i := 3) (j := 3) C dX8_pairsBehind_4 rfl rfl ?_
    refine g_iload_n (pc := 5) (i := 1) (j := 1) C dX8_pairsBehind_5 rfl rfl ?_
    refine g_icmp_ge (pc := 6) (tgt := 29) C dX8_pairsBehind_6 (by decide) (fun h6 => ?_) (fun h6 => ?_)
    · refine g_iload_n (pc := 29) (i := 2) (j := 2) C dX8_pairsBehind_29 rfl rfl ?_
      refine g_iret (pc := 30) C C2 dX8_pairsBehind_30 rfl (Nat.le_refl _) (Nat.le_refl _) ?_
      refine ⟨?_, rfl, rfl, j, ?_⟩
      · have ej : j = (min h (96 - t)) := by first | (have q := (nI_leI (a := h) (b := j) (by omega) (by omega)).mp h6; omega) | omega
        rw [← ej]
      · first | exact hV | (rw [hN h13]; exact hV)
    · have q4 : ¬ h ≤ j := fun z => h6 ((nI_leI (a := h) (b := j) (by omega) (by omega)).mpr z)
      refine g_aload_n (pc := 9) (i := 0) (j := 0) C dX8_pairsBehind_9 rfl rfl ?_
      refine g_callV (pc := 10) C dX8_pairsBehind_10 lmX8_282 kcX8_goesOn (by decide) (by first | rfl | assumption) (c_X8_goesOn hF ha ht hok (k := j) (by omega) hV) rfl rfl (Nat.le_of_ble_eq_true rfl) ?_
      intro r9 sh9 I9 J9 hD9; obtain ⟨rfl, rfl, rfl, hY, hN⟩ := hD9
      try simp only [Option.toList_some, Option.toList_none, List.cons_append, List.nil_append]
      refine g_if_eqB (pc := 13) (tgt := 29) C dX8_pairsBehind_13 (by decide) (fun h13 => ?_) (fun h13 => ?_)
      · refine g_iload_n (pc := 29) (i := 2) (j := 2) C dX8_pairsBehind_29 rfl rfl ?_
        refine g_iret (pc := 30) C C2 dX8_pairsBehind_30 rfl (Nat.le_refl _) (Nat.le_refl _) ?_
        refine ⟨?_, rfl, rfl, j, ?_⟩
        · have ej : j = (min h (96 - t)) := by first | (have q := (nI_leI (a := h) (b := j) (by omega) (by omega)).mp h6; omega) | omega
          rw [← ej]
        · first | exact hV | (rw [hN h13]; exact hV)
      · refine g_iload_n (pc := 16) (i := 2) (j := 2) C dX8_pairsBehind_16 rfl rfl ?_
        refine g_aload_n (pc := 17) (i := 0) (j := 0) C dX8_pairsBehind_17 rfl rfl ?_
        refine g_callV (pc := 18) C dX8_pairsBehind_18 lmX8_307 kcX8_pairs (by decide) (by first | rfl | assumption) (c_mo_pairs hF ha (by omega) (hY h13)) rfl rfl (Nat.le_of_ble_eq_true rfl) ?_
        intro r9 sh9 I9 J9 hD9; obtain ⟨rfl, rfl, rfl, rfl⟩ := pm_Dq hD9; clear hD9
        try simp only [Option.toList_some, Option.toList_none, List.cons_append, List.nil_append]
        refine g_iadd (pc := 21) C dX8_pairsBehind_21 ?_
        refine g_istore_n (pc := 22) (i := 2) (L2 := [(0, _), (1, _), (2, _), (3, _)]) C dX8_pairsBehind_22 rfl (by decide) rfl ?_
        refine g_iinc (pc := 23) (j := 3) (v := _ + 1) (L2 := [(0, _), (1, _), (2, _), (3, _)]) C dX8_pairsBehind_23 rfl rfl (by decide) rfl ?_
        refine g_goto (pc := 26) (tgt := 4) C dX8_pairsBehind_26 (by decide) ?_
        refine pm_Geq (ih (by omega) _ (hY h13)) ?_ rfl rfl rfl
        rw [mo_ends (B := Bc) (Hf := (fun b k => tr_ev w c t (B b) k 3)) (k := j + 1) hF.2.1 (fun b hb => by simp only [tr_ev_2]; exact hC b hb) (fun b hb => rfl) n (Nat.le_refl _), tr_s2_half hF.2.1]
        simp only [nI_1]
  refine g_iconst (pc := 0) (v := 0) C dX8_pairsBehind_0 (by decide) ?_
  refine g_istore_n (pc := 1) (i := 2) (L2 := [(0, _), (1, _), (2, _)]) C dX8_pairsBehind_1 rfl (by decide) rfl ?_
  refine g_iconst (pc := 2) (v := 0) C dX8_pairsBehind_2 (by decide) ?_
  refine g_istore_n (pc := 3) (i := 3) (L2 := [(0, _), (1, _), (2, _), (3, _)]) C dX8_pairsBehind_3 rfl (by decide) rfl ?_
  exact pm_Geq (hloop 0 (by omega) _ hE) (by rw [show tr_s2 Bc (fun b k => tr_ev w c t (B b) k 3) g n 0 / 2 = 0 by simp [tr_s2]]; rfl) rfl rfl rfl
