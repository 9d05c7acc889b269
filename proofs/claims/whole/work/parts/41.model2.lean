/-! The model's row that is worked on: what stands there, in the class's words -/
theorem bl_abs_n (v : Int32) : bl_abs (0 - v) = bl_abs v := by
  by_cases h : v = -2147483648
  · subst h
    decide
  · have h2 : ¬ v.toInt = (-2147483648 : Int32).toInt := fun q => h (Int32.toInt_inj.mp q)
    have h3 : (-2147483648 : Int32).toInt = -2147483648 := by decide
    rw [h3] at h2
    have h4 := Int32.le_toInt v
    have h5 := Int32.toInt_lt v
    have h6 : (0 - v).toInt = 0 - v.toInt := by
      rw [Int32.toInt_sub, Int32.toInt_zero]
      exact Int.bmod_eq_of_le (by omega) (by omega)
    have h7 : (0 : Int32) ≤ 0 - v ↔ (0 : Int) ≤ 0 - v.toInt := by rw [Int32.le_iff_toInt_le, h6, Int32.toInt_zero]
    have h8 : (0 : Int32) ≤ v ↔ (0 : Int) ≤ v.toInt := by rw [Int32.le_iff_toInt_le, Int32.toInt_zero]
    unfold bl_abs
    by_cases q1 : (0 : Int) ≤ v.toInt
    · by_cases q2 : (0 : Int) ≤ 0 - v.toInt
      · rw [if_pos (h7.mpr q2), if_pos (h8.mpr q1)]
        apply Int32.toInt_inj.mp
        omega
      · rw [if_neg (fun z => q2 (h7.mp z)), if_pos (h8.mpr q1)]
        grind
    · rw [if_pos (h7.mpr (by omega)), if_neg (fun z => q1 (h8.mp z))]
theorem bl_abs_sw (x y : Int32) : bl_abs (x - y) = bl_abs (y - x) := by
  rw [← bl_abs_n (y - x), show 0 - (y - x) = x - y by grind]
/-- what the model holds that no trial changes: so many balloons, the gap, so much colder, the warmths -/
def mo_F (I0 : pm_I) (w : Nat → Int32) (g c : Int32) (n : Nat) : Prop := I0 102 2 = nI n ∧ n ≤ 6 ∧ I0 102 1 = g ∧ I0 102 7 = c ∧ ∀ h, h < 24 → I0 103 h = w h
/-- the row at a is worked on: the hour t, the balloons B; all else is as in I0 -/
def mo_W (I0 : pm_I) (a t n : Nat) (B : Nat → Nat → Int32) (I : pm_I) : Prop := (∀ q, q ≠ 102 → q ≠ 106 → I q = I0 q) ∧ (∀ p, p ≠ 6 → I 102 p = I0 102 p) ∧ I 102 6 = nI a ∧ (∀ k, k < a → I 106 k = I0 106 k) ∧ I 106 a = nI t ∧ ∀ b, b < n → ∀ p, p < 9 → md I a b p = B b p
abbrev mo_ok (f : Nat → Int32) : Prop := (0 ≤ f 3 ∧ f 3 ≤ 99) ∧ 1 ≤ f 4 ∧ f 4 ≤ 99
theorem mo_W_c {I0 I : pm_I} {a t n : Nat} {B B2 : Nat → Nat → Int32} (h : mo_W I0 a t n B I) (e : ∀ b, b < n → ∀ p, p < 9 → B b p = B2 b p) : mo_W I0 a t n B2 I :=
  ⟨h.1, h.2.1, h.2.2.1, h.2.2.2.1, h.2.2.2.2.1, fun b hb p hp => (h.2.2.2.2.2 b hb p hp).trans (e b hb p hp)⟩
theorem md_u_off {I : pm_I} {a b p q k : Nat} {v : Int32} (h1 : q ≠ 104) (h2 : q ≠ 105) (h3 : q ≠ 106) : md (pm_u I q k v) a b p = md I a b p := by
  unfold md
  rw [pm_u_off (by omega), pm_u_off (by omega), pm_u_off (by omega)]
theorem md_u {I : pm_I} {a b c p r : Nat} {v : Int32} (hp : 1 ≤ p) (hp2 : p ≤ 7) (hr : r < 9) : md (pm_u I 106 (a + 7 * b + p) v) a c r = if c = b ∧ r = p + 1 then v else md I a c r := by
  unfold md
  rw [pm_u_off (by decide), pm_u_off (by decide), pm_u_at]
  unfold upd
  grind
/-- a part of b is set -/
def mo_B1 (B : Nat → Nat → Int32) (b p : Nat) (v : Int32) (c : Nat) : Nat → Int32 := if c = b then upd (B b) p v else B c
theorem mo_B1_at {B : Nat → Nat → Int32} {b p : Nat} {v : Int32} : mo_B1 B b p v b = upd (B b) p v := if_pos rfl
theorem mo_W_set {I0 I : pm_I} {a t n b p : Nat} {B : Nat → Nat → Int32} {v : Int32} (h : mo_W I0 a t n B I) (hp : 1 ≤ p) (hp2 : p ≤ 7) : mo_W I0 a t n (mo_B1 B b (p + 1) v) (pm_u I 106 (a + 7 * b + p) v) := by
  obtain ⟨h1, h2, h3, h4, h5, h6⟩ := h
  refine ⟨fun q q1 q2 => ?_, fun p q => ?_, ?_, fun k hk => ?_, ?_, fun c hc r hr => ?_⟩
  · rw [pm_u_off q2, h1 q q1 q2]
  · rw [pm_u_off (by decide), h2 p q]
  · rw [pm_u_off (by decide), h3]
  · rw [pm_u_at, pk_un (by omega), h4 k hk]
  · rw [pm_u_at, pk_un (by omega), h5]
  · rw [md_u hp hp2 hr, h6 c hc r hr]
    unfold mo_B1
    by_cases e : c = b
    · subst e
      rw [if_pos rfl]
      unfold upd
      grind
    · rw [if_neg e, if_neg (fun q => e q.1)]
theorem mo_near_100 : ∀ a, a < 100 → ∀ b, b < 100 → mo_near (nI a) (nI b) = nI a + bl_held (nI b - nI a) (-10) 10 := by decide +kernel
theorem mo_near_in : ∀ a, a < 100 → ∀ b, b < 100 → 0 ≤ mo_near (nI a) (nI b) ∧ mo_near (nI a) (nI b) ≤ 99 := by decide +kernel
theorem mo_near_pass {v to : Int32} (h1 : 0 ≤ v) (h2 : v ≤ 99) (h3 : 0 ≤ to) (h4 : to ≤ 99) : mo_near v to = v + bl_held (to - v) (-10) 10 := by
  obtain ⟨a, ha, rfl⟩ := pm_ix (N := 100) h1 h2 (by decide)
  obtain ⟨b, hb, rfl⟩ := pm_ix (N := 100) h3 h4 (by decide)
  exact mo_near_100 a ha b hb
theorem bl_held_in {v lo hi : Int32} (h : lo ≤ hi) : lo ≤ bl_held v lo hi ∧ bl_held v lo hi ≤ hi := by
  unfold bl_held
  grind
theorem bl_target_in {f : Nat → Int32} {t : Int32} (h : mo_ok f) : 0 ≤ bl_target f t ∧ bl_target f t ≤ 99 := by
  unfold bl_target
  have := bl_held_in (v := if f 0 = 5 then (bl_lift f t - bl_weight f) / 2 else bl_lift f t - bl_weight f) (lo := 0) (hi := f 4) (by grind)
  grind
theorem mo_nt {f : Nat → Int32} {t : Int32} (h : mo_ok f) : mo_near (f 3) (bl_target f t) = f 3 + bl_held (bl_target f t - f 3) (-10) 10 := by
  have := bl_target_in (t := t) h
  exact mo_near_pass h.1.1 h.1.2 this.1 this.2
theorem bl_pass_3 {f : Nat → Int32} {t h : Int32} : bl_pass f t h 3 = f 3 + bl_held (bl_target f t - f 3) (-10) 10 := by
  unfold bl_pass bl_p3 bl_p2 bl_p1
  rw [pk_un (by decide), pk_un (by decide), pk_us]
theorem bl_pass_4 {f : Nat → Int32} {t h : Int32} : bl_pass f t h 4 = f 4 := by
  unfold bl_pass bl_p3 bl_p2 bl_p1
  rw [pk_un (by decide), pk_un (by decide), pk_un (by decide)]
theorem bl_pass_ok {f : Nat → Int32} {t h : Int32} (hf : mo_ok f) : mo_ok (bl_pass f t h) := by
  have h3 := bl_pass_3 (f := f) (t := t) (h := h)
  have h4 := bl_pass_4 (f := f) (t := t) (h := h)
  have h5 := mo_nt (t := t) hf
  have h6 := bl_target_in (t := t) hf
  unfold mo_ok
  rw [h3, h4, ← h5]
  obtain ⟨a, ha, ea⟩ := pm_ix (N := 100) hf.1.1 hf.1.2 (by decide)
  obtain ⟨b, hb, eb⟩ := pm_ix (N := 100) h6.1 h6.2 (by decide)
  rw [ea, eb]
  exact ⟨mo_near_in a ha b hb, hf.2⟩
theorem tr_ev_ok {w : Nat → Int32} {c : Int32} {t : Nat} {f : Nat → Int32} (h : mo_ok f) : ∀ k, mo_ok (tr_ev w c t f k)
  | 0 => h
  | k + 1 => bl_pass_ok (tr_ev_ok h k)
/-- k hours on from the hour t and the balloons B -/
def mo_E (I0 : pm_I) (w : Nat → Int32) (c : Int32) (a t n : Nat) (B : Nat → Nat → Int32) (k : Nat) (I : pm_I) : Prop := mo_W I0 a (t + k) n (fun b => tr_ev w c t (B b) k) I
theorem bl_touch_c {f g f2 g2 : Nat → Int32} {gap : Int32} (hf : ∀ p, p < 9 → f p = f2 p) (hg : ∀ p, p < 9 → g p = g2 p) : bl_touch f g gap ↔ bl_touch f2 g2 gap := by
  unfold bl_touch bl_near
  rw [hf 2 (by decide), hf 3 (by decide), hg 2 (by decide), hg 3 (by decide)]
theorem bl_tset_c {B B2 : Nat → Nat → Int32} {gap : Int32} {i n : Nat} (hi : i < n) (h : ∀ b, b < n → ∀ p, p < 9 → B b p = B2 b p) : ∀ k, k ≤ n → bl_tset B gap i k = bl_tset B2 gap i k
  | 0, _ => rfl
  | k + 1, hk => by
    have h1 := bl_touch_c (gap := gap) (h i hi) (h k (by omega))
    unfold bl_tset
    rw [bl_tset_c hi h k (by omega)]
    simp only [h1]
theorem bl_ends_c {B B2 : Nat → Nat → Int32} {gap : Int32} {n : Nat} (h : ∀ b, b < n → ∀ p, p < 9 → B b p = B2 b p) : ∀ k, k ≤ n → bl_ends B gap n k = bl_ends B2 gap n k
  | 0, _ => rfl
  | k + 1, hk => by
    unfold bl_ends
    rw [bl_ends_c h k (by omega), bl_tset_c (by omega) h n (Nat.le_refl _)]
theorem bl_over_c {B B2 : Nat → Nat → Int32} {n i j : Nat} (hi : i < n) (hj : j < n) (h : ∀ b, b < n → ∀ p, p < 9 → B b p = B2 b p) : bl_over B i j ↔ bl_over B2 i j := by
  unfold bl_over
  rw [h i hi 3 (by decide), h j hj 3 (by decide)]
theorem bl_nextA_c {B B2 : Nat → Nat → Int32} {n i : Nat} (hi : i < n) (h : ∀ b, b < n → ∀ p, p < 9 → B b p = B2 b p) : ∀ k, k ≤ n → bl_nextA B i k = bl_nextA B2 i k
  | 0, _ => rfl
  | k + 1, hk => by
    have ih := bl_nextA_c hi h k (by omega)
    have g1 := h i hi 2 (by decide)
    have g2 := h k (by omega) 2 (by decide)
    have g3 := bl_over_c (i := k) (by omega) hi h
    cases hq : bl_nextA B2 i k with
    | none => rw [bl_nextA_none hq, bl_nextA_none (ih.trans hq)]; simp only [g1, g2, g3]
    | some m =>
      have g4 := bl_over_c (i := m) (j := k) (by have := bl_nextA_lt hq; omega) (by omega) h
      rw [bl_nextA_some hq, bl_nextA_some (ih.trans hq)]
      simp only [g1, g2, g3, g4]
theorem bl_nextB_c {B B2 : Nat → Nat → Int32} {n i : Nat} (hi : i < n) (h : ∀ b, b < n → ∀ p, p < 9 → B b p = B2 b p) : ∀ k, k ≤ n → bl_nextB B i k = bl_nextB B2 i k
  | 0, _ => rfl
  | k + 1, hk => by
    have ih := bl_nextB_c hi h k (by omega)
    have g1 := h i hi 2 (by decide)
    have g2 := h k (by omega) 2 (by decide)
    have g3 := bl_over_c (j := k) hi (by omega) h
    cases hq : bl_nextB B2 i k with
    | none => rw [bl_nextB_none hq, bl_nextB_none (ih.trans hq)]; simp only [g1, g2, g3]
    | some m =>
      have g4 := bl_over_c (i := k) (j := m) (by omega) (by have := bl_nextB_lt hq; omega) h
      rw [bl_nextB_some hq, bl_nextB_some (ih.trans hq)]
      simp only [g1, g2, g3, g4]
theorem mo_reach_c {B B2 : Nat → Nat → Int32} {n i : Nat} (hi : i < n) (h : ∀ b, b < n → ∀ p, p < 9 → B b p = B2 b p) : mo_reach B i n = bl_reach B2 i n := by
  unfold mo_reach bl_reach
  rw [bl_nextA_c hi h n (Nat.le_refl _), bl_nextB_c hi h n (Nat.le_refl _), Int32.zero_or]
  have e : ∀ q, (∀ m, q = some m → m < n) → mo_inR B i q = bl_inR B2 i q := by
    intro q hq
    cases q with
    | none => rfl
    | some m =>
      unfold mo_inR bl_inR
      simp only
      rw [bl_abs_sw, h i hi 3 (by decide), h m (hq m rfl) 3 (by decide)]
  rw [e _ (fun m q => bl_nextA_lt q), e _ (fun m q => bl_nextB_lt q)]
/-- what a trial leaves: all but the second row -/
def mo_off (I I2 : pm_I) : Prop := (∀ q, q ≠ 106 → I2 q = I q) ∧ ∀ k, k < 43 → I2 106 k = I 106 k
theorem mo_off_rf (I : pm_I) : mo_off I I := ⟨fun _ _ => rfl, fun _ _ => rfl⟩
theorem mo_off_tr {I I2 I3 : pm_I} (h : mo_off I I2) (h2 : mo_off I2 I3) : mo_off I I3 := ⟨fun q hq => (h2.1 q hq).trans (h.1 q hq), fun k hk => (h2.2 k hk).trans (h.2 k hk)⟩
theorem mo_W_back {I0 I : pm_I} {t n : Nat} {B : Nat → Nat → Int32} (h : mo_W I0 43 t n B I) (h0 : I0 102 6 = 0) : mo_off I0 (pm_u I 102 6 0) := by
  refine ⟨fun q hq => ?_, fun k hk => ?_⟩
  · by_cases e : q = 102
    · subst e
      rw [pm_u_at]
      funext p
      by_cases e2 : p = 6
      · subst e2
        rw [pk_us, h0]
      · rw [pk_un e2, h.2.1 p e2]
    · rw [pm_u_off e, h.1 q e hq]
  · rw [pm_u_off (by decide), h.2.2.2.1 k hk]
/-- k cells of the row lent -/
def mo_len (f : Nat → Int32) (k : Nat) : Nat → Int32 := fun j => if 43 ≤ j ∧ j < 43 + k then f (j - 43) else f j
theorem mo_len_next (f : Nat → Int32) (k : Nat) (hk : k < 43) : upd (mo_len f k) (43 + k) (mo_len f k k) = mo_len f (k + 1) := by
  funext j
  unfold upd mo_len
  grind
theorem mo_W_lend {I0 : pm_I} {t n : Nat} {B : Nat → Nat → Int32} (h : mo_W I0 0 t n B I0) (h6 : n ≤ 6) : mo_W I0 43 t n B (pm_u (pm_s (pm_u I0 102 6 0) 106 (mo_len (I0 106) 43)) 102 6 43) := by
  obtain ⟨h1, h2, h3, h4, h5, h7⟩ := h
  refine ⟨fun q q1 q2 => ?_, fun p q => ?_, ?_, fun k hk => ?_, ?_, fun b hb p hp => ?_⟩
  · rw [pm_u_off q1, pm_s_off _ _ _ _ q2, pm_u_off q1]
  · rw [pm_u_at, pk_un q, pm_s_off _ _ _ _ (by decide), pm_u_at, pk_un q]
  · rw [pm_u_at, pk_us]; rfl
  · rw [pm_u_off (by decide), pm_s_at]
    unfold mo_len
    rw [if_neg (by omega)]
  · rw [pm_u_off (by decide), pm_s_at]
    exact h5
  · rw [← h7 b hb p hp]
    unfold md
    simp only [pm_u_off (show (104 : Nat) ≠ 102 by decide), pm_u_off (show (105 : Nat) ≠ 102 by decide), pm_u_off (show (106 : Nat) ≠ 102 by decide), pm_s_at, pm_s_off _ _ _ _ (show (104 : Nat) ≠ 106 by decide), pm_s_off _ _ _ _ (show (105 : Nat) ≠ 106 by decide)]
    unfold mo_len
    grind
theorem mo_W_hour {I0 I : pm_I} {a t n : Nat} {B : Nat → Nat → Int32} (h : mo_W I0 a t n B I) : mo_W I0 a (t + 1) n B (pm_u I 106 a (I 106 a + 1)) := by
  obtain ⟨h1, h2, h3, h4, h5, h6⟩ := h
  refine ⟨fun q q1 q2 => ?_, fun p q => ?_, ?_, fun k hk => ?_, ?_, fun c hc r hr => ?_⟩
  · rw [pm_u_off q2, h1 q q1 q2]
  · rw [pm_u_off (by decide), h2 p q]
  · rw [pm_u_off (by decide), h3]
  · rw [pm_u_at, pk_un (by omega), h4 k hk]
  · rw [pm_u_at, pk_us, h5, nI_1]
  · rw [← h6 c hc r hr]
    unfold md
    rw [pm_u_off (by decide), pm_u_off (by decide), pm_u_at]
    unfold upd
    grind
theorem bl_max0_a {x : Int32} (h : x < 0) : 0 = bl_max0 x := by unfold bl_max0; grind
theorem bl_max0_b {x : Int32} (h : 0 ≤ x) : x = bl_max0 x := by unfold bl_max0; grind
theorem c_mo_its {d : Nat} {I : pm_I} {J : pm_J} {I0 : pm_I} {w : Nat → Int32} {g c : Int32} {n a t : Nat} {B : Nat → Nat → Int32} (hF : mo_F I0 w g c n) (ha : a ≤ 43) (ht : t < 200) (hW : mo_W I0 a t n B I) {b p : Nat} (hb : b < n) (hp1 : 1 ≤ p) (hp : p ≤ 7) : pm_M (d + 0) 0 0 yX8_its cX8_its 3 (some .int) [.ref 102, .int (nI b), .int (nI p)] SHP I J (pm_D (some (.int (B b (p + 1)))) SHP I J) := by
  obtain ⟨f1, f2, f3, f4, f5⟩ := hF
  obtain ⟨w1, w2, w3, w4, w5, w6⟩ := hW
  have n1 : I 102 2 = nI n := (w2 2 (by decide)).trans f1
  have n2 : I 102 1 = g := (w2 1 (by decide)).trans f3
  have n3 : I 102 7 = c := (w2 7 (by decide)).trans f4
  have n4 : I 103 (t % 24) = w (t % 24) := by rw [w1 103 (by decide) (by decide)]; exact f5 _ (Nat.mod_lt _ (by decide))
  rw [← w6 b hb (p + 1) (by omega), show md I a b (p + 1) = I 106 (a + 7 * b + p) by unfold md; rw [if_neg (by omega), if_neg (by omega)]; rfl]
  exact c_X8_its w3 ha (by omega) hp

theorem c_mo_weight {d : Nat} {I : pm_I} {J : pm_J} {I0 : pm_I} {w : Nat → Int32} {g c : Int32} {n a t : Nat} {B : Nat → Nat → Int32} (hF : mo_F I0 w g c n) (ha : a ≤ 43) (ht : t < 200) (hW : mo_W I0 a t n B I) {b : Nat} (hb : b < n) : pm_M (d + 1) 0 0 yX8_weight cX8_weight 2 (some .int) [.ref 102, .int (nI b)] SHP I J (pm_D (some (.int (bl_weight (B b)))) SHP I J) := by
  obtain ⟨f1, f2, f3, f4, f5⟩ := hF
  obtain ⟨w1, w2, w3, w4, w5, w6⟩ := hW
  have n1 : I 102 2 = nI n := (w2 2 (by decide)).trans f1
  have n2 : I 102 1 = g := (w2 1 (by decide)).trans f3
  have n3 : I 102 7 = c := (w2 7 (by decide)).trans f4
  have n4 : I 103 (t % 24) = w (t % 24) := by rw [w1 103 (by decide) (by decide)]; exact f5 _ (Nat.mod_lt _ (by decide))
  rw [← bl_weight_congr (w6 b hb)]
  exact c_X8_weight w3 ha (by omega)

theorem c_mo_target {d : Nat} {I : pm_I} {J : pm_J} {I0 : pm_I} {w : Nat → Int32} {g c : Int32} {n a t : Nat} {B : Nat → Nat → Int32} (hF : mo_F I0 w g c n) (ha : a ≤ 43) (ht : t < 200) (hW : mo_W I0 a t n B I) {b : Nat} (hb : b < n) : pm_M (d + 2) 0 0 yX8_target cX8_target 3 (some .int) [.ref 102, .int (nI b)] SHP I J (pm_D (some (.int (bl_target (B b) (w (t % 24) - c)))) SHP I J) := by
  obtain ⟨f1, f2, f3, f4, f5⟩ := hF
  obtain ⟨w1, w2, w3, w4, w5, w6⟩ := hW
  have n1 : I 102 2 = nI n := (w2 2 (by decide)).trans f1
  have n2 : I 102 1 = g := (w2 1 (by decide)).trans f3
  have n3 : I 102 7 = c := (w2 7 (by decide)).trans f4
  have n4 : I 103 (t % 24) = w (t % 24) := by rw [w1 103 (by decide) (by decide)]; exact f5 _ (Nat.mod_lt _ (by decide))
  rw [← bl_target_congr (w6 b hb), ← n3, ← n4]
  exact c_X8_target w3 ha (by omega) w5 ht

theorem c_mo_leaks {d : Nat} {I : pm_I} {J : pm_J} {I0 : pm_I} {w : Nat → Int32} {g c : Int32} {n a t : Nat} {B : Nat → Nat → Int32} (hF : mo_F I0 w g c n) (ha : a ≤ 43) (ht : t < 200) (hW : mo_W I0 a t n B I) {b : Nat} (hb : b < n) : pm_M (d + 1) 0 0 yX8_leaks cX8_leaks 2 (some .int) [.ref 102, .int (nI b)] SHP I J (pm_D (some (.int (bl_leaks (B b) (nI (t % 24))))) SHP I J) := by
  obtain ⟨f1, f2, f3, f4, f5⟩ := hF
  obtain ⟨w1, w2, w3, w4, w5, w6⟩ := hW
  have n1 : I 102 2 = nI n := (w2 2 (by decide)).trans f1
  have n2 : I 102 1 = g := (w2 1 (by decide)).trans f3
  have n3 : I 102 7 = c := (w2 7 (by decide)).trans f4
  have n4 : I 103 (t % 24) = w (t % 24) := by rw [w1 103 (by decide) (by decide)]; exact f5 _ (Nat.mod_lt _ (by decide))
  rw [← bl_leaks_congr (w6 b hb)]
  exact c_X8_leaks w3 ha (by omega) w5 ht

theorem c_mo_tset {d : Nat} {I : pm_I} {J : pm_J} {I0 : pm_I} {w : Nat → Int32} {g c : Int32} {n a t : Nat} {B : Nat → Nat → Int32} (hF : mo_F I0 w g c n) (ha : a ≤ 43) (ht : t < 200) (hW : mo_W I0 a t n B I) {i : Nat} (hi : i < n) : pm_M (d + 3) 0 0 yX8_touchSet cX8_touchSet 4 (some .int) [.ref 102, .int (nI i)] SHP I J (pm_D (some (.int (bl_tset B g i n))) SHP I J) := by
  obtain ⟨f1, f2, f3, f4, f5⟩ := hF
  obtain ⟨w1, w2, w3, w4, w5, w6⟩ := hW
  have n1 : I 102 2 = nI n := (w2 2 (by decide)).trans f1
  have n2 : I 102 1 = g := (w2 1 (by decide)).trans f3
  have n3 : I 102 7 = c := (w2 7 (by decide)).trans f4
  have n4 : I 103 (t % 24) = w (t % 24) := by rw [w1 103 (by decide) (by decide)]; exact f5 _ (Nat.mod_lt _ (by decide))
  rw [← bl_tset_c hi w6 n (Nat.le_refl _), ← n2]
  exact c_X8_touchSet w3 ha n1 f2 (by omega)

theorem c_mo_pairs {d : Nat} {I : pm_I} {J : pm_J} {I0 : pm_I} {w : Nat → Int32} {g c : Int32} {n a t : Nat} {B : Nat → Nat → Int32} (hF : mo_F I0 w g c n) (ha : a ≤ 43) (ht : t < 200) (hW : mo_W I0 a t n B I)  : pm_M (d + 4) 0 0 yX8_pairs cX8_pairs 3 (some .int) [.ref 102] SHP I J (pm_D (some (.int (bl_ends B g n n / 2))) SHP I J) := by
  obtain ⟨f1, f2, f3, f4, f5⟩ := hF
  obtain ⟨w1, w2, w3, w4, w5, w6⟩ := hW
  have n1 : I 102 2 = nI n := (w2 2 (by decide)).trans f1
  have n2 : I 102 1 = g := (w2 1 (by decide)).trans f3
  have n3 : I 102 7 = c := (w2 7 (by decide)).trans f4
  have n4 : I 103 (t % 24) = w (t % 24) := by rw [w1 103 (by decide) (by decide)]; exact f5 _ (Nat.mod_lt _ (by decide))
  rw [← bl_ends_c w6 n (Nat.le_refl _), ← n2]
  exact c_X8_pairs w3 ha n1 f2

theorem c_mo_touch {d : Nat} {I : pm_I} {J : pm_J} {I0 : pm_I} {w : Nat → Int32} {g c : Int32} {n a t : Nat} {B : Nat → Nat → Int32} (hF : mo_F I0 w g c n) (ha : a ≤ 43) (ht : t < 200) (hW : mo_W I0 a t n B I) {i j : Nat} (hi : i < n) (hj : j < n) : pm_M (d + 2) 0 0 yX8_isTouch cX8_isTouch 3 (some .boolean) [.ref 102, .int (nI i), .int (nI j)] SHP I J (pm_D (some (.int (pm_b (i ≠ j ∧ bl_touch (B i) (B j) g)))) SHP I J) := by
  obtain ⟨f1, f2, f3, f4, f5⟩ := hF
  obtain ⟨w1, w2, w3, w4, w5, w6⟩ := hW
  have n1 : I 102 2 = nI n := (w2 2 (by decide)).trans f1
  have n2 : I 102 1 = g := (w2 1 (by decide)).trans f3
  have n3 : I 102 7 = c := (w2 7 (by decide)).trans f4
  have n4 : I 103 (t % 24) = w (t % 24) := by rw [w1 103 (by decide) (by decide)]; exact f5 _ (Nat.mod_lt _ (by decide))
  rw [pm_b_iff (and_congr_right (fun _ => (bl_touch_c (gap := g) (w6 i hi) (w6 j hj)).symm)), ← n2]
  exact c_X8_isTouch w3 ha (by omega) (by omega)

theorem c_mo_nextA {d : Nat} {I : pm_I} {J : pm_J} {I0 : pm_I} {w : Nat → Int32} {g c : Int32} {n a t : Nat} {B : Nat → Nat → Int32} (hF : mo_F I0 w g c n) (ha : a ≤ 43) (ht : t < 200) (hW : mo_W I0 a t n B I) {i : Nat} (hi : i < n) : pm_M (d + 2) 0 0 yX8_nextTo cX8_nextTo 6 (some .int) [.ref 102, .int (nI i), .int 1] SHP I J (pm_D (some (.int (bl_enc (bl_nextA B i n)))) SHP I J) := by
  obtain ⟨f1, f2, f3, f4, f5⟩ := hF
  obtain ⟨w1, w2, w3, w4, w5, w6⟩ := hW
  have n1 : I 102 2 = nI n := (w2 2 (by decide)).trans f1
  have n2 : I 102 1 = g := (w2 1 (by decide)).trans f3
  have n3 : I 102 7 = c := (w2 7 (by decide)).trans f4
  have n4 : I 103 (t % 24) = w (t % 24) := by rw [w1 103 (by decide) (by decide)]; exact f5 _ (Nat.mod_lt _ (by decide))
  rw [← bl_nextA_c hi w6 n (Nat.le_refl _)]
  exact c_X8_nextA w3 ha n1 f2 (by omega)

theorem c_mo_nextB {d : Nat} {I : pm_I} {J : pm_J} {I0 : pm_I} {w : Nat → Int32} {g c : Int32} {n a t : Nat} {B : Nat → Nat → Int32} (hF : mo_F I0 w g c n) (ha : a ≤ 43) (ht : t < 200) (hW : mo_W I0 a t n B I) {i : Nat} (hi : i < n) : pm_M (d + 2) 0 0 yX8_nextTo cX8_nextTo 6 (some .int) [.ref 102, .int (nI i), .int 0] SHP I J (pm_D (some (.int (bl_enc (bl_nextB B i n)))) SHP I J) := by
  obtain ⟨f1, f2, f3, f4, f5⟩ := hF
  obtain ⟨w1, w2, w3, w4, w5, w6⟩ := hW
  have n1 : I 102 2 = nI n := (w2 2 (by decide)).trans f1
  have n2 : I 102 1 = g := (w2 1 (by decide)).trans f3
  have n3 : I 102 7 = c := (w2 7 (by decide)).trans f4
  have n4 : I 103 (t % 24) = w (t % 24) := by rw [w1 103 (by decide) (by decide)]; exact f5 _ (Nat.mod_lt _ (by decide))
  rw [← bl_nextB_c hi w6 n (Nat.le_refl _)]
  exact c_X8_nextB w3 ha n1 f2 (by omega)

set_option maxHeartbeats 4000000 in
set_option maxRecDepth 100000 in
theorem c_X8_reach {d : Nat} {I : pm_I} {J : pm_J} {a : Nat} (hat : I 102 6 = nI a) (ha : a ≤ 43) {n : Nat} (hn : I 102 2 = nI n) (h6 : n ≤ 6) {i : Nat} (hi : i < 6) : pm_M (d + 3) 0 0 yX8_reach cX8_reach 5 (some .int) [.ref 102, .int (nI i)] SHP I J (pm_D (some (.int (mo_reach (md I a) i n))) SHP I J) := by
  refine pm_start (own := RX8) (nm := "reach") (by decide) rfl rfl (L := [(0, .ref 102), (1, .int (nI i))]) rfl (Nat.le_of_ble_eq_true rfl) (fun Γ C C2 => ?_)
  refine g_iconst (pc := 0) (v := 0) C dX8_reach_0 (by decide) ?_
  refine g_istore_n (pc := 1) (i := 2) (L2 := [(0, _), (1, _), (2, _)]) C dX8_reach_1 rfl (by decide) rfl ?_
  refine g_aload_n (pc := 2) (i := 0) (j := 0) C dX8_reach_2 rfl rfl ?_
  refine g_iload_n (pc := 3) (i := 1) (j := 1) C dX8_reach_3 rfl rfl ?_
  refine g_iconst (pc := 4) (v := 1) C dX8_reach_4 (by decide) ?_
  refine g_callV (pc := 5) C dX8_reach_5 lmX8_249 kcX8_nextTo (by decide) (by first | rfl | assumption) (c_X8_nextA hat ha hn h6 hi) rfl rfl (Nat.le_of_ble_eq_true rfl) ?_
  intro r9 sh9 I9 J9 hD9; obtain ⟨rfl, rfl, rfl, rfl⟩ := pm_Dq hD9; clear hD9
  try simp only [Option.toList_some, Option.toList_none, List.cons_append, List.nil_append]
  refine g_istore_n (pc := 8) (i := 3) (L2 := [(0, _), (1, _), (2, _), (3, _)]) C dX8_reach_8 rfl (by decide) rfl ?_
  refine g_aload_n (pc := 9) (i := 0) (j := 0) C dX8_reach_9 rfl rfl ?_
  refine g_iload_n (pc := 10) (i := 1) (j := 1) C dX8_reach_10 rfl rfl ?_
  refine g_iconst (pc := 11) (v := 0) C dX8_reach_11 (by decide) ?_
  refine g_callV (pc := 12) C dX8_reach_12 lmX8_249 kcX8_nextTo (by decide) (by first | rfl | assumption) (c_X8_nextB hat ha hn h6 hi) rfl rfl (Nat.le_of_ble_eq_true rfl) ?_
  intro r9 sh9 I9 J9 hD9; obtain ⟨rfl, rfl, rfl, rfl⟩ := pm_Dq hD9; clear hD9
  try simp only [Option.toList_some, Option.toList_none, List.cons_append, List.nil_append]
  refine g_istore (pc := 15) (L2 := [(0, _), (1, _), (2, _), (3, _), (4, _)]) C dX8_reach_15 (by decide) rfl ?_
  cases eA : bl_nextA (md I a) i n with
  | none =>
    cases eB : bl_nextB (md I a) i n with
    | none =>
      simp only [bl_enc]
      refine g_iload_n (pc := 17) (i := 2) (j := 2) C dX8_reach_17 rfl rfl ?_
      refine g_iload_n (pc := 18) (i := 3) (j := 3) C dX8_reach_18 rfl rfl ?_
      refine g_if_lt (pc := 19) (tgt := 47) C dX8_reach_19 (by decide) (fun h19 => ?_) (fun h19 => absurd (show (-3 : Int32) < 0 by decide) h19)
      refine g_iconst (pc := 47) (v := 0) C dX8_reach_47 (by decide) ?_
      refine g_ior (pc := 48) C dX8_reach_48 ?_
      refine g_istore_n (pc := 49) (i := 2) (L2 := [(0, _), (1, _), (2, _), (3, _), (4, _)]) C dX8_reach_49 rfl (by decide) rfl ?_
      refine g_iload_n (pc := 50) (i := 2) (j := 2) C dX8_reach_50 rfl rfl ?_
      refine g_iload (pc := 51) (j := 4) C dX8_reach_51 rfl ?_
      refine g_if_lt (pc := 53) (tgt := 84) C dX8_reach_53 (by decide) (fun h53 => ?_) (fun h53 => absurd (show (-3 : Int32) < 0 by decide) h53)
      refine g_iconst (pc := 84) (v := 0) C dX8_reach_84 (by decide) ?_
      refine g_ior (pc := 85) C dX8_reach_85 ?_
      refine g_istore_n (pc := 86) (i := 2) (L2 := [(0, _), (1, _), (2, _), (3, _), (4, _)]) C dX8_reach_86 rfl (by decide) rfl ?_
      refine g_iload_n (pc := 87) (i := 2) (j := 2) C dX8_reach_87 rfl rfl ?_
      refine g_iret (pc := 88) C C2 dX8_reach_88 rfl (Nat.le_refl _) (Nat.le_refl _) ?_
      clear C C2
      refine ⟨?_, rfl, rfl, rfl⟩
      unfold mo_reach
      simp only [mo_inR, eA, eB]
      try grind
    | some mB =>
      have hB : mB < 6 := by have := bl_nextB_lt eB; omega
      have pB := nI_pos (n := mB) (by omega)
      simp only [bl_enc]
      refine g_iload_n (pc := 17) (i := 2) (j := 2) C dX8_reach_17 rfl rfl ?_
      refine g_iload_n (pc := 18) (i := 3) (j := 3) C dX8_reach_18 rfl rfl ?_
      refine g_if_lt (pc := 19) (tgt := 47) C dX8_reach_19 (by decide) (fun h19 => ?_) (fun h19 => absurd (show (-3 : Int32) < 0 by decide) h19)
      refine g_iconst (pc := 47) (v := 0) C dX8_reach_47 (by decide) ?_
      refine g_ior (pc := 48) C dX8_reach_48 ?_
      refine g_istore_n (pc := 49) (i := 2) (L2 := [(0, _), (1, _), (2, _), (3, _), (4, _)]) C dX8_reach_49 rfl (by decide) rfl ?_
      refine g_iload_n (pc := 50) (i := 2) (j := 2) C dX8_reach_50 rfl rfl ?_
      refine g_iload (pc := 51) (j := 4) C dX8_reach_51 rfl ?_
      refine g_if_lt (pc := 53) (tgt := 84) C dX8_reach_53 (by decide) (fun h53 => absurd h53 pB) (fun h53 => ?_)
      refine g_aload_n (pc := 56) (i := 0) (j := 0) C dX8_reach_56 rfl rfl ?_
      refine g_iload (pc := 57) (j := 4) C dX8_reach_57 rfl ?_
      refine g_if_lt (pc := 59) (tgt := 67) C dX8_reach_59 (by decide) (fun h59 => absurd h59 pB) (fun h59 => ?_)
      refine g_iload (pc := 62) (j := 4) C dX8_reach_62 rfl ?_
      refine g_goto (pc := 64) (tgt := 68) C dX8_reach_64 (by decide) ?_
      refine g_iload_n (pc := 68) (i := 1) (j := 1) C dX8_reach_68 rfl rfl ?_
      refine g_callV (pc := 69) C dX8_reach_69 lmX8_253 kcX8_apart (by decide) (by first | rfl | assumption) (c_X8_apart hat ha hB hi) rfl rfl (Nat.le_of_ble_eq_true rfl) ?_
      intro r9 sh9 I9 J9 hD9; obtain ⟨rfl, rfl, rfl, rfl⟩ := pm_Dq hD9; clear hD9
      try simp only [Option.toList_some, Option.toList_none, List.cons_append, List.nil_append]
      refine g_bipush (pc := 72) (v := 20) C dX8_reach_72 (by decide) ?_
      refine g_icmp_gt (pc := 74) (tgt := 84) C dX8_reach_74 (by decide) (fun h74 => ?_) (fun h74 => ?_)
      · refine g_iconst (pc := 84) (v := 0) C dX8_reach_84 (by decide) ?_
        refine g_ior (pc := 85) C dX8_reach_85 ?_
        refine g_istore_n (pc := 86) (i := 2) (L2 := [(0, _), (1, _), (2, _), (3, _), (4, _)]) C dX8_reach_86 rfl (by decide) rfl ?_
        refine g_iload_n (pc := 87) (i := 2) (j := 2) C dX8_reach_87 rfl rfl ?_
        refine g_iret (pc := 88) C C2 dX8_reach_88 rfl (Nat.le_refl _) (Nat.le_refl _) ?_
        clear C C2
        refine ⟨?_, rfl, rfl, rfl⟩
        unfold mo_reach
        simp only [mo_inR, eA, eB]
        try grind
      · refine g_iconst (pc := 77) (v := 1) C dX8_reach_77 (by decide) ?_
        refine g_iload (pc := 78) (j := 4) C dX8_reach_78 rfl ?_
        refine g_ishl (pc := 80) C dX8_reach_80 ?_
        refine g_goto (pc := 81) (tgt := 85) C dX8_reach_81 (by decide) ?_
        refine g_ior (pc := 85) C dX8_reach_85 ?_
        refine g_istore_n (pc := 86) (i := 2) (L2 := [(0, _), (1, _), (2, _), (3, _), (4, _)]) C dX8_reach_86 rfl (by decide) rfl ?_
        refine g_iload_n (pc := 87) (i := 2) (j := 2) C dX8_reach_87 rfl rfl ?_
        refine g_iret (pc := 88) C C2 dX8_reach_88 rfl (Nat.le_refl _) (Nat.le_refl _) ?_
        clear C C2
        refine ⟨?_, rfl, rfl, rfl⟩
        unfold mo_reach
        simp only [mo_inR, eA, eB]
        try grind
  | some mA =>
    have hA : mA < 6 := by have := bl_nextA_lt eA; omega
    have pA := nI_pos (n := mA) (by omega)
    cases eB : bl_nextB (md I a) i n with
    | none =>
      simp only [bl_enc]
      refine g_iload_n (pc := 17) (i := 2) (j := 2) C dX8_reach_17 rfl rfl ?_
      refine g_iload_n (pc := 18) (i := 3) (j := 3) C dX8_reach_18 rfl rfl ?_
      refine g_if_lt (pc := 19) (tgt := 47) C dX8_reach_19 (by decide) (fun h19 => absurd h19 pA) (fun h19 => ?_)
      refine g_aload_n (pc := 22) (i := 0) (j := 0) C dX8_reach_22 rfl rfl ?_
      refine g_iload_n (pc := 23) (i := 3) (j := 3) C dX8_reach_23 rfl rfl ?_
      refine g_if_lt (pc := 24) (tgt := 31) C dX8_reach_24 (by decide) (fun h24 => absurd h24 pA) (fun h24 => ?_)
      refine g_iload_n (pc := 27) (i := 3) (j := 3) C dX8_reach_27 rfl rfl ?_
      refine g_goto (pc := 28) (tgt := 32) C dX8_reach_28 (by decide) ?_
      refine g_iload_n (pc := 32) (i := 1) (j := 1) C dX8_reach_32 rfl rfl ?_
      refine g_callV (pc := 33) C dX8_reach_33 lmX8_253 kcX8_apart (by decide) (by first | rfl | assumption) (c_X8_apart hat ha hA hi) rfl rfl (Nat.le_of_ble_eq_true rfl) ?_
      intro r9 sh9 I9 J9 hD9; obtain ⟨rfl, rfl, rfl, rfl⟩ := pm_Dq hD9; clear hD9
      try simp only [Option.toList_some, Option.toList_none, List.cons_append, List.nil_append]
      refine g_bipush (pc := 36) (v := 20) C dX8_reach_36 (by decide) ?_
      refine g_icmp_gt (pc := 38) (tgt := 47) C dX8_reach_38 (by decide) (fun h38 => ?_) (fun h38 => ?_)
      · refine g_iconst (pc := 47) (v := 0) C dX8_reach_47 (by decide) ?_
        refine g_ior (pc := 48) C dX8_reach_48 ?_
        refine g_istore_n (pc := 49) (i := 2) (L2 := [(0, _), (1, _), (2, _), (3, _), (4, _)]) C dX8_reach_49 rfl (by decide) rfl ?_
        refine g_iload_n (pc := 50) (i := 2) (j := 2) C dX8_reach_50 rfl rfl ?_
        refine g_iload (pc := 51) (j := 4) C dX8_reach_51 rfl ?_
        refine g_if_lt (pc := 53) (tgt := 84) C dX8_reach_53 (by decide) (fun h53 => ?_) (fun h53 => absurd (show (-3 : Int32) < 0 by decide) h53)
        refine g_iconst (pc := 84) (v := 0) C dX8_reach_84 (by decide) ?_
        refine g_ior (pc := 85) C dX8_reach_85 ?_
        refine g_istore_n (pc := 86) (i := 2) (L2 := [(0, _), (1, _), (2, _), (3, _), (4, _)]) C dX8_reach_86 rfl (by decide) rfl ?_
        refine g_iload_n (pc := 87) (i := 2) (j := 2) C dX8_reach_87 rfl rfl ?_
        refine g_iret (pc := 88) C C2 dX8_reach_88 rfl (Nat.le_refl _) (Nat.le_refl _) ?_
        clear C C2
        refine ⟨?_, rfl, rfl, rfl⟩
        unfold mo_reach
        simp only [mo_inR, eA, eB]
        try grind
      · refine g_iconst (pc := 41) (v := 1) C dX8_reach_41 (by decide) ?_
        refine g_iload_n (pc := 42) (i := 3) (j := 3) C dX8_reach_42 rfl rfl ?_
        refine g_ishl (pc := 43) C dX8_reach_43 ?_
        refine g_goto (pc := 44) (tgt := 48) C dX8_reach_44 (by decide) ?_
        refine g_ior (pc := 48) C dX8_reach_48 ?_
        refine g_istore_n (pc := 49) (i := 2) (L2 := [(0, _), (1, _), (2, _), (3, _), (4, _)]) C dX8_reach_49 rfl (by decide) rfl ?_
        refine g_iload_n (pc := 50) (i := 2) (j := 2) C dX8_reach_50 rfl rfl ?_
        refine g_iload (pc := 51) (j := 4) C dX8_reach_51 rfl ?_
        refine g_if_lt (pc := 53) (tgt := 84) C dX8_reach_53 (by decide) (fun h53 => ?_) (fun h53 => absurd (show (-3 : Int32) < 0 by decide) h53)
        refine g_iconst (pc := 84) (v := 0) C dX8_reach_84 (by decide) ?_
        refine g_ior (pc := 85) C dX8_reach_85 ?_
        refine g_istore_n (pc := 86) (i := 2) (L2 := [(0, _), (1, _), (2, _), (3, _), (4, _)]) C dX8_reach_86 rfl (by decide) rfl ?_
        refine g_iload_n (pc := 87) (i := 2) (j := 2) C dX8_reach_87 rfl rfl ?_
        refine g_iret (pc := 88) C C2 dX8_reach_88 rfl (Nat.le_refl _) (Nat.le_refl _) ?_
        clear C C2
        refine ⟨?_, rfl, rfl, rfl⟩
        unfold mo_reach
        simp only [mo_inR, eA, eB]
        try grind
    | some mB =>
      have hB : mB < 6 := by have := bl_nextB_lt eB; omega
      have pB := nI_pos (n := mB) (by omega)
      simp only [bl_enc]
      refine g_iload_n (pc := 17) (i := 2) (j := 2) C dX8_reach_17 rfl rfl ?_
      refine g_iload_n (pc := 18) (i := 3) (j := 3) C dX8_reach_18 rfl rfl ?_
      refine g_if_lt (pc := 19) (tgt := 47) C dX8_reach_19 (by decide) (fun h19 => absurd h19 pA) (fun h19 => ?_)
      refine g_aload_n (pc := 22) (i := 0) (j := 0) C dX8_reach_22 rfl rfl ?_
      refine g_iload_n (pc := 23) (i := 3) (j := 3) C dX8_reach_23 rfl rfl ?_
      refine g_if_lt (pc := 24) (tgt := 31) C dX8_reach_24 (by decide) (fun h24 => absurd h24 pA) (fun h24 => ?_)
      refine g_iload_n (pc := 27) (i := 3) (j := 3) C dX8_reach_27 rfl rfl ?_
      refine g_goto (pc := 28) (tgt := 32) C dX8_reach_28 (by decide) ?_
      refine g_iload_n (pc := 32) (i := 1) (j := 1) C dX8_reach_32 rfl rfl ?_
      refine g_callV (pc := 33) C dX8_reach_33 lmX8_253 kcX8_apart (by decide) (by first | rfl | assumption) (c_X8_apart hat ha hA hi) rfl rfl (Nat.le_of_ble_eq_true rfl) ?_
      intro r9 sh9 I9 J9 hD9; obtain ⟨rfl, rfl, rfl, rfl⟩ := pm_Dq hD9; clear hD9
      try simp only [Option.toList_some, Option.toList_none, List.cons_append, List.nil_append]
      refine g_bipush (pc := 36) (v := 20) C dX8_reach_36 (by decide) ?_
      refine g_icmp_gt (pc := 38) (tgt := 47) C dX8_reach_38 (by decide) (fun h38 => ?_) (fun h38 => ?_)
      · refine g_iconst (pc := 47) (v := 0) C dX8_reach_47 (by decide) ?_
        refine g_ior (pc := 48) C dX8_reach_48 ?_
        refine g_istore_n (pc := 49) (i := 2) (L2 := [(0, _), (1, _), (2, _), (3, _), (4, _)]) C dX8_reach_49 rfl (by decide) rfl ?_
        refine g_iload_n (pc := 50) (i := 2) (j := 2) C dX8_reach_50 rfl rfl ?_
        refine g_iload (pc := 51) (j := 4) C dX8_reach_51 rfl ?_
        refine g_if_lt (pc := 53) (tgt := 84) C dX8_reach_53 (by decide) (fun h53 => absurd h53 pB) (fun h53 => ?_)
        refine g_aload_n (pc := 56) (i := 0) (j := 0) C dX8_reach_56 rfl rfl ?_
        refine g_iload (pc := 57) (j := 4) C dX8_reach_57 rfl ?_
        refine g_if_lt (pc := 59) (tgt := 67) C dX8_reach_59 (by decide) (fun h59 => absurd h59 pB) (fun h59 => ?_)
        refine g_iload (pc := 62) (j := 4) C dX8_reach_62 rfl ?_
        refine g_goto (pc := 64) (tgt := 68) C dX8_reach_64 (by decide) ?_
        refine g_iload_n (pc := 68) (i := 1) (j := 1) C dX8_reach_68 rfl rfl ?_
        refine g_callV (pc := 69) C dX8_reach_69 lmX8_253 kcX8_apart (by decide) (by first | rfl | assumption) (c_X8_apart hat ha hB hi) rfl rfl (Nat.le_of_ble_eq_true rfl) ?_
        intro r9 sh9 I9 J9 hD9; obtain ⟨rfl, rfl, rfl, rfl⟩ := pm_Dq hD9; clear hD9
        try simp only [Option.toList_some, Option.toList_none, List.cons_append, List.nil_append]
        refine g_bipush (pc := 72) (v := 20) C dX8_reach_72 (by decide) ?_
        refine g_icmp_gt (pc := 74) (tgt := 84) C dX8_reach_74 (by decide) (fun h74 => ?_) (fun h74 => ?_)
        · refine g_iconst (pc := 84) (v := 0) C dX8_reach_84 (by decide) ?_
          refine g_ior (pc := 85) C dX8_reach_85 ?_
          refine g_istore_n (pc := 86) (i := 2) (L2 := [(0, _), (1, _), (2, _), (3, _), (4, _)]) C dX8_reach_86 rfl (by decide) rfl ?_
          refine g_iload_n (pc := 87) (i := 2) (j := 2) C dX8_reach_87 rfl rfl ?_
          refine g_iret (pc := 88) C C2 dX8_reach_88 rfl (Nat.le_refl _) (Nat.le_refl _) ?_
          clear C C2
          refine ⟨?_, rfl, rfl, rfl⟩
          unfold mo_reach
          simp only [mo_inR, eA, eB]
          try grind
        · refine g_iconst (pc := 77) (v := 1) C dX8_reach_77 (by decide) ?_
          refine g_iload (pc := 78) (j := 4) C dX8_reach_78 rfl ?_
          refine g_ishl (pc := 80) C dX8_reach_80 ?_
          refine g_goto (pc := 81) (tgt := 85) C dX8_reach_81 (by decide) ?_
          refine g_ior (pc := 85) C dX8_reach_85 ?_
          refine g_istore_n (pc := 86) (i := 2) (L2 := [(0, _), (1, _), (2, _), (3, _), (4, _)]) C dX8_reach_86 rfl (by decide) rfl ?_
          refine g_iload_n (pc := 87) (i := 2) (j := 2) C dX8_reach_87 rfl rfl ?_
          refine g_iret (pc := 88) C C2 dX8_reach_88 rfl (Nat.le_refl _) (Nat.le_refl _) ?_
          clear C C2
          refine ⟨?_, rfl, rfl, rfl⟩
          unfold mo_reach
          simp only [mo_inR, eA, eB]
          try grind
      · refine g_iconst (pc := 41) (v := 1) C dX8_reach_41 (by decide) ?_
        refine g_iload_n (pc := 42) (i := 3) (j := 3) C dX8_reach_42 rfl rfl ?_
        refine g_ishl (pc := 43) C dX8_reach_43 ?_
        refine g_goto (pc := 44) (tgt := 48) C dX8_reach_44 (by decide) ?_
        refine g_ior (pc := 48) C dX8_reach_48 ?_
        refine g_istore_n (pc := 49) (i := 2) (L2 := [(0, _), (1, _), (2, _), (3, _), (4, _)]) C dX8_reach_49 rfl (by decide) rfl ?_
        refine g_iload_n (pc := 50) (i := 2) (j := 2) C dX8_reach_50 rfl rfl ?_
        refine g_iload (pc := 51) (j := 4) C dX8_reach_51 rfl ?_
        refine g_if_lt (pc := 53) (tgt := 84) C dX8_reach_53 (by decide) (fun h53 => absurd h53 pB) (fun h53 => ?_)
        refine g_aload_n (pc := 56) (i := 0) (j := 0) C dX8_reach_56 rfl rfl ?_
        refine g_iload (pc := 57) (j := 4) C dX8_reach_57 rfl ?_
        refine g_if_lt (pc := 59) (tgt := 67) C dX8_reach_59 (by decide) (fun h59 => absurd h59 pB) (fun h59 => ?_)
        refine g_iload (pc := 62) (j := 4) C dX8_reach_62 rfl ?_
        refine g_goto (pc := 64) (tgt := 68) C dX8_reach_64 (by decide) ?_
        refine g_iload_n (pc := 68) (i := 1) (j := 1) C dX8_reach_68 rfl rfl ?_
        refine g_callV (pc := 69) C dX8_reach_69 lmX8_253 kcX8_apart (by decide) (by first | rfl | assumption) (c_X8_apart hat ha hB hi) rfl rfl (Nat.le_of_ble_eq_true rfl) ?_
        intro r9 sh9 I9 J9 hD9; obtain ⟨rfl, rfl, rfl, rfl⟩ := pm_Dq hD9; clear hD9
        try simp only [Option.toList_some, Option.toList_none, List.cons_append, List.nil_append]
        refine g_bipush (pc := 72) (v := 20) C dX8_reach_72 (by decide) ?_
        refine g_icmp_gt (pc := 74) (tgt := 84) C dX8_reach_74 (by decide) (fun h74 => ?_) (fun h74 => ?_)
        · refine g_iconst (pc := 84) (v := 0) C dX8_reach_84 (by decide) ?_
          refine g_ior (pc := 85) C dX8_reach_85 ?_
          refine g_istore_n (pc := 86) (i := 2) (L2 := [(0, _), (1, _), (2, _), (3, _), (4, _)]) C dX8_reach_86 rfl (by decide) rfl ?_
          refine g_iload_n (pc := 87) (i := 2) (j := 2) C dX8_reach_87 rfl rfl ?_
          refine g_iret (pc := 88) C C2 dX8_reach_88 rfl (Nat.le_refl _) (Nat.le_refl _) ?_
          clear C C2
          refine ⟨?_, rfl, rfl, rfl⟩
          unfold mo_reach
          simp only [mo_inR, eA, eB]
          try grind
        · refine g_iconst (pc := 77) (v := 1) C dX8_reach_77 (by decide) ?_
          refine g_iload (pc := 78) (j := 4) C dX8_reach_78 rfl ?_
          refine g_ishl (pc := 80) C dX8_reach_80 ?_
          refine g_goto (pc := 81) (tgt := 85) C dX8_reach_81 (by decide) ?_
          refine g_ior (pc := 85) C dX8_reach_85 ?_
          refine g_istore_n (pc := 86) (i := 2) (L2 := [(0, _), (1, _), (2, _), (3, _), (4, _)]) C dX8_reach_86 rfl (by decide) rfl ?_
          refine g_iload_n (pc := 87) (i := 2) (j := 2) C dX8_reach_87 rfl rfl ?_
          refine g_iret (pc := 88) C C2 dX8_reach_88 rfl (Nat.le_refl _) (Nat.le_refl _) ?_
          clear C C2
          refine ⟨?_, rfl, rfl, rfl⟩
          unfold mo_reach
          simp only [mo_inR, eA, eB]
          try grind

theorem c_mo_reach {d : Nat} {I : pm_I} {J : pm_J} {I0 : pm_I} {w : Nat → Int32} {g c : Int32} {n a t : Nat} {B : Nat → Nat → Int32} (hF : mo_F I0 w g c n) (ha : a ≤ 43) (ht : t < 200) (hW : mo_W I0 a t n B I) {i : Nat} (hi : i < n) : pm_M (d + 3) 0 0 yX8_reach cX8_reach 5 (some .int) [.ref 102, .int (nI i)] SHP I J (pm_D (some (.int (bl_reach B i n))) SHP I J) := by
  obtain ⟨f1, f2, f3, f4, f5⟩ := hF
  obtain ⟨w1, w2, w3, w4, w5, w6⟩ := hW
  have n1 : I 102 2 = nI n := (w2 2 (by decide)).trans f1
  have n2 : I 102 1 = g := (w2 1 (by decide)).trans f3
  have n3 : I 102 7 = c := (w2 7 (by decide)).trans f4
  have n4 : I 103 (t % 24) = w (t % 24) := by rw [w1 103 (by decide) (by decide)]; exact f5 _ (Nat.mod_lt _ (by decide))
  rw [← mo_reach_c hi w6]
  exact c_X8_reach w3 ha n1 f2 (by omega)

set_option maxHeartbeats 4000000 in
set_option maxRecDepth 100000 in
theorem c_X8_canGive {d : Nat} {I : pm_I} {J : pm_J} {I0 : pm_I} {w : Nat → Int32} {g c : Int32} {n a t : Nat} {B : Nat → Nat → Int32} (hF : mo_F I0 w g c n) (ha : a ≤ 43) (ht : t < 200) (hW : mo_W I0 a t n B I) {i j p : Nat} {x : Int32} (hi : i < n) (hj : j < n) (hp : p = 5 ∨ p = 6) : pm_M (d + 4) 0 0 yX8_canGive cX8_canGive 5 (some .boolean) [.ref 102, .int (nI i), .int (nI j), .int (nI p), .int x] SHP I J (pm_D (some (.int (pm_b (bl_can B i j (p + 1) n x)))) SHP I J) := by
  refine pm_start (own := RX8) (nm := "canGive") (by decide) rfl rfl (L := [(0, .ref 102), (1, .int (nI i)), (2, .int (nI j)), (3, .int (nI p)), (4, .int x)]) rfl (Nat.le_of_ble_eq_true rfl) (fun Γ C C2 => ?_)
  refine g_aload_n (pc := 0) (i := 0) (j := 0) C dX8_canGive_0 rfl rfl ?_
  refine g_iload_n (pc := 1) (i := 1) (j := 1) C dX8_canGive_1 rfl rfl ?_
  refine g_callV (pc := 2) C dX8_canGive_2 lmX8_256 kcX8_reach (by decide) (by first | rfl | assumption) (c_mo_reach hF ha ht hW hi) rfl rfl (Nat.le_of_ble_eq_true rfl) ?_
  intro r9 sh9 I9 J9 hD9; obtain ⟨rfl, rfl, rfl, rfl⟩ := pm_Dq hD9; clear hD9
  try simp only [Option.toList_some, Option.toList_none, List.cons_append, List.nil_append]
  refine g_iload_n (pc := 5) (i := 2) (j := 2) C dX8_canGive_5 rfl rfl ?_
  refine g_ishr (pc := 6) C dX8_canGive_6 ?_
  refine g_iconst (pc := 7) (v := 1) C dX8_canGive_7 (by decide) ?_
  refine g_iand (pc := 8) C dX8_canGive_8 ?_
  refine g_iconst (pc := 9) (v := 1) C dX8_canGive_9 (by decide) ?_
  refine g_icmp_ne (pc := 10) (tgt := 53) C dX8_canGive_10 (by decide) (fun h10 => ?_) (fun h10 => ?_)
  · refine g_iconst (pc := 53) (v := 0) C dX8_canGive_53 (by decide) ?_
    refine g_iret (pc := 54) C C2 dX8_canGive_54 (by first | rfl | exact pm_nz) (Nat.le_refl _) (Nat.le_refl _) ?_
    clear C C2
    refine ⟨?_, rfl, rfl, rfl⟩
    unfold bl_can
    rcases hp with rfl | rfl
    · have e5 : nI 5 = 5 := rfl
      have e6 : (pm_tv 2).getD 6 0 = 999 := rfl
      grind [pm_b]
    · have e5 : ¬ nI 6 = 5 := by decide
      have e6 : (pm_tv 2).getD 7 0 = 99 := rfl
      grind [pm_b]
  · refine g_aload_n (pc := 13) (i := 0) (j := 0) C dX8_canGive_13 rfl rfl ?_
    refine g_iload_n (pc := 14) (i := 1) (j := 1) C dX8_canGive_14 rfl rfl ?_
    refine g_iload_n (pc := 15) (i := 3) (j := 3) C dX8_canGive_15 rfl rfl ?_
    refine g_callV (pc := 16) C dX8_canGive_16 lmX8_219 kcX8_its (by decide) (by first | rfl | assumption) (c_mo_its hF ha ht hW hi (by omega) (by omega)) rfl rfl (Nat.le_of_ble_eq_true rfl) ?_
    intro r9 sh9 I9 J9 hD9; obtain ⟨rfl, rfl, rfl, rfl⟩ := pm_Dq hD9; clear hD9
    try simp only [Option.toList_some, Option.toList_none, List.cons_append, List.nil_append]
    refine g_iload (pc := 19) (j := 4) C dX8_canGive_19 rfl ?_
    refine g_icmp_lt (pc := 21) (tgt := 53) C dX8_canGive_21 (by decide) (fun h21 => ?_) (fun h21 => ?_)
    · refine g_iconst (pc := 53) (v := 0) C dX8_canGive_53 (by decide) ?_
      refine g_iret (pc := 54) C C2 dX8_canGive_54 (by first | rfl | exact pm_nz) (Nat.le_refl _) (Nat.le_refl _) ?_
      clear C C2
      refine ⟨?_, rfl, rfl, rfl⟩
      unfold bl_can
      rcases hp with rfl | rfl
      · have e5 : nI 5 = 5 := rfl
        have e6 : (pm_tv 2).getD 6 0 = 999 := rfl
        grind [pm_b]
      · have e5 : ¬ nI 6 = 5 := by decide
        have e6 : (pm_tv 2).getD 7 0 = 99 := rfl
        grind [pm_b]
    · refine g_aload_n (pc := 24) (i := 0) (j := 0) C dX8_canGive_24 rfl rfl ?_
      refine g_iload_n (pc := 25) (i := 2) (j := 2) C dX8_canGive_25 rfl rfl ?_
      refine g_iload_n (pc := 26) (i := 3) (j := 3) C dX8_canGive_26 rfl rfl ?_
      refine g_callV (pc := 27) C dX8_canGive_27 lmX8_219 kcX8_its (by decide) (by first | rfl | assumption) (c_mo_its hF ha ht hW hj (by omega) (by omega)) rfl rfl (Nat.le_of_ble_eq_true rfl) ?_
      intro r9 sh9 I9 J9 hD9; obtain ⟨rfl, rfl, rfl, rfl⟩ := pm_Dq hD9; clear hD9
      try simp only [Option.toList_some, Option.toList_none, List.cons_append, List.nil_append]
      refine g_iload (pc := 30) (j := 4) C dX8_canGive_30 rfl ?_
      refine g_iadd (pc := 32) C dX8_canGive_32 ?_
      refine g_iload_n (pc := 33) (i := 3) (j := 3) C dX8_canGive_33 rfl rfl ?_
      refine g_iconst (pc := 34) (v := 5) C dX8_canGive_34 (by decide) ?_
      refine g_icmp_ne (pc := 35) (tgt := 44) C dX8_canGive_35 (by decide) (fun h35 => ?_) (fun h35 => ?_)
      · refine g_bipush (pc := 44) (v := 99) C dX8_canGive_44 (by decide) ?_
        refine g_icmp_gt (pc := 46) (tgt := 53) C dX8_canGive_46 (by decide) (fun h46 => ?_) (fun h46 => ?_)
        · refine g_iconst (pc := 53) (v := 0) C dX8_canGive_53 (by decide) ?_
          refine g_iret (pc := 54) C C2 dX8_canGive_54 (by first | rfl | exact pm_nz) (Nat.le_refl _) (Nat.le_refl _) ?_
          clear C C2
          refine ⟨?_, rfl, rfl, rfl⟩
          unfold bl_can
          rcases hp with rfl | rfl
          · have e5 : nI 5 = 5 := rfl
            have e6 : (pm_tv 2).getD 6 0 = 999 := rfl
            grind [pm_b]
          · have e5 : ¬ nI 6 = 5 := by decide
            have e6 : (pm_tv 2).getD 7 0 = 99 := rfl
            grind [pm_b]
        · refine g_iconst (pc := 49) (v := 1) C dX8_canGive_49 (by decide) ?_
          refine g_goto (pc := 50) (tgt := 54) C dX8_canGive_50 (by decide) ?_
          refine g_iret (pc := 54) C C2 dX8_canGive_54 (by first | rfl | exact pm_nz) (Nat.le_refl _) (Nat.le_refl _) ?_
          clear C C2
          refine ⟨?_, rfl, rfl, rfl⟩
          unfold bl_can
          rcases hp with rfl | rfl
          · have e5 : nI 5 = 5 := rfl
            have e6 : (pm_tv 2).getD 6 0 = 999 := rfl
            grind [pm_b]
          · have e5 : ¬ nI 6 = 5 := by decide
            have e6 : (pm_tv 2).getD 7 0 = 99 := rfl
            grind [pm_b]
      · refine g_sipush (pc := 38) (v := 999) C dX8_canGive_38 (by decide) ?_
        refine g_goto (pc := 41) (tgt := 46) C dX8_canGive_41 (by decide) ?_
        refine g_icmp_gt (pc := 46) (tgt := 53) C dX8_canGive_46 (by decide) (fun h46 => ?_) (fun h46 => ?_)
        · refine g_iconst (pc := 53) (v := 0) C dX8_canGive_53 (by decide) ?_
          refine g_iret (pc := 54) C C2 dX8_canGive_54 (by first | rfl | exact pm_nz) (Nat.le_refl _) (Nat.le_refl _) ?_
          clear C C2
          refine ⟨?_, rfl, rfl, rfl⟩
          unfold bl_can
          rcases hp with rfl | rfl
          · have e5 : nI 5 = 5 := rfl
            have e6 : (pm_tv 2).getD 6 0 = 999 := rfl
            grind [pm_b]
          · have e5 : ¬ nI 6 = 5 := by decide
            have e6 : (pm_tv 2).getD 7 0 = 99 := rfl
            grind [pm_b]
        · refine g_iconst (pc := 49) (v := 1) C dX8_canGive_49 (by decide) ?_
          refine g_goto (pc := 50) (tgt := 54) C dX8_canGive_50 (by decide) ?_
          refine g_iret (pc := 54) C C2 dX8_canGive_54 (by first | rfl | exact pm_nz) (Nat.le_refl _) (Nat.le_refl _) ?_
          clear C C2
          refine ⟨?_, rfl, rfl, rfl⟩
          unfold bl_can
          rcases hp with rfl | rfl
          · have e5 : nI 5 = 5 := rfl
            have e6 : (pm_tv 2).getD 6 0 = 999 := rfl
            grind [pm_b]
          · have e5 : ¬ nI 6 = 5 := by decide
            have e6 : (pm_tv 2).getD 7 0 = 99 := rfl
            grind [pm_b]

set_option maxHeartbeats 4000000 in
set_option maxRecDepth 100000 in
theorem c_X8_gives {d : Nat} {I : pm_I} {J : pm_J} {I0 : pm_I} {w : Nat → Int32} {g c : Int32} {n a t : Nat} {B : Nat → Nat → Int32} (hF : mo_F I0 w g c n) (ha : a ≤ 43) (ht : t < 200) (hW : mo_W I0 a t n B I) {i j p : Nat} {x : Int32} (hi : i < n) (hj : j < n) (hp : p = 5 ∨ p = 6) : pm_M (d + 1) 0 0 yX8_gives cX8_gives 5 (none : Option Jvm.ClassFile.FieldType) [.ref 102, .int (nI i), .int (nI j), .int (nI p), .int x] SHP I J (fun r sh2 I2 J2 => r = none ∧ sh2 = SHP ∧ J2 = J ∧ mo_W I0 a t n (mo_B1 (mo_B1 B i (p + 1) (B i (p + 1) - x)) j (p + 1) (mo_B1 B i (p + 1) (B i (p + 1) - x) j (p + 1) + x)) I2) := by
  refine pm_start (own := RX8) (nm := "gives") (by decide) rfl rfl (L := [(0, .ref 102), (1, .int (nI i)), (2, .int (nI j)), (3, .int (nI p)), (4, .int x)]) rfl (Nat.le_of_ble_eq_true rfl) (fun Γ C C2 => ?_)
  have f2 := hF.2.1
  refine g_aload_n (pc := 0) (i := 0) (j := 0) C dX8_gives_0 rfl rfl ?_
  refine g_iload_n (pc := 1) (i := 1) (j := 1) C dX8_gives_1 rfl rfl ?_
  refine g_iload_n (pc := 2) (i := 3) (j := 3) C dX8_gives_2 rfl rfl ?_
  refine g_aload_n (pc := 3) (i := 0) (j := 0) C dX8_gives_3 rfl rfl ?_
  refine g_iload_n (pc := 4) (i := 1) (j := 1) C dX8_gives_4 rfl rfl ?_
  refine g_iload_n (pc := 5) (i := 3) (j := 3) C dX8_gives_5 rfl rfl ?_
  refine g_callV (pc := 6) C dX8_gives_6 lmX8_219 kcX8_its (by decide) (by first | rfl | assumption) (c_mo_its hF ha ht hW hi (by omega) (by omega)) rfl rfl (Nat.le_of_ble_eq_true rfl) ?_
  intro r9 sh9 I9 J9 hD9; obtain ⟨rfl, rfl, rfl, rfl⟩ := pm_Dq hD9; clear hD9
  try simp only [Option.toList_some, Option.toList_none, List.cons_append, List.nil_append]
  refine g_iload (pc := 9) (j := 4) C dX8_gives_9 rfl ?_
  refine g_isub (pc := 11) C dX8_gives_11 ?_
  refine g_callV (pc := 12) C dX8_gives_12 lmX8_215 kcX8_sets (by decide) (by first | rfl | assumption) (c_X8_sets hW.2.2.1 ha (by omega) (by omega)) rfl rfl (Nat.le_of_ble_eq_true rfl) ?_
  intro r9 sh9 I9 J9 hD9; obtain ⟨rfl, rfl, rfl, rfl⟩ := pm_Dq hD9; clear hD9
  try simp only [Option.toList_some, Option.toList_none, List.cons_append, List.nil_append]
  have hW1 := mo_W_set (b := i) (p := p) (v := B i (p + 1) - x) hW (by omega) (by omega)
  refine g_aload_n (pc := 15) (i := 0) (j := 0) C dX8_gives_15 rfl rfl ?_
  refine g_iload_n (pc := 16) (i := 2) (j := 2) C dX8_gives_16 rfl rfl ?_
  refine g_iload_n (pc := 17) (i := 3) (j := 3) C dX8_gives_17 rfl rfl ?_
  refine g_aload_n (pc := 18) (i := 0) (j := 0) C dX8_gives_18 rfl rfl ?_
  refine g_iload_n (pc := 19) (i := 2) (j := 2) C dX8_gives_19 rfl rfl ?_
  refine g_iload_n (pc := 20) (i := 3) (j := 3) C dX8_gives_20 rfl rfl ?_
  refine g_callV (pc := 21) C dX8_gives_21 lmX8_219 kcX8_its (by decide) (by first | rfl | assumption) (c_mo_its hF ha ht hW1 hj (by omega) (by omega)) rfl rfl (Nat.le_of_ble_eq_true rfl) ?_
  intro r9 sh9 I9 J9 hD9; obtain ⟨rfl, rfl, rfl, rfl⟩ := pm_Dq hD9; clear hD9
  try simp only [Option.toList_some, Option.toList_none, List.cons_append, List.nil_append]
  refine g_iload (pc := 24) (j := 4) C dX8_gives_24 rfl ?_
  refine g_iadd (pc := 26) C dX8_gives_26 ?_
  refine g_callV (pc := 27) C dX8_gives_27 lmX8_215 kcX8_sets (by decide) (by first | rfl | assumption) (c_X8_sets hW1.2.2.1 ha (by omega) (by omega)) rfl rfl (Nat.le_of_ble_eq_true rfl) ?_
  intro r9 sh9 I9 J9 hD9; obtain ⟨rfl, rfl, rfl, rfl⟩ := pm_Dq hD9; clear hD9
  try simp only [Option.toList_some, Option.toList_none, List.cons_append, List.nil_append]
  refine g_vret (pc := 30) C C2 dX8_gives_30 (Nat.le_refl _) (Nat.le_refl _) ?_
  exact ⟨rfl, rfl, rfl, mo_W_set hW1 (by omega) (by omega)⟩

set_option maxHeartbeats 4000000 in
set_option maxRecDepth 100000 in
theorem c_X8_hourGoes {d : Nat} {I : pm_I} {J : pm_J} {I0 : pm_I} {w : Nat → Int32} {g c : Int32} {n a t : Nat} {B : Nat → Nat → Int32} (hF : mo_F I0 w g c n) (ha : a ≤ 43) (ht : t < 200) (hW : mo_W I0 a t n B I) (hok : ∀ b, b < n → mo_ok (B b))  : pm_M (d + 3) 0 0 yX8_hourGoes cX8_hourGoes 4 (none : Option Jvm.ClassFile.FieldType) [.ref 102] SHP I J (fun r sh2 I2 J2 => r = none ∧ sh2 = SHP ∧ J2 = J ∧ mo_W I0 a (t + 1) n (fun b => bl_pass (B b) (w (t % 24) - c) (nI (t % 24))) I2) := by
  refine pm_start (own := RX8) (nm := "hourGoes") (by decide) rfl rfl (L := [(0, .ref 102)]) rfl (Nat.le_of_ble_eq_true rfl) (fun Γ C C2 => ?_)
  have f2 := hF.2.1
  have hloop : ∀ j, j ≤ n → ∀ I2, mo_W I0 a t n (fun b => if b < j then bl_pass (B b) (w (t % 24) - c) (nI (t % 24)) else B b) I2 → pm_G Γ 0 0 2 [(0, .ref 102), (1, .int (nI j))] [] SHP I2 J := by
    refine pm_up (fun j => ∀ I2, mo_W I0 a t n (fun b => if b < j then bl_pass (B b) (w (t % 24) - c) (nI (t % 24)) else B b) I2 → pm_G Γ 0 0 2 [(0, .ref 102), (1, .int (nI j))] [] SHP I2 J) n (fun j hj ih I2 hV => ?_)
    have hn2 : I2 102 2 = nI n := (hV.2.1 2 (by decide)).trans hF.1
    refine g_iload_n (pc := 2) (i := 1) (j := 1) C dX8_hourGoes_2 rfl rfl ?_
    refine g_aload_n (pc := 3) (i := 0) (j := 0) C dX8_hourGoes_3 rfl rfl ?_
    refine g_getI (pc := 4) C dX8_hourGoes_4 lfX8_82 (by first | rfl | assumption) rfl ?_
    refine g_icmp_ge (pc := 7) (tgt := 96) C dX8_hourGoes_7 (by decide) (fun h7 => ?_) (fun h7 => ?_)
    · have ej : j = n := by (try rw [hn2] at h7); have := (nI_leI (a := n) (b := j) (by omega) (by omega)).mp h7; omega
      subst ej
      refine g_aload_n (pc := 96) (i := 0) (j := 0) C dX8_hourGoes_96 rfl rfl ?_
      refine g_getR (pc := 97) C dX8_hourGoes_97 lfX8_23 (by first | rfl | assumption) rfl ?_
      refine g_aload_n (pc := 100) (i := 0) (j := 0) C dX8_hourGoes_100 rfl rfl ?_
      refine g_getI (pc := 101) C dX8_hourGoes_101 lfX8_85 (by first | rfl | assumption) rfl ?_
      rw [hV.2.2.1]
      refine g_iconst (pc := 104) (v := 0) C dX8_hourGoes_104 (by decide) ?_
      refine g_iadd (pc := 105) C dX8_hourGoes_105 ?_
      rw [show nI a + 0 = nI a from Int32.add_zero _]
      refine g_dup2 (pc := 106) C dX8_hourGoes_106 rfl rfl ?_
      refine g_iald (pc := 107) C dX8_hourGoes_107 (by first | rfl | assumption) (by decide) (by first | rfl | assumption) (by first | assumption | decide | omega) ?_
      refine g_iconst (pc := 108) (v := 1) C dX8_hourGoes_108 (by decide) ?_
      refine g_iadd (pc := 109) C dX8_hourGoes_109 ?_
      refine g_iast (pc := 110) C dX8_hourGoes_110 (by first | rfl | assumption) (by decide) (by first | rfl | assumption) (by first | assumption | decide | omega) ?_
      refine g_vret (pc := 111) C C2 dX8_hourGoes_111 (Nat.le_refl _) (Nat.le_refl _) ?_
      exact ⟨rfl, rfl, rfl, mo_W_c (mo_W_hour hV) (fun b hb p hp => by simp only [if_pos hb])⟩
    · have hlt : j < n := by (try rw [hn2] at h7); exact Nat.lt_of_not_le (fun q => h7 ((nI_leI (a := n) (b := j) (by omega) (by omega)).mpr q))
      refine g_aload_n (pc := 10) (i := 0) (j := 0) C dX8_hourGoes_10 rfl rfl ?_
      refine g_iload_n (pc := 11) (i := 1) (j := 1) C dX8_hourGoes_11 rfl rfl ?_
      refine g_iconst (pc := 12) (v := 2) C dX8_hourGoes_12 (by decide) ?_
      refine g_aload_n (pc := 13) (i := 0) (j := 0) C dX8_hourGoes_13 rfl rfl ?_
      refine g_iload_n (pc := 14) (i := 1) (j := 1) C dX8_hourGoes_14 rfl rfl ?_
      refine g_iconst (pc := 15) (v := 2) C dX8_hourGoes_15 (by decide) ?_
      refine g_callV (pc := 16) C dX8_hourGoes_16 lmX8_219 kcX8_its (by decide) (by first | rfl | assumption) (c_mo_its hF ha ht hV hlt (p := 2) (by decide) (by decide)) rfl rfl (Nat.le_of_ble_eq_true rfl) ?_
      intro r9 sh9 I9 J9 hD9; obtain ⟨rfl, rfl, rfl, rfl⟩ := pm_Dq hD9; clear hD9
      try simp only [Option.toList_some, Option.toList_none, List.cons_append, List.nil_append]
      simp only [if_neg (Nat.lt_irrefl j)]
      refine g_aload_n (pc := 19) (i := 0) (j := 0) C dX8_hourGoes_19 rfl rfl ?_
      refine g_iload_n (pc := 20) (i := 1) (j := 1) C dX8_hourGoes_20 rfl rfl ?_
      refine g_callV (pc := 21) C dX8_hourGoes_21 lmX8_237 kcX8_target (by decide) (by first | rfl | assumption) (c_mo_target hF ha ht hV hlt) rfl rfl (Nat.le_of_ble_eq_true rfl) ?_
      intro r9 sh9 I9 J9 hD9; obtain ⟨rfl, rfl, rfl, rfl⟩ := pm_Dq hD9; clear hD9
      try simp only [Option.toList_some, Option.toList_none, List.cons_append, List.nil_append]
      simp only [if_neg (Nat.lt_irrefl j)]
      have e24 := mo_nt (t := w (t % 24) - c) (hok j hlt)
      refine g_callS (pc := 24) C dX8_hourGoes_24 lmX8_276 kcX8_nearer (by decide) (c_X8_nearer) rfl rfl (Nat.le_of_ble_eq_true rfl) ?_
      intro r9 sh9 I9 J9 hD9; obtain ⟨rfl, rfl, rfl, rfl⟩ := pm_Dq hD9; clear hD9
      try simp only [Option.toList_some, Option.toList_none, List.cons_append, List.nil_append]
      rw [show mo_near (B j (2 + 1)) (bl_target (B j) (w (t % 24) - c)) = _ from e24]
      refine g_callV (pc := 27) C dX8_hourGoes_27 lmX8_215 kcX8_sets (by decide) (by first | rfl | assumption) (c_X8_sets (p := 2) hV.2.2.1 ha (by omega) (by decide)) rfl rfl (Nat.le_of_ble_eq_true rfl) ?_
      intro r9 sh9 I9 J9 hD9; obtain ⟨rfl, rfl, rfl, rfl⟩ := pm_Dq hD9; clear hD9
      try simp only [Option.toList_some, Option.toList_none, List.cons_append, List.nil_append]
      have hV1 := mo_W_set (b := j) (p := 2) (v := B j 3 + bl_held (bl_target (B j) (w (t % 24) - c) - B j 3) (-10) 10) hV (by decide) (by decide)
      refine g_aload_n (pc := 30) (i := 0) (j := 0) C dX8_hourGoes_30 rfl rfl ?_
      refine g_iload_n (pc := 31) (i := 1) (j := 1) C dX8_hourGoes_31 rfl rfl ?_
      refine g_iconst (pc := 32) (v := 4) C dX8_hourGoes_32 (by decide) ?_
      refine g_callV (pc := 33) C dX8_hourGoes_33 lmX8_219 kcX8_its (by decide) (by first | rfl | assumption) (c_mo_its hF ha ht hV1 hlt (p := 4) (by decide) (by decide)) rfl rfl (Nat.le_of_ble_eq_true rfl) ?_
      intro r9 sh9 I9 J9 hD9; obtain ⟨rfl, rfl, rfl, rfl⟩ := pm_Dq hD9; clear hD9
      try simp only [Option.toList_some, Option.toList_none, List.cons_append, List.nil_append]
      simp only [mo_B1_at, if_neg (Nat.lt_irrefl j)]
      refine g_aload_n (pc := 36) (i := 0) (j := 0) C dX8_hourGoes_36 rfl rfl ?_
      refine g_iload_n (pc := 37) (i := 1) (j := 1) C dX8_hourGoes_37 rfl rfl ?_
      refine g_callV (pc := 38) C dX8_hourGoes_38 lmX8_240 kcX8_leaks (by decide) (by first | rfl | assumption) (c_mo_leaks hF ha ht hV1 hlt) rfl rfl (Nat.le_of_ble_eq_true rfl) ?_
      intro r9 sh9 I9 J9 hD9; obtain ⟨rfl, rfl, rfl, rfl⟩ := pm_Dq hD9; clear hD9
      try simp only [Option.toList_some, Option.toList_none, List.cons_append, List.nil_append]
      simp only [mo_B1_at, if_neg (Nat.lt_irrefl j)]
      refine g_isub (pc := 41) C dX8_hourGoes_41 ?_
      refine g_istore_n (pc := 42) (i := 2) (L2 := [(0, _), (1, _), (2, _)]) C dX8_hourGoes_42 rfl (by decide) rfl ?_
      refine g_aload_n (pc := 43) (i := 0) (j := 0) C dX8_hourGoes_43 rfl rfl ?_
      refine g_iload_n (pc := 44) (i := 1) (j := 1) C dX8_hourGoes_44 rfl rfl ?_
      refine g_iconst (pc := 45) (v := 4) C dX8_hourGoes_45 (by decide) ?_
      refine g_iload_n (pc := 46) (i := 2) (j := 2) C dX8_hourGoes_46 rfl rfl ?_
      refine g_if_ge (pc := 47) (tgt := 54) C dX8_hourGoes_47 (by decide) (fun h47 => ?_) (fun h47 => ?_)
      · refine g_iload_n (pc := 54) (i := 2) (j := 2) C dX8_hourGoes_54 rfl rfl ?_
        refine pm_Geq (st := [.int (bl_max0 (bl_p1 (B j) (w (t % 24) - c) 5 - bl_leaks (bl_p1 (B j) (w (t % 24) - c)) (nI (t % 24)))), .int 4, .int (nI j), .ref 102]) ?_ rfl (by first | exact congrArg (fun z => [Value.int z, Value.int 4, Value.int (nI j), Value.ref 102]) (bl_max0_b h47) | exact congrArg (fun z => [Value.int z, Value.int 4, Value.int (nI j), Value.ref 102]) (bl_max0_a (Int32.not_le.mp h47))) rfl rfl
        refine g_callV (pc := 55) C dX8_hourGoes_55 lmX8_215 kcX8_sets (by decide) (by first | rfl | assumption) (c_X8_sets (p := 4) hV1.2.2.1 ha (by omega) (by decide)) rfl rfl (Nat.le_of_ble_eq_true rfl) ?_
        intro r9 sh9 I9 J9 hD9; obtain ⟨rfl, rfl, rfl, rfl⟩ := pm_Dq hD9; clear hD9
        try simp only [Option.toList_some, Option.toList_none, List.cons_append, List.nil_append]
        have hV2 := mo_W_set (b := j) (p := 4) (v := bl_max0 (bl_p1 (B j) (w (t % 24) - c) 5 - bl_leaks (bl_p1 (B j) (w (t % 24) - c)) (nI (t % 24)))) hV1 (by decide) (by decide)
        refine g_aload_n (pc := 58) (i := 0) (j := 0) C dX8_hourGoes_58 rfl rfl ?_
        refine g_iload_n (pc := 59) (i := 1) (j := 1) C dX8_hourGoes_59 rfl rfl ?_
        refine g_bipush (pc := 60) (v := 6) C dX8_hourGoes_60 (by decide) ?_
        refine g_callV (pc := 62) C dX8_hourGoes_62 lmX8_219 kcX8_its (by decide) (by first | rfl | assumption) (c_mo_its hF ha ht hV2 hlt (p := 6) (by decide) (by decide)) rfl rfl (Nat.le_of_ble_eq_true rfl) ?_
        intro r9 sh9 I9 J9 hD9; obtain ⟨rfl, rfl, rfl, rfl⟩ := pm_Dq hD9; clear hD9
        try simp only [Option.toList_some, Option.toList_none, List.cons_append, List.nil_append]
        simp only [mo_B1_at, if_neg (Nat.lt_irrefl j)]
        refine g_aload_n (pc := 65) (i := 0) (j := 0) C dX8_hourGoes_65 rfl rfl ?_
        refine g_iload_n (pc := 66) (i := 1) (j := 1) C dX8_hourGoes_66 rfl rfl ?_
        refine g_bipush (pc := 67) (v := 7) C dX8_hourGoes_67 (by decide) ?_
        refine g_callV (pc := 69) C dX8_hourGoes_69 lmX8_219 kcX8_its (by decide) (by first | rfl | assumption) (c_mo_its hF ha ht hV2 hlt (p := 7) (by decide) (by decide)) rfl rfl (Nat.le_of_ble_eq_true rfl) ?_
        intro r9 sh9 I9 J9 hD9; obtain ⟨rfl, rfl, rfl, rfl⟩ := pm_Dq hD9; clear hD9
        try simp only [Option.toList_some, Option.toList_none, List.cons_append, List.nil_append]
        simp only [mo_B1_at, if_neg (Nat.lt_irrefl j)]
        refine g_isub (pc := 72) C dX8_hourGoes_72 ?_
        refine g_istore_n (pc := 73) (i := 3) (L2 := [(0, _), (1, _), (2, _), (3, _)]) C dX8_hourGoes_73 rfl (by decide) rfl ?_
        refine g_aload_n (pc := 74) (i := 0) (j := 0) C dX8_hourGoes_74 rfl rfl ?_
        refine g_iload_n (pc := 75) (i := 1) (j := 1) C dX8_hourGoes_75 rfl rfl ?_
        refine g_bipush (pc := 76) (v := 6) C dX8_hourGoes_76 (by decide) ?_
        refine g_iload_n (pc := 78) (i := 3) (j := 3) C dX8_hourGoes_78 rfl rfl ?_
        refine g_if_ge (pc := 79) (tgt := 86) C dX8_hourGoes_79 (by decide) (fun h79 => ?_) (fun h79 => ?_)
        · refine g_iload_n (pc := 86) (i := 3) (j := 3) C dX8_hourGoes_86 rfl rfl ?_
          refine pm_Geq (st := [.int (bl_max0 (bl_p2 (bl_p1 (B j) (w (t % 24) - c)) (nI (t % 24)) 7 - bl_p2 (bl_p1 (B j) (w (t % 24) - c)) (nI (t % 24)) 8)), .int 6, .int (nI j), .ref 102]) ?_ rfl (by first | exact congrArg (fun z => [Value.int z, Value.int 6, Value.int (nI j), Value.ref 102]) (bl_max0_b h79) | exact congrArg (fun z => [Value.int z, Value.int 6, Value.int (nI j), Value.ref 102]) (bl_max0_a (Int32.not_le.mp h79))) rfl rfl
          refine g_callV (pc := 87) C dX8_hourGoes_87 lmX8_215 kcX8_sets (by decide) (by first | rfl | assumption) (c_X8_sets (p := 6) hV2.2.2.1 ha (by omega) (by decide)) rfl rfl (Nat.le_of_ble_eq_true rfl) ?_
          intro r9 sh9 I9 J9 hD9; obtain ⟨rfl, rfl, rfl, rfl⟩ := pm_Dq hD9; clear hD9
          try simp only [Option.toList_some, Option.toList_none, List.cons_append, List.nil_append]
          refine g_iinc (pc := 90) (j := 1) (v := _ + 1) (L2 := [(0, _), (1, _), (2, _), (3, _)]) C dX8_hourGoes_90 rfl rfl (by decide) rfl ?_
          refine g_goto (pc := 93) (tgt := 2) C dX8_hourGoes_93 (by decide) ?_
          refine pm_drop (L := [(0, _), (1, _)]) ?_ [0, 1] rfl
          refine pm_Geq (ih hlt _ (mo_W_c (mo_W_set (b := j) (p := 6) (v := _) hV2 (by decide) (by decide)) (fun b hb p hp => ?_))) (by simp only [nI_1]) rfl rfl rfl
          by_cases e : b = j
          · subst e
            simp only [mo_B1_at, if_neg (Nat.lt_irrefl b), if_pos (Nat.lt_succ_self b)]
            rfl
          · simp only [mo_B1, if_neg e]
            by_cases e2 : b < j
            · rw [if_pos e2, if_pos (by omega)]
            · rw [if_neg e2, if_neg (by omega)]
        · refine g_iconst (pc := 82) (v := 0) C dX8_hourGoes_82 (by decide) ?_
          refine g_goto (pc := 83) (tgt := 87) C dX8_hourGoes_83 (by decide) ?_
          refine pm_Geq (st := [.int (bl_max0 (bl_p2 (bl_p1 (B j) (w (t % 24) - c)) (nI (t % 24)) 7 - bl_p2 (bl_p1 (B j) (w (t % 24) - c)) (nI (t % 24)) 8)), .int 6, .int (nI j), .ref 102]) ?_ rfl (by first | exact congrArg (fun z => [Value.int z, Value.int 6, Value.int (nI j), Value.ref 102]) (bl_max0_b h79) | exact congrArg (fun z => [Value.int z, Value.int 6, Value.int (nI j), Value.ref 102]) (bl_max0_a (Int32.not_le.mp h79))) rfl rfl
          refine g_callV (pc := 87) C dX8_hourGoes_87 lmX8_215 kcX8_sets (by decide) (by first | rfl | assumption) (c_X8_sets (p := 6) hV2.2.2.1 ha (by omega) (by decide)) rfl rfl (Nat.le_of_ble_eq_true rfl) ?_
          intro r9 sh9 I9 J9 hD9; obtain ⟨rfl, rfl, rfl, rfl⟩ := pm_Dq hD9; clear hD9
          try simp only [Option.toList_some, Option.toList_none, List.cons_append, List.nil_append]
          refine g_iinc (pc := 90) (j := 1) (v := _ + 1) (L2 := [(0, _), (1, _), (2, _), (3, _)]) C dX8_hourGoes_90 rfl rfl (by decide) rfl ?_
          refine g_goto (pc := 93) (tgt := 2) C dX8_hourGoes_93 (by decide) ?_
          refine pm_drop (L := [(0, _), (1, _)]) ?_ [0, 1] rfl
          refine pm_Geq (ih hlt _ (mo_W_c (mo_W_set (b := j) (p := 6) (v := _) hV2 (by decide) (by decide)) (fun b hb p hp => ?_))) (by simp only [nI_1]) rfl rfl rfl
          by_cases e : b = j
          · subst e
            simp only [mo_B1_at, if_neg (Nat.lt_irrefl b), if_pos (Nat.lt_succ_self b)]
            rfl
          · simp only [mo_B1, if_neg e]
            by_cases e2 : b < j
            · rw [if_pos e2, if_pos (by omega)]
            · rw [if_neg e2, if_neg (by omega)]
      · refine g_iconst (pc := 50) (v := 0) C dX8_hourGoes_50 (by decide) ?_
        refine g_goto (pc := 51) (tgt := 55) C dX8_hourGoes_51 (by decide) ?_
        refine pm_Geq (st := [.int (bl_max0 (bl_p1 (B j) (w (t % 24) - c) 5 - bl_leaks (bl_p1 (B j) (w (t % 24) - c)) (nI (t % 24)))), .int 4, .int (nI j), .ref 102]) ?_ rfl (by first | exact congrArg (fun z => [Value.int z, Value.int 4, Value.int (nI j), Value.ref 102]) (bl_max0_b h47) | exact congrArg (fun z => [Value.int z, Value.int 4, Value.int (nI j), Value.ref 102]) (bl_max0_a (Int32.not_le.mp h47))) rfl rfl
        refine g_callV (pc := 55) C dX8_hourGoes_55 lmX8_215 kcX8_sets (by decide) (by first | rfl | assumption) (c_X8_sets (p := 4) hV1.2.2.1 ha (by omega) (by decide)) rfl rfl (Nat.le_of_ble_eq_true rfl) ?_
        intro r9 sh9 I9 J9 hD9; obtain ⟨rfl, rfl, rfl, rfl⟩ := pm_Dq hD9; clear hD9
        try simp only [Option.toList_some, Option.toList_none, List.cons_append, List.nil_append]
        have hV2 := mo_W_set (b := j) (p := 4) (v := bl_max0 (bl_p1 (B j) (w (t % 24) - c) 5 - bl_leaks (bl_p1 (B j) (w (t % 24) - c)) (nI (t % 24)))) hV1 (by decide) (by decide)
        refine g_aload_n (pc := 58) (i := 0) (j := 0) C dX8_hourGoes_58 rfl rfl ?_
        refine g_iload_n (pc := 59) (i := 1) (j := 1) C dX8_hourGoes_59 rfl rfl ?_
        refine g_bipush (pc := 60) (v := 6) C dX8_hourGoes_60 (by decide) ?_
        refine g_callV (pc := 62) C dX8_hourGoes_62 lmX8_219 kcX8_its (by decide) (by first | rfl | assumption) (c_mo_its hF ha ht hV2 hlt (p := 6) (by decide) (by decide)) rfl rfl (Nat.le_of_ble_eq_true rfl) ?_
        intro r9 sh9 I9 J9 hD9; obtain ⟨rfl, rfl, rfl, rfl⟩ := pm_Dq hD9; clear hD9
        try simp only [Option.toList_some, Option.toList_none, List.cons_append, List.nil_append]
        simp only [mo_B1_at, if_neg (Nat.lt_irrefl j)]
        refine g_aload_n (pc := 65) (i := 0) (j := 0) C dX8_hourGoes_65 rfl rfl ?_
        refine g_iload_n (pc := 66) (i := 1) (j := 1) C dX8_hourGoes_66 rfl rfl ?_
        refine g_bipush (pc := 67) (v := 7) C dX8_hourGoes_67 (by decide) ?_
        refine g_callV (pc := 69) C dX8_hourGoes_69 lmX8_219 kcX8_its (by decide) (by first | rfl | assumption) (c_mo_its hF ha ht hV2 hlt (p := 7) (by decide) (by decide)) rfl rfl (Nat.le_of_ble_eq_true rfl) ?_
        intro r9 sh9 I9 J9 hD9; obtain ⟨rfl, rfl, rfl, rfl⟩ := pm_Dq hD9; clear hD9
        try simp only [Option.toList_some, Option.toList_none, List.cons_append, List.nil_append]
        simp only [mo_B1_at, if_neg (Nat.lt_irrefl j)]
        refine g_isub (pc := 72) C dX8_hourGoes_72 ?_
        refine g_istore_n (pc := 73) (i := 3) (L2 := [(0, _), (1, _), (2, _), (3, _)]) C dX8_hourGoes_73 rfl (by decide) rfl ?_
        refine g_aload_n (pc := 74) (i := 0) (j := 0) C dX8_hourGoes_74 rfl rfl ?_
        refine g_iload_n (pc := 75) (i := 1) (j := 1) C dX8_hourGoes_75 rfl rfl ?_
        refine g_bipush (pc := 76) (v := 6) C dX8_hourGoes_76 (by decide) ?_
        refine g_iload_n (pc := 78) (i := 3) (j := 3) C dX8_hourGoes_78 rfl rfl ?_
        refine g_if_ge (pc := 79) (tgt := 86) C dX8_hourGoes_79 (by decide) (fun h79 => ?_) (fun h79 => ?_)
        · refine g_iload_n (pc := 86) (i := 3) (j := 3) C dX8_hourGoes_86 rfl rfl ?_
          refine pm_Geq (st := [.int (bl_max0 (bl_p2 (bl_p1 (B j) (w (t % 24) - c)) (nI (t % 24)) 7 - bl_p2 (bl_p1 (B j) (w (t % 24) - c)) (nI (t % 24)) 8)), .int 6, .int (nI j), .ref 102]) ?_ rfl (by first | exact congrArg (fun z => [Value.int z, Value.int 6, Value.int (nI j), Value.ref 102]) (bl_max0_b h79) | exact congrArg (fun z => [Value.int z, Value.int 6, Value.int (nI j), Value.ref 102]) (bl_max0_a (Int32.not_le.mp h79))) rfl rfl
          refine g_callV (pc := 87) C dX8_hourGoes_87 lmX8_215 kcX8_sets (by decide) (by first | rfl | assumption) (c_X8_sets (p := 6) hV2.2.2.1 ha (by omega) (by decide)) rfl rfl (Nat.le_of_ble_eq_true rfl) ?_
          intro r9 sh9 I9 J9 hD9; obtain ⟨rfl, rfl, rfl, rfl⟩ := pm_Dq hD9; clear hD9
          try simp only [Option.toList_some, Option.toList_none, List.cons_append, List.nil_append]
          refine g_iinc (pc := 90) (j := 1) (v := _ + 1) (L2 := [(0, _), (1, _), (2, _), (3, _)]) C dX8_hourGoes_90 rfl rfl (by decide) rfl ?_
          refine g_goto (pc := 93) (tgt := 2) C dX8_hourGoes_93 (by decide) ?_
          refine pm_drop (L := [(0, _), (1, _)]) ?_ [0, 1] rfl
          refine pm_Geq (ih hlt _ (mo_W_c (mo_W_set (b := j) (p := 6) (v := _) hV2 (by decide) (by decide)) (fun b hb p hp => ?_))) (by simp only [nI_1]) rfl rfl rfl
          by_cases e : b = j
          · subst e
            simp only [mo_B1_at, if_neg (Nat.lt_irrefl b), if_pos (Nat.lt_succ_self b)]
            rfl
          · simp only [mo_B1, if_neg e]
            by_cases e2 : b < j
            · rw [if_pos e2, if_pos (by omega)]
            · rw [if_neg e2, if_neg (by omega)]
        · refine g_iconst (pc := 82) (v := 0) C dX8_hourGoes_82 (by decide) ?_
          refine g_goto (pc := 83) (tgt := 87) C dX8_hourGoes_83 (by decide) ?_
          refine pm_Geq (st := [.int (bl_max0 (bl_p2 (bl_p1 (B j) (w (t % 24) - c)) (nI (t % 24)) 7 - bl_p2 (bl_p1 (B j) (w (t % 24) - c)) (nI (t % 24)) 8)), .int 6, .int (nI j), .ref 102]) ?_ rfl (by first | exact congrArg (fun z => [Value.int z, Value.int 6, Value.int (nI j), Value.ref 102]) (bl_max0_b h79) | exact congrArg (fun z => [Value.int z, Value.int 6, Value.int (nI j), Value.ref 102]) (bl_max0_a (Int32.not_le.mp h79))) rfl rfl
          refine g_callV (pc := 87) C dX8_hourGoes_87 lmX8_215 kcX8_sets (by decide) (by first | rfl | assumption) (c_X8_sets (p := 6) hV2.2.2.1 ha (by omega) (by decide)) rfl rfl (Nat.le_of_ble_eq_true rfl) ?_
          intro r9 sh9 I9 J9 hD9; obtain ⟨rfl, rfl, rfl, rfl⟩ := pm_Dq hD9; clear hD9
          try simp only [Option.toList_some, Option.toList_none, List.cons_append, List.nil_append]
          refine g_iinc (pc := 90) (j := 1) (v := _ + 1) (L2 := [(0, _), (1, _), (2, _), (3, _)]) C dX8_hourGoes_90 rfl rfl (by decide) rfl ?_
          refine g_goto (pc := 93) (tgt := 2) C dX8_hourGoes_93 (by decide) ?_
          refine pm_drop (L := [(0, _), (1, _)]) ?_ [0, 1] rfl
          refine pm_Geq (ih hlt _ (mo_W_c (mo_W_set (b := j) (p := 6) (v := _) hV2 (by decide) (by decide)) (fun b hb p hp => ?_))) (by simp only [nI_1]) rfl rfl rfl
          by_cases e : b = j
          · subst e
            simp only [mo_B1_at, if_neg (Nat.lt_irrefl b), if_pos (Nat.lt_succ_self b)]
            rfl
          · simp only [mo_B1, if_neg e]
            by_cases e2 : b < j
            · rw [if_pos e2, if_pos (by omega)]
            · rw [if_neg e2, if_neg (by omega)]
  refine g_iconst (pc := 0) (v := 0) C dX8_hourGoes_0 (by decide) ?_
  refine g_istore_n (pc := 1) (i := 1) (L2 := [(0, _), (1, _)]) C dX8_hourGoes_1 rfl (by decide) rfl ?_
  refine pm_Geq (hloop 0 (Nat.zero_le _) I ?_) rfl rfl rfl rfl
  exact mo_W_c hW (fun b hb p hp => by simp)

set_option maxHeartbeats 4000000 in
set_option maxRecDepth 100000 in
theorem c_X8_goesOn {d : Nat} {I : pm_I} {J : pm_J} {I0 : pm_I} {w : Nat → Int32} {g c : Int32} {n a t : Nat} {B : Nat → Nat → Int32} (hF : mo_F I0 w g c n) (ha : a ≤ 43) (ht : t ≤ 96) (hok : ∀ b, b < n → mo_ok (B b)) {k : Nat} (hk : t + k ≤ 96) (hE : mo_E I0 w c a t n B k I) : pm_M (d + 4) 0 0 yX8_goesOn cX8_goesOn 2 (some .boolean) [.ref 102] SHP I J (fun r sh2 I2 J2 => r = some (.int (pm_b (t + k < 96))) ∧ sh2 = SHP ∧ J2 = J ∧ (t + k < 96 → mo_E I0 w c a t n B (k + 1) I2) ∧ (¬ t + k < 96 → I2 = I)) := by
  refine pm_start (own := RX8) (nm := "goesOn") (by decide) rfl rfl (L := [(0, .ref 102)]) rfl (Nat.le_of_ble_eq_true rfl) (fun Γ C C2 => ?_)
  refine g_aload_n (pc := 0) (i := 0) (j := 0) C dX8_goesOn_0 rfl rfl ?_
  refine g_getR (pc := 1) C dX8_goesOn_1 lfX8_23 (by first | rfl | assumption) rfl ?_
  refine g_aload_n (pc := 4) (i := 0) (j := 0) C dX8_goesOn_4 rfl rfl ?_
  refine g_getI (pc := 5) C dX8_goesOn_5 lfX8_85 (by first | rfl | assumption) rfl ?_
  refine g_iconst (pc := 8) (v := 0) C dX8_goesOn_8 (by decide) ?_
  refine g_iadd (pc := 9) C dX8_goesOn_9 ?_
  refine g_iald (pc := 10) C dX8_goesOn_10 (by first | rfl | assumption) (by decide) (show I 102 6 + 0 = nI a by rw [hE.2.2.1]; exact Int32.add_zero _) (by first | assumption | decide | omega) ?_
  rw [hE.2.2.2.2.1]
  have e96 := nI_leI (a := 96) (b := t + k) (by omega) (by omega)
  have e97 : nI 96 = 96 := rfl
  rw [e97] at e96
  refine g_bipush (pc := 11) (v := 96) C dX8_goesOn_11 (by decide) ?_
  refine g_icmp_ge (pc := 13) (tgt := 20) C dX8_goesOn_13 (by decide) (fun h13 => ?_) (fun h13 => ?_)
  · refine g_iconst (pc := 20) (v := 0) C dX8_goesOn_20 (by decide) ?_
    refine g_istore_n (pc := 21) (i := 1) (L2 := [(0, _), (1, _)]) C dX8_goesOn_21 rfl (by decide) rfl ?_
    refine g_iload_n (pc := 22) (i := 1) (j := 1) C dX8_goesOn_22 rfl rfl ?_
    refine g_if_eq (pc := 23) (tgt := 30) C dX8_goesOn_23 (by decide) (fun h23 => ?_) (fun h23 => ?_)
    · refine g_iload_n (pc := 30) (i := 1) (j := 1) C dX8_goesOn_30 rfl rfl ?_
      refine g_iret (pc := 31) C C2 dX8_goesOn_31 (by first | rfl | exact pm_nz) (Nat.le_refl _) (Nat.le_refl _) ?_
      first | exact absurd h23 (by decide) | exact absurd rfl h23 | (have q : t + k < 96 := Nat.lt_of_not_le (fun z => h13 (e96.mpr z)); exact ⟨by rw [pm_b, if_pos q], rfl, rfl, fun _ => hE2, fun z => absurd q z⟩) | (have q := e96.mp h13; exact ⟨by rw [pm_b, if_neg (by omega)], rfl, rfl, fun z => absurd z (by omega), fun _ => rfl⟩)
    · refine g_aload_n (pc := 26) (i := 0) (j := 0) C dX8_goesOn_26 rfl rfl ?_
      refine g_callV (pc := 27) C dX8_goesOn_27 lmX8_279 kcX8_hourGoes (by decide) (by first | rfl | assumption) (c_X8_hourGoes hF ha (by omega) hE (fun b hb => tr_ev_ok (hok b hb) k)) rfl rfl (Nat.le_of_ble_eq_true rfl) ?_
      intro r9 sh9 I9 J9 hD9; obtain ⟨rfl, rfl, rfl, hE2⟩ := hD9
      try simp only [Option.toList_some, Option.toList_none, List.cons_append, List.nil_append]
      refine g_iload_n (pc := 30) (i := 1) (j := 1) C dX8_goesOn_30 rfl rfl ?_
      refine g_iret (pc := 31) C C2 dX8_goesOn_31 (by first | rfl | exact pm_nz) (Nat.le_refl _) (Nat.le_refl _) ?_
      first | exact absurd h23 (by decide) | exact absurd rfl h23 | (have q : t + k < 96 := Nat.lt_of_not_le (fun z => h13 (e96.mpr z)); exact ⟨by rw [pm_b, if_pos q], rfl, rfl, fun _ => hE2, fun z => absurd q z⟩) | (have q := e96.mp h13; exact ⟨by rw [pm_b, if_neg (by omega)], rfl, rfl, fun z => absurd z (by omega), fun _ => rfl⟩)
  · refine g_iconst (pc := 16) (v := 1) C dX8_goesOn_16 (by decide) ?_
    refine g_goto (pc := 17) (tgt := 21) C dX8_goesOn_17 (by decide) ?_
    refine g_istore_n (pc := 21) (i := 1) (L2 := [(0, _), (1, _)]) C dX8_goesOn_21 rfl (by decide) rfl ?_
    refine g_iload_n (pc := 22) (i := 1) (j := 1) C dX8_goesOn_22 rfl rfl ?_
    refine g_if_eq (pc := 23) (tgt := 30) C dX8_goesOn_23 (by decide) (fun h23 => ?_) (fun h23 => ?_)
    · refine g_iload_n (pc := 30) (i := 1) (j := 1) C dX8_goesOn_30 rfl rfl ?_
      refine g_iret (pc := 31) C C2 dX8_goesOn_31 (by first | rfl | exact pm_nz) (Nat.le_refl _) (Nat.le_refl _) ?_
      first | exact absurd h23 (by decide) | exact absurd rfl h23 | (have q : t + k < 96 := Nat.lt_of_not_le (fun z => h13 (e96.mpr z)); exact ⟨by rw [pm_b, if_pos q], rfl, rfl, fun _ => hE2, fun z => absurd q z⟩) | (have q := e96.mp h13; exact ⟨by rw [pm_b, if_neg (by omega)], rfl, rfl, fun z => absurd z (by omega), fun _ => rfl⟩)
    · refine g_aload_n (pc := 26) (i := 0) (j := 0) C dX8_goesOn_26 rfl rfl ?_
      refine g_callV (pc := 27) C dX8_goesOn_27 lmX8_279 kcX8_hourGoes (by decide) (by first | rfl | assumption) (c_X8_hourGoes hF ha (by omega) hE (fun b hb => tr_ev_ok (hok b hb) k)) rfl rfl (Nat.le_of_ble_eq_true rfl) ?_
      intro r9 sh9 I9 J9 hD9; obtain ⟨rfl, rfl, rfl, hE2⟩ := hD9
      try simp only [Option.toList_some, Option.toList_none, List.cons_append, List.nil_append]
      refine g_iload_n (pc := 30) (i := 1) (j := 1) C dX8_goesOn_30 rfl rfl ?_
      refine g_iret (pc := 31) C C2 dX8_goesOn_31 (by first | rfl | exact pm_nz) (Nat.le_refl _) (Nat.le_refl _) ?_
      first | exact absurd h23 (by decide) | exact absurd rfl h23 | (have q : t + k < 96 := Nat.lt_of_not_le (fun z => h13 (e96.mpr z)); exact ⟨by rw [pm_b, if_pos q], rfl, rfl, fun _ => hE2, fun z => absurd q z⟩) | (have q := e96.mp h13; exact ⟨by rw [pm_b, if_neg (by omega)], rfl, rfl, fun z => absurd z (by omega), fun _ => rfl⟩)

set_option maxHeartbeats 4000000 in
set_option maxRecDepth 100000 in
theorem c_X8_go {d : Nat} {I : pm_I} {J : pm_J} {I0 : pm_I} {w : Nat → Int32} {g c : Int32} {n a t : Nat} {B : Nat → Nat → Int32} (hF : mo_F I0 w g c n) (ha : a ≤ 43) (ht : t ≤ 96) (hok : ∀ b, b < n → mo_ok (B b)) {h : Nat} (hh : h ≤ 48) (hE : mo_E I0 w c a t n B 0 I) : pm_M (d + 5) 0 0 yX8_go cX8_go 3 (none : Option Jvm.ClassFile.FieldType) [.ref 102, .int (nI h)] SHP I J (fun r sh2 I2 J2 => r = none ∧ sh2 = SHP ∧ J2 = J ∧ mo_E I0 w c a t n B (min h (96 - t)) I2) := by
  refine pm_start (own := RX8) (nm := "go") (by decide) rfl rfl (L := [(0, .ref 102), (1, .int (nI h))]) rfl (Nat.le_of_ble_eq_true rfl) (fun Γ C C2 => ?_)
  have hloop : ∀ j, j ≤ min h (96 - t) → ∀ I2, mo_E I0 w c a t n B j I2 → pm_G Γ 0 0 2 [(0, .ref 102), (1, .int (nI h)), (2, .int (nI j))] [] SHP I2 J := by
    refine pm_up (fun j => ∀ I2, mo_E I0 w c a t n B j I2 → pm_G Γ 0 0 2 [(0, .ref 102), (1, .int (nI h)), (2, .int (nI j))] [] SHP I2 J) (min h (96 - t)) (fun j hj ih I2 hV => ?_)
    refine g_iload_n (pc := 2) (i := 2) (j := 2) C dX8_go_2 rfl rfl ?_
    refine g_iload_n (pc := 3) (i := 1) (j := 1) C dX8_go_3 rfl rfl ?_
    refine g_icmp_ge (pc := 4) (tgt := 20) C dX8_go_4 (by decide) (fun h4 => ?_) (fun h4 => ?_)
    · refine g_vret (pc := 20) C C2 dX8_go_20 (Nat.le_refl _) (Nat.le_refl _) ?_
      refine ⟨rfl, rfl, rfl, ?_⟩
      first | (have q := (nI_leI (a := h) (b := j) (by omega) (by omega)).mp h4; rw [show min h (96 - t) = j by omega]; exact hV) | (rw [hN h11, show min h (96 - t) = j by omega]; exact hV)
    · refine g_aload_n (pc := 7) (i := 0) (j := 0) C dX8_go_7 rfl rfl ?_
      refine g_callV (pc := 8) C dX8_go_8 lmX8_282 kcX8_goesOn (by decide) (by first | rfl | assumption) (c_X8_goesOn hF ha ht hok (k := j) (by omega) hV) rfl rfl (Nat.le_of_ble_eq_true rfl) ?_
      intro r9 sh9 I9 J9 hD9; obtain ⟨rfl, rfl, rfl, hY, hN⟩ := hD9
      try simp only [Option.toList_some, Option.toList_none, List.cons_append, List.nil_append]
      refine g_if_eqB (pc := 11) (tgt := 20) C dX8_go_11 (by decide) (fun h11 => ?_) (fun h11 => ?_)
      · refine g_vret (pc := 20) C C2 dX8_go_20 (Nat.le_refl _) (Nat.le_refl _) ?_
        refine ⟨rfl, rfl, rfl, ?_⟩
        first | (have q := (nI_leI (a := h) (b := j) (by omega) (by omega)).mp h4; rw [show min h (96 - t) = j by omega]; exact hV) | (rw [hN h11, show min h (96 - t) = j by omega]; exact hV)
      · refine g_iinc (pc := 14) (j := 2) (v := _ + 1) (L2 := [(0, _), (1, _), (2, _)]) C dX8_go_14 rfl rfl (by decide) rfl ?_
        refine g_goto (pc := 17) (tgt := 2) C dX8_go_17 (by decide) ?_
        have q4 : ¬ h ≤ j := fun z => h4 ((nI_leI (a := h) (b := j) (by omega) (by omega)).mpr z)
        exact pm_Geq (ih (by omega) _ (hY h11)) (by simp only [nI_1]) rfl rfl rfl
  refine g_iconst (pc := 0) (v := 0) C dX8_go_0 (by decide) ?_
  refine g_istore_n (pc := 1) (i := 2) (L2 := [(0, _), (1, _), (2, _)]) C dX8_go_1 rfl (by decide) rfl ?_
  exact hloop 0 (Nat.zero_le _) _ hE

set_option maxHeartbeats 4000000 in
set_option maxRecDepth 100000 in
theorem c_X8_lends {d : Nat} {I : pm_I} {J : pm_J} : pm_M d 0 0 yX8_lends cX8_lends 2 (none : Option Jvm.ClassFile.FieldType) [.ref 102] SHP I J (pm_D none SHP (pm_u (pm_s (pm_u I 102 6 0) 106 (mo_len (I 106) 43)) 102 6 43) J) := by
  refine pm_start (own := RX8) (nm := "lends") (by decide) rfl rfl (L := [(0, .ref 102)]) rfl (Nat.le_of_ble_eq_true rfl) (fun Γ C C2 => ?_)
  have hloop : ∀ j, j ≤ 43 → pm_G Γ 0 0 7 [(0, .ref 102), (1, .int (nI j))] [] SHP (pm_s (pm_u I 102 6 0) 106 (mo_len (I 106) j)) J := by
    refine pm_up (fun j => pm_G Γ 0 0 7 [(0, .ref 102), (1, .int (nI j))] [] SHP (pm_s (pm_u I 102 6 0) 106 (mo_len (I 106) j)) J) 43 (fun j hj ih => ?_)
    refine g_iload_n (pc := 7) (i := 1) (j := 1) C dX8_lends_7 rfl rfl ?_
    refine g_bipush (pc := 8) (v := 43) C dX8_lends_8 (by decide) ?_
    refine g_icmp_ge (pc := 10) (tgt := 34) C dX8_lends_10 (by decide) (fun h10 => ?_) (fun h10 => ?_)
    · have ej : j = 43 := by have := (nI_leI (a := 43) (b := j) (by decide) (by omega)).mp h10; omega
      subst ej
      refine g_aload_n (pc := 34) (i := 0) (j := 0) C dX8_lends_34 rfl rfl ?_
      refine g_bipush (pc := 35) (v := 43) C dX8_lends_35 (by decide) ?_
      refine g_putI (pc := 37) C dX8_lends_37 lpX8_85 rfl rfl (by first | rfl | assumption) rfl ?_
      refine g_vret (pc := 40) C C2 dX8_lends_40 (Nat.le_refl _) (Nat.le_refl _) ?_
      exact ⟨rfl, rfl, rfl, rfl⟩
    · have hlt : j < 43 := Nat.lt_of_not_le (fun q => h10 ((nI_leI (a := 43) (b := j) (by decide) (by omega)).mpr q))
      refine g_aload_n (pc := 13) (i := 0) (j := 0) C dX8_lends_13 rfl rfl ?_
      refine g_getR (pc := 14) C dX8_lends_14 lfX8_23 (by first | rfl | assumption) rfl ?_
      refine g_bipush (pc := 17) (v := 43) C dX8_lends_17 (by decide) ?_
      refine g_iload_n (pc := 19) (i := 1) (j := 1) C dX8_lends_19 rfl rfl ?_
      refine g_iadd (pc := 20) C dX8_lends_20 ?_
      refine g_aload_n (pc := 21) (i := 0) (j := 0) C dX8_lends_21 rfl rfl ?_
      refine g_getR (pc := 22) C dX8_lends_22 lfX8_23 (by first | rfl | assumption) rfl ?_
      refine g_iload_n (pc := 25) (i := 1) (j := 1) C dX8_lends_25 rfl rfl ?_
      refine g_iald (pc := 26) C dX8_lends_26 (by first | rfl | assumption) (by decide) (by first | rfl | assumption) (by first | assumption | decide | omega) ?_
      refine g_iast (pc := 27) C dX8_lends_27 (by first | rfl | assumption) (by decide) (show (43 : Int32) + nI j = nI (43 + j) from nI_add 43 j) (by first | assumption | decide | omega) ?_
      refine g_iinc (pc := 28) (j := 1) (v := _ + 1) (L2 := [(0, _), (1, _)]) C dX8_lends_28 rfl rfl (by decide) rfl ?_
      refine g_goto (pc := 31) (tgt := 7) C dX8_lends_31 (by decide) ?_
      refine pm_Geq (ih hlt) ?_ rfl ?_ rfl
      · simp only [nI_1]
      · rw [pm_u_s, pm_s_at, pm_s_s, mo_len_next _ _ hlt]
  refine g_aload_n (pc := 0) (i := 0) (j := 0) C dX8_lends_0 rfl rfl ?_
  refine g_iconst (pc := 1) (v := 0) C dX8_lends_1 (by decide) ?_
  refine g_putI (pc := 2) C dX8_lends_2 lpX8_85 rfl rfl (by first | rfl | assumption) rfl ?_
  refine g_iconst (pc := 5) (v := 0) C dX8_lends_5 (by decide) ?_
  refine g_istore_n (pc := 6) (i := 1) (L2 := [(0, _), (1, _)]) C dX8_lends_6 rfl (by decide) rfl ?_
  refine pm_Geq (hloop 0 (by decide)) rfl rfl ?_ rfl
  funext q
  by_cases e : q = 106
  · subst e; rw [pm_s_at, pm_u_off (by decide)]; funext k; unfold mo_len; grind
  · rw [pm_s_off _ _ _ _ e]
