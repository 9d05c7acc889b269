/-! The two readings of one tape -/
/-- the class's bytes f, the model's g -/
def tb (f g : Nat → Int32) (z : Nat) : Prop := ∀ p, p < z → (f p = g p ∧ 0 ≤ g p) ∨ (f p < 0 ∧ 128 ≤ g p)
section TB
variable {f g : Nat → Int32} {z : Nat}
theorem tb_sort (h : tb f g z) {p : Nat} (hp : p < z) : tk_sort (f p) = tk_sort (g p) := by
  rcases h p hp with h | h
  · rw [h.1]
  · have e1 : tk_sort (f p) = 3 := by
      have q := h.1
      unfold tk_sort
      grind
    have e2 : tk_sort (g p) = 3 := by
      have q := h.2
      unfold tk_sort
      grind
    rw [e1, e2]
theorem tb_eq (h : tb f g z) {p : Nat} (hp : p < z) (hs : ¬ tk_sort (f p) = 3) : f p = g p := by
  rcases h p hp with h | h
  · exact h.1
  · exfalso
    apply hs
    have q := h.1
    unfold tk_sort
    grind
theorem tb_c (h : tb f g z) {p : Nat} (hp : p < z) {c : Int32} (h0 : 0 ≤ c) (h1 : c < 128) : f p = c ↔ g p = c := by
  rcases h p hp with h | h
  · rw [h.1]
  · constructor
    · intro q
      rw [q] at h
      exact absurd h.1 (Int32.not_lt.mpr h0)
    · intro q
      rw [q] at h
      exact absurd h1 (Int32.not_lt.mpr h.2)
theorem tb_s (h : tb f g z) (p : Nat) : tk_s f z p = tk_s g z p := by
  unfold tk_s
  by_cases hp : p < z
  · rw [if_pos hp, if_pos hp, tb_sort h hp]
  · rw [if_neg hp, if_neg hp]
theorem tb_bF (h : tb f g z) : ∀ n p, p + n ≤ z → tk_bF f n p = tk_bF g n p
  | 0, _, _ => rfl
  | n + 1, p, hp => by
    have e := tb_c h (p := p) (by omega) (c := 32) (by decide) (by decide)
    show (if f p = 32 then tk_bF f n (p + 1) else p) = (if g p = 32 then tk_bF g n (p + 1) else p)
    rw [tb_bF h n (p + 1) (by omega)]
    by_cases q : g p = 32
    · rw [if_pos q, if_pos (e.mpr q)]
    · rw [if_neg q, if_neg (fun x => q (e.mp x))]
theorem tb_b (h : tb f g z) (p : Nat) : tk_b f z p = tk_b g z p := by
  by_cases hp : p ≤ z
  · exact tb_bF h _ _ (by omega)
  · rw [tk_b_out (by omega), tk_b_out (by omega)]
theorem tb_rF (h : tb f g z) (s : Nat) : ∀ n p, p + n ≤ z → tk_rF f s n p = tk_rF g s n p
  | 0, _, _ => rfl
  | n + 1, p, hp => by
    show (if tk_sort (f p) = s then tk_rF f s n (p + 1) else p) = (if tk_sort (g p) = s then tk_rF g s n (p + 1) else p)
    rw [tb_rF h s n (p + 1) (by omega), tb_sort h (by omega)]
theorem tb_r (h : tb f g z) (s p : Nat) : tk_r f z s p = tk_r g z s p := by
  by_cases hp : p ≤ z
  · exact tb_rF h _ _ _ (by omega)
  · rw [tk_r_out (by omega), tk_r_out (by omega)]
theorem tb_e (h : tb f g z) (b : Nat) : tk_e f z b = tk_e g z b := by
  unfold tk_e
  rw [tb_s h, tb_r h]
theorem tb_x (h : tb f g z) (b : Nat) : tk_x f z b = tk_x g z b := by
  unfold tk_x
  rw [tb_e h, tb_b h]
theorem tb_run (h : tb f g z) {b : Nat} (hs : tk_s f z b = 1 ∨ tk_s f z b = 2) : ∀ i, i < tk_e f z b - b → f (b + i) = g (b + i) := by
  intro i hi
  have h1 := tk_run hs i hi
  exact tb_eq h h1.2 (by rw [h1.1]; omega)
theorem tb_n {b : Nat} : ∀ {j : Nat}, (∀ i, i < j → f (b + i) = g (b + i)) → tk_n f b j = tk_n g b j
  | 0, _ => rfl
  | j + 1, h => by
    show tk_n f b j * 10 + (f (b + j) - 48) = tk_n g b j * 10 + (g (b + j) - 48)
    rw [tb_n (fun i hi => h i (by omega)), h j (by omega)]
theorem tb_nm (h : tb f g z) (b : Nat) (t : List Int32) : tk_nm f z b t ↔ tk_nm g z b t := by
  have e1 := tb_s h b
  have e2 := tb_e h b
  constructor
  · rintro ⟨h1, h2, h3⟩
    have hr := tb_run h (Or.inl h1)
    exact ⟨e1 ▸ h1, e2 ▸ h2, fun k hk => by rw [← hr k (by omega)]; exact h3 k hk⟩
  · rintro ⟨h1, h2, h3⟩
    have h1' : tk_s f z b = 1 := e1.trans h1
    have h2' : tk_e f z b - b = t.length := by rw [e2]; exact h2
    have hr := tb_run h (Or.inl h1')
    exact ⟨h1', h2', fun k hk => by rw [hr k (by omega)]; exact h3 k hk⟩
theorem tb_nn (h : tb f g z) {b : Nat} (hs : tk_s f z b = 2) : tk_n f b (tk_e f z b - b) = tk_n g b (tk_e g z b - b) := by
  rw [← tb_e h b]
  exact tb_n (tb_run h (Or.inr hs))
theorem tb_N (h : tb f g z) (b : Nat) (lo hi : Int32) : tk_N f z b lo hi ↔ tk_N g z b lo hi := by
  have e1 := tb_s h b
  have e2 := tb_e h b
  constructor
  · rintro ⟨h1, h2, h3, h4⟩
    have e3 := tb_nn h h1
    exact ⟨e1 ▸ h1, e2 ▸ h2, e3 ▸ h3, e3 ▸ h4⟩
  · rintro ⟨h1, h2, h3, h4⟩
    have h1' : tk_s f z b = 2 := e1.trans h1
    have e3 := tb_nn h h1'
    refine ⟨h1', ?_, ?_, ?_⟩
    · rw [e2]; exact h2
    · rw [e3]; exact h3
    · rw [e3]; exact h4
theorem tb_cx (h : tb f g z) (st : cs_T) : cs_x f z st = cs_x g z st := by
  unfold cs_x
  rw [tb_x h]
theorem tb_num (h : tb f g z) (lo hi : Int32) (st : cs_T) : cs_num f z lo hi st = cs_num g z lo hi st := by
  unfold cs_num
  rw [tb_cx h]
  by_cases q : tk_N g z st.1 lo hi
  · rw [if_pos q, if_pos ((tb_N h _ _ _).mpr q)]
  · rw [if_neg q, if_neg (fun x => q ((tb_N h _ _ _).mp x))]
theorem tb_v (h : tb f g z) (lo hi : Int32) (st : cs_T) : cs_v f z lo hi st = cs_v g z lo hi st := by
  unfold cs_v
  by_cases q : tk_N g z st.1 lo hi
  · have q2 := (tb_N h _ _ _).mpr q
    rw [if_pos q, if_pos q2, tb_nn h q2.1]
  · rw [if_neg q, if_neg (fun x => q ((tb_N h _ _ _).mp x))]
theorem tb_cnm (h : tb f g z) (t : List Int32) (st : cs_T) : cs_nm f z t st = cs_nm g z t st := by
  unfold cs_nm
  rw [tb_cx h]
  by_cases q : tk_nm g z st.1 t
  · rw [if_pos q, if_pos ((tb_nm h _ _).mpr q)]
  · rw [if_neg q, if_neg (fun x => q ((tb_nm h _ _).mp x))]
theorem tb_sg (h : tb f g z) (st : cs_T) : cs_sg f z st = cs_sg g z st := by
  unfold cs_sg
  rw [tb_cx h, tb_s h]
  by_cases q : tk_s g z st.1 = 3
  · have e := tb_c h (p := st.1) (tk_N_lt (f := g) (by omega)) (c := 59) (by decide) (by decide)
    by_cases q2 : g st.1 = 59
    · rw [if_pos ⟨q, e.mpr q2⟩, if_pos ⟨q, q2⟩]
    · rw [if_neg (fun x => q2 (e.mp x.2)), if_neg (fun x => q2 x.2)]
  · rw [if_neg (fun x => q x.1), if_neg (fun x => q x.1)]
theorem tb_pt (h : tb f g z) (t : List Int32) (lo hi : Int32) (st : cs_T) : cs_pt f z t lo hi st = cs_pt g z t lo hi st := by
  unfold cs_pt
  rw [tb_num h, tb_cx h]
  by_cases q : st.2 = -3 ∧ tk_nm g z st.1 t
  · rw [if_pos q, if_pos ⟨q.1, (tb_nm h _ _).mpr q.2⟩]
  · rw [if_neg q, if_neg (fun x => q ⟨x.1, (tb_nm h _ _).mp x.2⟩)]
theorem tb_pI (h : tb f g z) (W : pm_I) (q p : Nat) (t : List Int32) (lo hi : Int32) (st : cs_T) : cs_pI W f z q p t lo hi st = cs_pI W g z q p t lo hi st := by
  unfold cs_pI
  rw [tb_v h, tb_cx h]
  by_cases q : st.2 = -3 ∧ tk_nm g z st.1 t
  · rw [if_pos q, if_pos ⟨q.1, (tb_nm h _ _).mpr q.2⟩]
  · rw [if_neg q, if_neg (fun x => q ⟨x.1, (tb_nm h _ _).mp x.2⟩)]
theorem tb_kd (h : tb f g z) (b : Nat) : cs_kd f z b = cs_kd g z b := by
  unfold cs_kd
  exact tr_sr_congr (fun j _ => tb_nm h b _) (fun j _ _ => rfl) 6 (Nat.le_refl _)
theorem tb_bp (h : tb f g z) (q p i : Nat) (r : cs_R) : cs_bp f z q p i r = cs_bp g z q p i r := by
  unfold cs_bp
  rw [tb_pI h, tb_pt h]
theorem tb_s1 (h : tb f g z) (st : cs_T) : cs_s1 f z st = cs_s1 g z st := by
  unfold cs_s1
  rw [tb_cnm h, tb_num h, tb_cx h]
theorem tb_s2 (h : tb f g z) (st : cs_T) : cs_s2 f z st = cs_s2 g z st := by
  unfold cs_s2
  rw [tb_num h, tb_s1 h]
theorem tb_W0 (h : tb f g z) (W : pm_I) (n : Nat) (k : Int32) (st : cs_T) : cs_W0 W f z n k st = cs_W0 W g z n k st := by
  unfold cs_W0
  rw [tb_v h, tb_v h, tb_cx h, tb_s1 h]
theorem tb_b0 (h : tb f g z) (W : pm_I) (n : Nat) (k : Int32) (st : cs_T) : cs_b0 W f z n k st = cs_b0 W g z n k st := by
  unfold cs_b0
  rw [tb_W0 h, tb_s2 h]
theorem tb_b1 (h : tb f g z) (W : pm_I) (n : Nat) (k : Int32) (st : cs_T) : cs_b1 W f z n k st = cs_b1 W g z n k st := by
  unfold cs_b1
  rw [tb_bp h, tb_b0 h]
theorem tb_b2 (h : tb f g z) (W : pm_I) (n : Nat) (k : Int32) (st : cs_T) : cs_b2 W f z n k st = cs_b2 W g z n k st := by
  unfold cs_b2
  rw [tb_bp h, tb_b1 h]
theorem tb_b3 (h : tb f g z) (W : pm_I) (n : Nat) (k : Int32) (st : cs_T) : cs_b3 W f z n k st = cs_b3 W g z n k st := by
  unfold cs_b3
  rw [tb_bp h, tb_b2 h]
theorem tb_b4 (h : tb f g z) (W : pm_I) (n : Nat) (k : Int32) (st : cs_T) : cs_b4 W f z n k st = cs_b4 W g z n k st := by
  unfold cs_b4
  rw [tb_bp h, tb_b3 h]
theorem tb_b5 (h : tb f g z) (W : pm_I) (n : Nat) (k : Int32) (st : cs_T) : cs_b5 W f z n k st = cs_b5 W g z n k st := by
  unfold cs_b5
  rw [tb_bp h, tb_b4 h]
theorem tb_c1 (h : tb f g z) (W : pm_I) (st : cs_T) : cs_c1 W f z st = cs_c1 W g z st := by
  unfold cs_c1 cs_bal
  rw [tb_kd h, tb_b5 h]
  have hw : ∀ mo sg, cs_wm W f z mo sg st = cs_wm W g z mo sg st := fun mo sg => by
    unfold cs_wm
    rw [tb_v h, tb_v h, tb_num h, tb_num h, tb_cx h]
  have hgp : cs_gp W f z st = cs_gp W g z st := by
    unfold cs_gp
    rw [tb_v h, tb_num h, tb_cx h]
  rw [hw, hw, hgp]
  simp only [tb_nm h]
theorem tb_cl (h : tb f g z) (r : cs_R) : cs_cl f z r = cs_cl g z r := by
  unfold cs_cl
  rw [tb_c1 h, tb_sg h]
theorem tb_lp (h : tb f g z) : ∀ (m : Nat) (r : cs_R), cs_lp f z m r = cs_lp g z m r
  | 0, _ => rfl
  | m + 1, r => by
    unfold cs_lp
    rw [tb_s h, tb_cl h, tb_lp h m]
end TB
