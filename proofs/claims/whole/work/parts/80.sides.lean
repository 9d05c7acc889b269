/-! Class and model side by side: what holds between two calls of the law -/
/-- the town: n balloons, the hour t -/
def RA (Ic Im : pm_I) (n t : Nat) : Prop := n ≤ 6 ∧ t ≤ 96 ∧ Ic 1 2 = nI n ∧ Ic 1 3 = nI t ∧ Im 102 2 = nI n ∧ Im 106 0 = nI t ∧ Im 102 1 = Ic 1 4 ∧ Im 102 8 = Ic 1 5 ∧ Im 102 6 = nI 0 ∧ Im 102 7 = 0 ∧ (∀ h, h < 24 → Im 103 h = Ic 2 h) ∧ ∀ b, b < n → bo_ok (Ic (5 + 2 * b)) ∧ ∀ p, p < 9 → md Im 0 b p = Ic (5 + 2 * b) p
/-- what is kept -/
def RK (Ic Im : pm_I) : Prop := Ic 0 2 = Im 102 39 ∧ (¬ Ic 0 2 = 0 → ∃ n t, n ≤ 6 ∧ t ≤ 96 ∧ Ic 16 2 = nI n ∧ Ic 16 3 = nI t ∧ Im 121 0 = nI n ∧ Im 121 39 = nI t ∧ Im 121 1 = Ic 16 4 ∧ Im 121 2 = Ic 16 5 ∧ (∀ h, h < 24 → Im 121 (3 + h) = Ic 17 h) ∧ ∀ b, b < n → bo_ok (Ic (20 + 2 * b)) ∧ Im 121 (27 + b) = Ic (20 + 2 * b) 0 ∧ Im 121 (33 + b) = Ic (20 + 2 * b) 1 ∧ ∀ p, 2 ≤ p → p < 9 → Im 121 (39 + (7 * b + (p - 1))) = Ic (20 + 2 * b) p)
/-- the tape -/
def RP (Ic Im : pm_I) : Prop := ∃ z, z ≤ 240 ∧ Ic 46 1 = nI z ∧ Im 102 10 = nI z ∧ tb (Ic 47) (Im 107) z ∧ ∀ k, k < z → 0 ≤ Im 107 k
/-- the rows -/
def RW (Ic Im : pm_I) : Prop := ∃ r, r ≤ 20 ∧ Ic 0 7 = nI r ∧ Im 102 25 = nI r ∧ ∀ i, i < r → ∀ v, v < 3 → Im 112 (3 * i + v) = Ic (66 + i) v
/-- the sheets -/
def RS (Ic Im : pm_I) (Jm : pm_J) : Prop := ∃ ln : Nat → Nat, ∀ s, s < 4 → ln s ≤ 40 ∧ Ic (90 + 2 * s) 2 = nI (ln s) ∧ Im 115 s = nI (ln s) ∧ Im 114 s = Ic (90 + 2 * s) 1 ∧ (-1 ≤ Ic (90 + 2 * s) 1 ∧ Ic (90 + 2 * s) 1 ≤ 3) ∧ ∀ k, k < ln s → Jm 116 (40 * s + k) = (Ic (91 + 2 * s) k).toInt64
/-- the shelves -/
def RH (Ic Im : pm_I) : Prop := ∀ s, s < 4 → (Ic (98 + s) 0 = 2 ∧ Im 117 s = -1) ∨ (Ic (98 + s) 0 = 0 ∧ Im 117 s = 0 ∧ Im 118 s = Ic (98 + s) 1) ∨ (Ic (98 + s) 0 = 1 ∧ Im 117 s = 1 ∧ Im 118 s = Ic (98 + s) 2 ∧ Im 119 s = Ic (98 + s) 3 ∧ 0 ≤ Ic (98 + s) 2 ∧ Ic (98 + s) 2 ≤ 3)
/-- the trace -/
def RX (Ic Im : pm_I) : Prop := ∃ r, r ≤ 30 ∧ Ic 88 1 = nI r ∧ Im 102 37 = nI r ∧ ∀ k, k < r → Im 120 k = Ic 89 k
def RL_ (Ic Im : pm_I) (Jm : pm_J) (n t : Nat) : Prop := RA Ic Im n t ∧ RK Ic Im ∧ RP Ic Im ∧ RW Ic Im ∧ RS Ic Im Jm ∧ RH Ic Im ∧ RX Ic Im
def Rel (Ic Im : pm_I) (Jm : pm_J) : Prop := ∃ n t, RL_ Ic Im Jm n t
section RCG
variable {Ic Im Ic2 Im2 : pm_I} {Jm Jm2 : pm_J} {n t : Nat}
theorem md_c (h4 : Im2 104 = Im 104) (h5 : Im2 105 = Im 105) (h6 : ∀ k, k < 43 → Im2 106 k = Im 106 k) {b p : Nat} (hb : b < 6) (hp : p < 9) : md Im2 0 b p = md Im 0 b p := by
  unfold md
  rw [h4, h5, h6 _ (by omega)]
theorem RA_c (h : RA Ic Im n t) (h1 : Ic2 1 = Ic 1) (h2 : Ic2 2 = Ic 2) (h3 : ∀ b, b < 6 → Ic2 (5 + 2 * b) = Ic (5 + 2 * b)) (m1 : ∀ p, p < 9 → Im2 102 p = Im 102 p) (m3 : Im2 103 = Im 103) (m4 : Im2 104 = Im 104) (m5 : Im2 105 = Im 105) (m6 : ∀ k, k < 43 → Im2 106 k = Im 106 k) : RA Ic2 Im2 n t := by
  obtain ⟨a1, a2, a3, a4, a5, a6, a7, a8, a9, a10, a11, a12⟩ := h
  refine ⟨a1, a2, by rw [h1]; exact a3, by rw [h1]; exact a4, by rw [m1 2 (by decide)]; exact a5, by rw [m6 0 (by decide)]; exact a6, by rw [m1 1 (by decide), h1]; exact a7, by rw [m1 8 (by decide), h1]; exact a8, by rw [m1 6 (by decide)]; exact a9, by rw [m1 7 (by decide)]; exact a10, fun x hx => by rw [m3, h2]; exact a11 x hx, fun b hb => ?_⟩
  rw [h3 b (by omega)]
  exact ⟨(a12 b hb).1, fun p hp => by rw [md_c m4 m5 m6 (by omega) hp]; exact (a12 b hb).2 p hp⟩
theorem RK_c (h : RK Ic Im) (h0 : Ic2 0 2 = Ic 0 2) (h1 : ∀ a, 16 ≤ a → a ≤ 30 → Ic2 a = Ic a) (m1 : Im2 102 39 = Im 102 39) (m2 : Im2 121 = Im 121) : RK Ic2 Im2 := by
  obtain ⟨a1, a2⟩ := h
  refine ⟨by rw [h0, m1]; exact a1, fun q => ?_⟩
  rw [h0] at q
  obtain ⟨n, t, b1, b2, b3, b4, b5, b6, b7, b8, b9, b10⟩ := a2 q
  rw [m2, h1 16 (by decide) (by decide), h1 17 (by decide) (by decide)]
  refine ⟨n, t, b1, b2, b3, b4, b5, b6, b7, b8, b9, fun b hb => ?_⟩
  rw [h1 (20 + 2 * b) (by omega) (by omega)]
  exact b10 b hb
theorem RP_c (h : RP Ic Im) (h1 : Ic2 46 1 = Ic 46 1) (h2 : Ic2 47 = Ic 47) (m1 : Im2 102 10 = Im 102 10) (m2 : Im2 107 = Im 107) : RP Ic2 Im2 := by
  obtain ⟨z, a1, a2, a3, a4, a5⟩ := h
  refine ⟨z, a1, by rw [h1]; exact a2, by rw [m1]; exact a3, ?_, ?_⟩
  · rw [h2, m2]; exact a4
  · rw [m2]; exact a5
theorem RW_c (h : RW Ic Im) (h1 : Ic2 0 7 = Ic 0 7) (h2 : ∀ i, i < 20 → Ic2 (66 + i) = Ic (66 + i)) (m1 : Im2 102 25 = Im 102 25) (m2 : Im2 112 = Im 112) : RW Ic2 Im2 := by
  obtain ⟨r, a1, a2, a3, a4⟩ := h
  refine ⟨r, a1, by rw [h1]; exact a2, by rw [m1]; exact a3, fun i hi v hv => ?_⟩
  rw [m2, h2 i (by omega)]
  exact a4 i hi v hv
theorem RS_c (h : RS Ic Im Jm) (h1 : ∀ a, 90 ≤ a → a ≤ 97 → Ic2 a = Ic a) (m1 : Im2 114 = Im 114) (m2 : Im2 115 = Im 115) (m3 : Jm2 116 = Jm 116) : RS Ic2 Im2 Jm2 := by
  obtain ⟨ln, a⟩ := h
  refine ⟨ln, fun s hs => ?_⟩
  rw [m1, m2, m3, h1 (90 + 2 * s) (by omega) (by omega), h1 (91 + 2 * s) (by omega) (by omega)]
  exact a s hs
theorem RH_c (h : RH Ic Im) (h1 : ∀ s, s < 4 → Ic2 (98 + s) = Ic (98 + s)) (m1 : Im2 117 = Im 117) (m2 : Im2 118 = Im 118) (m3 : Im2 119 = Im 119) : RH Ic2 Im2 := by
  intro s hs
  rw [m1, m2, m3, h1 s hs]
  exact h s hs
theorem RX_c (h : RX Ic Im) (h1 : Ic2 88 1 = Ic 88 1) (h2 : Ic2 89 = Ic 89) (m1 : Im2 102 37 = Im 102 37) (m2 : Im2 120 = Im 120) : RX Ic2 Im2 := by
  obtain ⟨r, a1, a2, a3, a4⟩ := h
  refine ⟨r, a1, by rw [h1]; exact a2, by rw [m1]; exact a3, fun k hk => ?_⟩
  rw [m2, h2]
  exact a4 k hk
/-- all of it, where neither side is touched -/
theorem RL_c (h : RL_ Ic Im Jm n t) (hc : ∀ a, a < 48 ∨ (65 ≤ a ∧ a < 102) → Ic2 a = Ic a) (hm : ∀ a, 102 ≤ a → a ≠ 106 → Im2 a = Im a) (h6 : ∀ k, k < 43 → Im2 106 k = Im 106 k) (hj : Jm2 = Jm) : RL_ Ic2 Im2 Jm2 n t := by
  obtain ⟨a1, a2, a3, a4, a5, a6, a7⟩ := h
  have e := hm 102 (by decide) (by decide)
  refine ⟨RA_c a1 (hc 1 (by decide)) (hc 2 (by decide)) (fun b hb => hc _ (by omega)) (fun p _ => by rw [e]) (hm 103 (by decide) (by decide)) (hm 104 (by decide) (by decide)) (hm 105 (by decide) (by decide)) h6, RK_c a2 (by rw [hc 0 (by decide)]) (fun a h1 h2 => hc a (by omega)) (by rw [e]) (hm 121 (by decide) (by decide)), RP_c a3 (by rw [hc 46 (by decide)]) (hc 47 (by decide)) (by rw [e]) (hm 107 (by decide) (by decide)), RW_c a4 (by rw [hc 0 (by decide)]) (fun i hi => hc _ (by omega)) (by rw [e]) (hm 112 (by decide) (by decide)), RS_c a5 (fun a h1 h2 => hc a (by omega)) (hm 114 (by decide) (by decide)) (hm 115 (by decide) (by decide)) (by rw [hj]), RH_c a6 (fun s hs => hc _ (by omega)) (hm 117 (by decide) (by decide)) (hm 118 (by decide) (by decide)) (hm 119 (by decide) (by decide)), RX_c a7 (by rw [hc 88 (by decide)]) (hc 89 (by decide)) (by rw [e]) (hm 120 (by decide) (by decide))⟩
theorem bo_mo {f : Nat → Int32} (h : bo_ok f) : mo_ok f := by
  have q := bo_in h
  exact ⟨q.2.2.2.1, q.2.2.2.2.1⟩
/-- the model's own words of it, at a world that has the model's part -/
theorem RA_m (h : RA Ic Im n t) (hm : ∀ a, 102 ≤ a → Im2 a = Im a) : mo_F Im2 (Ic 2) (Ic 1 4) 0 n ∧ mo_W Im2 0 t n (bl_L Ic) Im2 ∧ ∀ b, b < n → mo_ok (bl_L Ic b) := by
  obtain ⟨a1, a2, a3, a4, a5, a6, a7, a8, a9, a10, a11, a12⟩ := h
  refine ⟨⟨by rw [hm 102 (by decide)]; exact a5, a1, by rw [hm 102 (by decide)]; exact a7, by rw [hm 102 (by decide)]; exact a10, fun x hx => by rw [hm 103 (by decide)]; exact a11 x hx⟩, ⟨fun _ _ _ => rfl, fun _ _ => rfl, by rw [hm 102 (by decide)]; exact a9, fun _ _ => rfl, by rw [hm 106 (by decide)]; exact a6, fun b hb p hp => ?_⟩, fun b hb => bo_mo (a12 b hb).1⟩
  rw [md_c (hm 104 (by decide)) (hm 105 (by decide)) (fun k _ => by rw [hm 106 (by decide)]) (by omega) hp]
  exact (a12 b hb).2 p hp
end RCG
/-- a contract says no more than it says -/
theorem pm_post {d mc ms : Nat} {y : MethodName} {bytes : ByteArray} {maxL : Nat} {ret : Option FieldType} {av : List Value} {sh : List pm_S} {I : pm_I} {J : pm_J} {P P2 : Option Value → List pm_S → pm_I → pm_J → Prop} (h : pm_M d mc ms y bytes maxL ret av sh I J P) (hP : ∀ r sh2 I2 J2, P r sh2 I2 J2 → P2 r sh2 I2 J2) : pm_M d mc ms y bytes maxL ret av sh I J P2 := by
  intro l u p e ha hc hk s m args below hf hap hpre htr
  obtain ⟨k, o, h1, h2, h3, ⟨⟨r, sh2, I2, J2, q1, q2, q3⟩, q4⟩, q5⟩ := h l u p e ha hc hk s m args below hf hap hpre htr
  exact ⟨k, o, h1, h2, h3, ⟨⟨r, sh2, I2, J2, q1, hP _ _ _ _ q2, q3⟩, q4⟩, q5⟩
/-- one call of the law on both, with one answer -/
def two_ (yc : MethodName) (cc : ByteArray) (lc : Nat) (ym : MethodName) (cm : ByteArray) (lm : Nat) (av : List Value) (I : pm_I) (J : pm_J) : Prop :=
  ∃ (Post1 : Option Value → List pm_S → pm_I → pm_J → Prop) (ρ : Int32) (Pc : pm_I → Prop), pm_M 11 0 0 yc cc lc (some .int) (.ref 0 :: av) SHP I J Post1 ∧ (∀ r sh2 I2 J2, Post1 r sh2 I2 J2 → r = some (.int ρ) ∧ sh2 = SHP ∧ J2 = J ∧ Pc I2) ∧
  ∀ I2, Pc I2 → ∃ Post2 : Option Value → List pm_S → pm_I → pm_J → Prop, pm_M 11 0 0 ym cm lm (some .int) (.ref 102 :: av) SHP I2 J Post2 ∧ ∀ r sh3 I3 J3, Post2 r sh3 I3 J3 → r = some (.int ρ) ∧ sh3 = SHP ∧ Rel I3 I3 J3
section TWS
variable {yc ym : MethodName} {cc cm : ByteArray} {lc lm : Nat} {av : List Value} {I : pm_I} {J : pm_J} {ρ ρ2 : Int32}
/-- neither side changes anything -/
theorem two_q (hI : Rel I I J) (hc : pm_M 11 0 0 yc cc lc (some .int) (.ref 0 :: av) SHP I J (pm_D (some (.int ρ)) SHP I J)) (hm : pm_M 11 0 0 ym cm lm (some .int) (.ref 102 :: av) SHP I J (pm_D (some (.int ρ2)) SHP I J)) (e : ρ2 = ρ) : two_ yc cc lc ym cm lm av I J := by
  subst e
  refine ⟨_, ρ2, fun I2 => I2 = I, hc, fun r sh2 I2 J2 h => ⟨h.1, h.2.1, h.2.2.2, h.2.2.1⟩, fun I2 h2 => ?_⟩
  subst h2
  refine ⟨_, hm, fun r sh3 I3 J3 h => ⟨h.1, h.2.1, ?_⟩⟩
  rw [h.2.2.1, h.2.2.2]
  exact hI
/-- both sides make a trial -/
theorem two_t {n t : Nat} (hI : RL_ I I J n t) (hc : pm_M 11 0 0 yc cc lc (some .int) (.ref 0 :: av) SHP I J (fun r sh2 I2 J2 => r = some (.int ρ) ∧ sh2 = SHP ∧ J2 = J ∧ tr_off I I2))
    (hm : ∀ I2, (∀ a, 102 ≤ a → I2 a = I a) → pm_M 11 0 0 ym cm lm (some .int) (.ref 102 :: av) SHP I2 J (fun r sh2 I3 J2 => r = some (.int ρ2) ∧ sh2 = SHP ∧ J2 = J ∧ mo_off I2 I3)) (e : ρ2 = ρ) : two_ yc cc lc ym cm lm av I J := by
  subst e
  refine ⟨_, ρ2, fun I2 => tr_off I I2, hc, fun r sh2 I2 J2 h => h, fun I2 h2 => ?_⟩
  refine ⟨_, hm I2 (fun a ha => h2 a (by omega)), fun r sh3 I3 J3 h => ⟨h.1, h.2.1, n, t, ?_⟩⟩
  obtain ⟨-, -, ej, h3⟩ := h
  refine RL_c hI (fun a ha => ?_) (fun a h1 h6 => ?_) (fun k hk => ?_) ej
  · rw [h3.1 a (by omega), h2 a (by omega)]
  · rw [h3.1 a h6, h2 a (by omega)]
  · rw [h3.2 k hk, h2 106 (by decide)]
/-- the class changes nothing to speak of, the model nothing at all -/
theorem two_t0 (hI : Rel I I J) (hc : pm_M 11 0 0 yc cc lc (some .int) (.ref 0 :: av) SHP I J (fun r sh2 I2 J2 => r = some (.int ρ) ∧ sh2 = SHP ∧ J2 = J ∧ tr_off I I2))
    (hm : ∀ I2, (∀ a, 102 ≤ a → I2 a = I a) → pm_M 11 0 0 ym cm lm (some .int) (.ref 102 :: av) SHP I2 J (pm_D (some (.int ρ2)) SHP I2 J)) (e : ρ2 = ρ) : two_ yc cc lc ym cm lm av I J := by
  obtain ⟨n, t, hI⟩ := hI
  refine two_t hI hc (ρ2 := ρ2) (fun I2 h2 => ?_) e
  exact pm_post (hm I2 h2) (fun r sh3 I3 J3 h => ⟨h.1, h.2.1, h.2.2.2, by rw [h.2.2.1]; exact mo_off_rf _⟩)
end TWS
