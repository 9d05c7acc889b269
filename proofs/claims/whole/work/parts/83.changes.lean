/-! Changes of the town on both sides -/
section TW2
variable {yc ym : MethodName} {cc cm : ByteArray} {lc lm : Nat} {av : List Value} {I I2 I3 : pm_I} {J J3 : pm_J} {ρ ρ2 : Int32}
theorem two_d (hc : pm_M 11 0 0 yc cc lc (some .int) (.ref 0 :: av) SHP I J (pm_D (some (.int ρ)) SHP I2 J)) (hm : pm_M 11 0 0 ym cm lm (some .int) (.ref 102 :: av) SHP I2 J (pm_D (some (.int ρ2)) SHP I3 J3)) (e : ρ2 = ρ) (hR : Rel I3 I3 J3) : two_ yc cc lc ym cm lm av I J := by
  subst e
  refine ⟨_, ρ2, fun X => X = I2, hc, fun r sh2 X J2 h => ⟨h.1, h.2.1, h.2.2.2, h.2.2.1⟩, fun X h2 => ?_⟩
  subst h2
  refine ⟨_, hm, fun r sh3 I4 J4 h => ⟨h.1, h.2.1, ?_⟩⟩
  rw [h.2.2.1, h.2.2.2]
  exact hR
theorem two_r {Pc Pm : pm_I → Prop} (hc : pm_M 11 0 0 yc cc lc (some .int) (.ref 0 :: av) SHP I J (fun r sh2 I2 J2 => r = some (.int ρ) ∧ sh2 = SHP ∧ J2 = J ∧ Pc I2)) (hm : ∀ I2, Pc I2 → ∃ Post2 : Option Value → List pm_S → pm_I → pm_J → Prop, pm_M 11 0 0 ym cm lm (some .int) (.ref 102 :: av) SHP I2 J Post2 ∧ ∀ r sh3 I3 J3, Post2 r sh3 I3 J3 → r = some (.int ρ) ∧ sh3 = SHP ∧ Rel I3 I3 J3) : two_ yc cc lc ym cm lm av I J := ⟨_, ρ, Pc, hc, fun _ _ _ _ h => h, hm⟩
end TW2
theorem md_c1 {Im Im2 : pm_I} (h4 : Im2 104 = Im 104) (h5 : Im2 105 = Im 105) (h6 : ∀ k, 1 ≤ k → k < 43 → Im2 106 k = Im 106 k) {b p : Nat} (hb : b < 6) (hp : p < 9) : md Im2 0 b p = md Im 0 b p := by
  unfold md
  by_cases q0 : p = 0
  · rw [if_pos q0, if_pos q0, h4]
  · rw [if_neg q0, if_neg q0]
    by_cases q1 : p = 1
    · rw [if_pos q1, if_pos q1, h5]
    · rw [if_neg q1, if_neg q1, h6 _ (by omega) (by omega)]
theorem md_p {I : pm_I} {b p : Nat} (hp : 2 ≤ p) : md I 0 b p = I 106 (0 + 7 * b + (p - 1)) := by
  unfold md
  rw [if_neg (by omega), if_neg (by omega)]
theorem bo_u {f : Nat → Int32} {p : Nat} {v : Int32} (h : bo_ok f) (hv : (pm_tv 1).getD p 0 ≤ v ∧ v ≤ (pm_tv 2).getD p 0) : bo_ok (upd f p v) := by
  intro q hq
  by_cases e : q = p
  · subst e
    rw [pk_us]
    exact hv
  · rw [pk_un e]
    exact h q hq
theorem mx_gas : ∀ k, k < 1000 → ∀ l, l < 3 → 0 ≤ bl_max0 (nI k - nI l) ∧ bl_max0 (nI k - nI l) ≤ 999 := by decide +kernel
theorem mx_brd : ∀ k, k < 100 → ∀ l, l < 10 → 0 ≤ bl_max0 (nI k - nI l) ∧ bl_max0 (nI k - nI l) ≤ 99 := by decide +kernel
theorem bl_leaks_in (f : Nat → Int32) (h : Int32) : ∃ l, l < 3 ∧ bl_leaks f h = nI l := by
  unfold bl_leaks
  split
  · exact ⟨2, by decide, rfl⟩
  · split
    · split
      · exact ⟨1, by decide, rfl⟩
      · exact ⟨0, by decide, rfl⟩
    · exact ⟨0, by decide, rfl⟩
theorem bo_pass {f : Nat → Int32} {t h : Int32} (hf : bo_ok f) : bo_ok (bl_pass f t h) := by
  obtain ⟨i0, i1, i2, i3, i4, i5, i6, i7, i8⟩ := bo_in hf
  have hm := bl_pass_ok (t := t) (h := h) (bo_mo hf)
  have e0 : bl_pass f t h 0 = f 0 := by unfold bl_pass bl_p3 bl_p2 bl_p1; rw [pk_un (by decide), pk_un (by decide), pk_un (by decide)]
  have e1 : bl_pass f t h 1 = f 1 := by unfold bl_pass bl_p3 bl_p2 bl_p1; rw [pk_un (by decide), pk_un (by decide), pk_un (by decide)]
  have e2 : bl_pass f t h 2 = f 2 := by unfold bl_pass bl_p3 bl_p2 bl_p1; rw [pk_un (by decide), pk_un (by decide), pk_un (by decide)]
  have e6 : bl_pass f t h 6 = f 6 := by unfold bl_pass bl_p3 bl_p2 bl_p1; rw [pk_un (by decide), pk_un (by decide), pk_un (by decide)]
  have e8 : bl_pass f t h 8 = f 8 := by unfold bl_pass bl_p3 bl_p2 bl_p1; rw [pk_un (by decide), pk_un (by decide), pk_un (by decide)]
  have e5 : ∃ l, l < 3 ∧ bl_pass f t h 5 = bl_max0 (f 5 - nI l) := by
    obtain ⟨l, hl, el⟩ := bl_leaks_in (bl_p1 f t) h
    refine ⟨l, hl, ?_⟩
    unfold bl_pass bl_p3 bl_p2
    rw [pk_un (by decide), pk_us, el]
    unfold bl_p1
    rw [pk_un (by decide)]
  have e7 : bl_pass f t h 7 = bl_max0 (f 7 - f 8) := by
    unfold bl_pass bl_p3 bl_p2 bl_p1
    rw [pk_us, pk_un (by decide), pk_un (by decide), pk_un (by decide), pk_un (by decide)]
  refine bo_of (by rw [e0]; exact i0) (by rw [e1]; exact i1) (by rw [e2]; exact i2) hm.1 hm.2 ?_ (by rw [e6]; exact i6) ?_ (by rw [e8]; exact i8)
  · obtain ⟨l, hl, el⟩ := e5
    obtain ⟨k, hk, ek⟩ := pm_ix (x := f 5) (N := 1000) i5.1 i5.2 (by decide)
    rw [el, ek]
    exact mx_gas k hk l hl
  · obtain ⟨l, hl, el⟩ := pm_ix (x := f 8) (N := 10) i8.1 i8.2 (by decide)
    obtain ⟨k, hk, ek⟩ := pm_ix (x := f 7) (N := 100) i7.1 i7.2 (by decide)
    rw [e7, el, ek]
    exact mx_brd k hk l hl
theorem bo_ev {w : Nat → Int32} {c : Int32} {t : Nat} {f : Nat → Int32} (h : bo_ok f) : ∀ k, bo_ok (tr_ev w c t f k)
  | 0 => h
  | k + 1 => bo_pass (bo_ev h k)
/-- the class's town is otherwise; the model's row stands so too -/
theorem RL_W {I I2 I3 : pm_I} {J : pm_J} {n t t2 : Nat} {B : Nat → Nat → Int32} (h : RL_ I I J n t) (ht2 : t2 ≤ 96) (c1 : ∀ a, a < 102 → a ≠ 1 → (∀ b, b < n → a ≠ 5 + 2 * b) → I2 a = I a) (c2 : ∀ p, p ≠ 3 → I2 1 p = I 1 p) (c3 : I2 1 3 = nI t2) (c4 : ∀ a, 102 ≤ a → I2 a = I a) (c5 : ∀ b, b < n → bo_ok (I2 (5 + 2 * b)) ∧ ∀ p, p < 9 → B b p = I2 (5 + 2 * b) p) (hW : mo_W I2 0 t2 n B I3) : RL_ I3 I3 J n t2 := by
  obtain ⟨⟨a1, a2, a3, a4, a5, a6, a7, a8, a9, a10, a11, a12⟩, b2, b3, b4, b5, b6, b7⟩ := h
  obtain ⟨w1, w2, w3, w4, w5, w6⟩ := hW
  have k1 : ∀ a, a < 102 → I3 a = I2 a := fun a ha => w1 a (by omega) (by omega)
  have k2 : ∀ a, 103 ≤ a → a ≠ 106 → I3 a = I a := fun a h1 h2 => (w1 a (by omega) h2).trans (c4 a (by omega))
  have k3 : ∀ p, p ≠ 6 → I3 102 p = I 102 p := fun p hp => (w2 p hp).trans (by rw [c4 102 (by decide)])
  have k4 : ∀ a, a < 102 → a ≠ 1 → (∀ b, b < 6 → a ≠ 5 + 2 * b) → I3 a = I a := fun a h1 h2 h3 => (k1 a h1).trans (c1 a h1 h2 (fun b hb => h3 b (by omega)))
  refine ⟨⟨a1, ht2, by rw [k1 1 (by decide), c2 2 (by decide)]; exact a3, by rw [k1 1 (by decide)]; exact c3, (k3 2 (by decide)).trans a5, w5, by rw [k3 1 (by decide), k1 1 (by decide), c2 4 (by decide)]; exact a7, by rw [k3 8 (by decide), k1 1 (by decide), c2 5 (by decide)]; exact a8, w3, (k3 7 (by decide)).trans a10, fun x hx => by rw [k2 103 (by decide) (by decide), k4 2 (by decide) (by decide) (fun b hb => by omega)]; exact a11 x hx, fun b hb => ?_⟩, ?_, ?_, ?_, ?_, ?_, ?_⟩
  · rw [k1 (5 + 2 * b) (by omega)]
    exact ⟨(c5 b hb).1, fun p hp => (w6 b hb p hp).trans ((c5 b hb).2 p hp)⟩
  · exact RK_c b2 (by rw [k4 0 (by decide) (by decide) (fun b hb => by omega)]) (fun a h1 h2 => k4 a (by omega) (by omega) (fun b hb => by omega)) (k3 39 (by decide)) (k2 121 (by decide) (by decide))
  · exact RP_c b3 (by rw [k4 46 (by decide) (by decide) (fun b hb => by omega)]) (k4 47 (by decide) (by decide) (fun b hb => by omega)) (k3 10 (by decide)) (k2 107 (by decide) (by decide))
  · exact RW_c b4 (by rw [k4 0 (by decide) (by decide) (fun b hb => by omega)]) (fun i hi => k4 _ (by omega) (by omega) (fun b hb => by omega)) (k3 25 (by decide)) (k2 112 (by decide) (by decide))
  · exact RS_c b5 (fun a h1 h2 => k4 a (by omega) (by omega) (fun b hb => by omega)) (k2 114 (by decide) (by decide)) (k2 115 (by decide) (by decide)) rfl
  · exact RH_c b6 (fun s hs => k4 _ (by omega) (by omega) (fun b hb => by omega)) (k2 117 (by decide) (by decide)) (k2 118 (by decide) (by decide)) (k2 119 (by decide) (by decide))
  · exact RX_c b7 (by rw [k4 88 (by decide) (by decide) (fun b hb => by omega)]) (k4 89 (by decide) (by decide) (fun b hb => by omega)) (k3 37 (by decide)) (k2 120 (by decide) (by decide))
theorem upd_c {f g : Nat → Int32} {k j : Nat} {v : Int32} (h : f j = g j) : upd f k v j = upd g k v j := by
  by_cases e : j = k
  · rw [e, pk_us, pk_us]
  · rw [pk_un e, pk_un e, h]
/-- one part of one balloon, on both sides -/
theorem RL_bec {I : pm_I} {J : pm_J} {n t b k : Nat} {v : Int32} (h : RL_ I I J n t) (hb : b < n) (hk : k < 9) (hk2 : 2 ≤ k) (hv : (pm_tv 1).getD k 0 ≤ v ∧ v ≤ (pm_tv 2).getD k 0) : Rel (pm_u (pm_u I (5 + 2 * b) k v) 106 (0 + 7 * b + (k - 1)) v) (pm_u (pm_u I (5 + 2 * b) k v) 106 (0 + 7 * b + (k - 1)) v) J := by
  have h6 := h.1.1
  have hB := h.1.2.2.2.2.2.2.2.2.2.2.2
  obtain ⟨gF, gW, gok⟩ := RA_m h.1 (Im2 := pm_u I (5 + 2 * b) k v) (fun a ha => pm_u_off (by omega))
  have hW := mo_W_set (b := b) (p := k - 1) (v := v) gW (by omega) (by omega)
  refine ⟨n, t, RL_W h h.1.2.1 (fun a a1 a2 a3 => pm_u_off (a3 b hb)) (fun p hp => by rw [pm_u_off (by omega)]) (by rw [pm_u_off (by omega)]; exact h.1.2.2.2.1) (fun a ha => pm_u_off (by omega)) (fun c hc => ?_) hW⟩
  rw [show k - 1 + 1 = k by omega]
  by_cases e : c = b
  · subst e
    rw [pm_u_at, mo_B1_at]
    exact ⟨bo_u (hB c hc).1 hv, fun p hp => rfl⟩
  · rw [pm_u_off (by omega), show mo_B1 (bl_L I) b k v c = bl_L I c from if_neg e]
    exact ⟨(hB c hc).1, fun p hp => rfl⟩
theorem RL_mind {I : pm_I} {J : pm_J} {n t b : Nat} {k a : Int32} (h : RL_ I I J n t) (hb : b < n) (hk : 0 ≤ k ∧ k ≤ 5) (ha : 0 ≤ a ∧ a ≤ 9) : Rel (pm_u (pm_u (pm_u (pm_u I (5 + 2 * b) 0 k) (5 + 2 * b) 1 a) 104 b k) 105 b a) (pm_u (pm_u (pm_u (pm_u I (5 + 2 * b) 0 k) (5 + 2 * b) 1 a) 104 b k) 105 b a) J := by
  obtain ⟨hA, hK, hP, hRW, hS, hH, hX⟩ := h
  obtain ⟨h6, ht, hn, hnow, hn8, hnow8, hgap8, hz8, hat, hcol, hw8, hB⟩ := hA
  have o : ∀ q, q ≠ 5 + 2 * b → q ≠ 104 → q ≠ 105 → pm_u (pm_u (pm_u (pm_u I (5 + 2 * b) 0 k) (5 + 2 * b) 1 a) 104 b k) 105 b a q = I q := fun q h1 h2 h3 => by rw [pm_u_off h3, pm_u_off h2, pm_u_off h1, pm_u_off h1]
  generalize hX2 : pm_u (pm_u (pm_u (pm_u I (5 + 2 * b) 0 k) (5 + 2 * b) 1 a) 104 b k) 105 b a = X at o
  have xb : X (5 + 2 * b) = upd (upd (I (5 + 2 * b)) 0 k) 1 a := by rw [← hX2, pm_u_off (by omega), pm_u_off (by omega), pm_u_at, pm_u_at]
  have x4 : X 104 = upd (I 104) b k := by rw [← hX2, pm_u_off (by decide), pm_u_at, pm_u_off (by omega), pm_u_off (by omega)]
  have x5 : X 105 = upd (I 105) b a := by rw [← hX2, pm_u_at, pm_u_off (by decide), pm_u_off (by omega), pm_u_off (by omega)]
  have x1 : X 1 = I 1 := o 1 (by omega) (by decide) (by decide)
  have x102 : X 102 = I 102 := o 102 (by omega) (by decide) (by decide)
  have x0 : X 0 = I 0 := o 0 (by omega) (by decide) (by decide)
  refine ⟨n, t, ⟨h6, ht, by rw [x1]; exact hn, by rw [x1]; exact hnow, by rw [x102]; exact hn8, by rw [o 106 (by omega) (by decide) (by decide)]; exact hnow8, by rw [x1, x102]; exact hgap8, by rw [x1, x102]; exact hz8, by rw [x102]; exact hat, by rw [x102]; exact hcol, fun x hx => by rw [o 103 (by omega) (by decide) (by decide), o 2 (by omega) (by decide) (by decide)]; exact hw8 x hx, fun c hc => ?_⟩, RK_c hK (by rw [x0]) (fun q h1 h2 => o q (by omega) (by omega) (by omega)) (by rw [x102]) (o 121 (by omega) (by decide) (by decide)), RP_c hP (by rw [o 46 (by omega) (by decide) (by decide)]) (o 47 (by omega) (by decide) (by decide)) (by rw [x102]) (o 107 (by omega) (by decide) (by decide)), RW_c hRW (by rw [x0]) (fun i hi => o _ (by omega) (by omega) (by omega)) (by rw [x102]) (o 112 (by omega) (by decide) (by decide)), RS_c hS (fun q h1 h2 => o q (by omega) (by omega) (by omega)) (o 114 (by omega) (by decide) (by decide)) (o 115 (by omega) (by decide) (by decide)) rfl, RH_c hH (fun s hs => o _ (by omega) (by omega) (by omega)) (o 117 (by omega) (by decide) (by decide)) (o 118 (by omega) (by decide) (by decide)) (o 119 (by omega) (by decide) (by decide)), RX_c hX (by rw [o 88 (by omega) (by decide) (by decide)]) (o 89 (by omega) (by decide) (by decide)) (by rw [x102]) (o 120 (by omega) (by decide) (by decide))⟩
  have hc6 := hB c hc
  have m0 : md I 0 c 0 = I 104 c := rfl
  have m1 : md I 0 c 1 = I 105 c := rfl
  by_cases e : c = b
  · subst e
    rw [xb]
    refine ⟨bo_u (bo_u hc6.1 hk) ha, fun p hp => ?_⟩
    by_cases p0 : p = 0
    · subst p0
      show X 104 c = _
      rw [x4, pk_us, pk_un (by decide), pk_us]
    · by_cases p1 : p = 1
      · subst p1
        show X 105 c = _
        rw [x5, pk_us, pk_us]
      · rw [pk_un p1, pk_un p0, ← hc6.2 p hp, md_p (by omega), md_p (by omega), o 106 (by omega) (by decide) (by decide)]
  · rw [o (5 + 2 * c) (by omega) (by omega) (by omega)]
    refine ⟨hc6.1, fun p hp => ?_⟩
    rw [← hc6.2 p hp]
    unfold md
    rw [x4, x5, pk_un e, pk_un e, o 106 (by omega) (by decide) (by decide)]
set_option maxHeartbeats 4000000 in
theorem two_gap {I : pm_I} {J : pm_J} (hI : Rel I I J) {v : Int32} : two_ yX7_gap cX7_gap 3 yX8_gap cX8_gap 3 [.int v] I J := by
  obtain ⟨n, t, hL⟩ := hI
  have hI : Rel I I J := ⟨n, t, hL⟩
  obtain ⟨hA, hK, hP, hRW, hS, hH, hX⟩ := id hL
  obtain ⟨h6, ht, hn, hnow, hn8, hnow8, hgap8, hz8, hat, hcol, hw8, hB⟩ := id hA
  obtain ⟨hF, hW, hok⟩ := RA_m hA (Im2 := I) (fun _ _ => rfl)
  have hn2 : I 102 2 = I 1 2 := hn8.trans hn.symm
  have hc := c_X7_gap (d := 10) (I := I) (J := J) (v := v)
  by_cases q : 1 ≤ v ∧ v ≤ 20
  · rw [if_pos q, if_pos q] at hc
    have hm := c_X8_gap (d := 10) (I := pm_u I 1 4 v) (J := J) (v := v)
    rw [if_pos q, if_pos q] at hm
    refine two_d hc hm hgap8 ?_
    exact ⟨n, t, ⟨h6, ht, hn, hnow, hn8, hnow8, rfl, hz8, hat, hcol, hw8, fun b hb => by rw [pm_u_off (show 5 + 2 * b ≠ _ by omega), pm_u_off (show 5 + 2 * b ≠ _ by omega)]; exact hB b hb⟩, RK_c hK rfl (fun a h1 h2 => by rw [pm_u_off (by omega), pm_u_off (by omega)]) rfl rfl, RP_c hP rfl rfl rfl rfl, RW_c hRW rfl (fun i hi => by rw [pm_u_off (by omega), pm_u_off (by omega)]) rfl rfl, RS_c hS (fun a h1 h2 => by rw [pm_u_off (by omega), pm_u_off (by omega)]) rfl rfl rfl, RH_c hH (fun s hs => by rw [pm_u_off (by omega), pm_u_off (by omega)]) rfl rfl rfl, RX_c hX rfl rfl rfl rfl⟩
  · rw [if_neg q, if_neg q] at hc
    have hm := c_X8_gap (d := 10) (I := I) (J := J) (v := v)
    rw [if_neg q, if_neg q] at hm
    exact two_d hc hm rfl hI

set_option maxHeartbeats 4000000 in
theorem two_seed {I : pm_I} {J : pm_J} (hI : Rel I I J) {v : Int32} : two_ yX7_seed cX7_seed 3 yX8_seed cX8_seed 3 [.int v] I J := by
  obtain ⟨n, t, hL⟩ := hI
  have hI : Rel I I J := ⟨n, t, hL⟩
  obtain ⟨hA, hK, hP, hRW, hS, hH, hX⟩ := id hL
  obtain ⟨h6, ht, hn, hnow, hn8, hnow8, hgap8, hz8, hat, hcol, hw8, hB⟩ := id hA
  obtain ⟨hF, hW, hok⟩ := RA_m hA (Im2 := I) (fun _ _ => rfl)
  have hn2 : I 102 2 = I 1 2 := hn8.trans hn.symm
  refine two_d (c_X7_seed (d := 11)) (c_X8_seed (d := 11)) hz8 ?_
  exact ⟨n, t, ⟨h6, ht, hn, hnow, hn8, hnow8, hgap8, rfl, hat, hcol, hw8, fun b hb => by rw [pm_u_off (show 5 + 2 * b ≠ _ by omega), pm_u_off (show 5 + 2 * b ≠ _ by omega)]; exact hB b hb⟩, RK_c hK rfl (fun a h1 h2 => by rw [pm_u_off (by omega), pm_u_off (by omega)]) rfl rfl, RP_c hP rfl rfl rfl rfl, RW_c hRW rfl (fun i hi => by rw [pm_u_off (by omega), pm_u_off (by omega)]) rfl rfl, RS_c hS (fun a h1 h2 => by rw [pm_u_off (by omega), pm_u_off (by omega)]) rfl rfl rfl, RH_c hH (fun s hs => by rw [pm_u_off (by omega), pm_u_off (by omega)]) rfl rfl rfl, RX_c hX rfl rfl rfl rfl⟩

set_option maxHeartbeats 4000000 in
theorem two_clock {I : pm_I} {J : pm_J} (hI : Rel I I J) {v : Int32} : two_ yX7_clock cX7_clock 3 yX8_clock cX8_clock 3 [.int v] I J := by
  obtain ⟨n, t, hL⟩ := hI
  have hI : Rel I I J := ⟨n, t, hL⟩
  obtain ⟨hA, hK, hP, hRW, hS, hH, hX⟩ := id hL
  obtain ⟨h6, ht, hn, hnow, hn8, hnow8, hgap8, hz8, hat, hcol, hw8, hB⟩ := id hA
  obtain ⟨hF, hW, hok⟩ := RA_m hA (Im2 := I) (fun _ _ => rfl)
  have hn2 : I 102 2 = I 1 2 := hn8.trans hn.symm
  have hc := c_X7_clock (d := 10) (I := I) (J := J) (v := v)
  by_cases q : 0 ≤ v ∧ v ≤ 96
  · rw [if_pos q, if_pos q] at hc
    have hm := c_X8_clock (d := 10) (I := pm_u I 1 3 v) (J := J) (v := v)
    rw [if_pos q, if_pos q] at hm
    obtain ⟨t2, ht2, rfl⟩ := pm_ix (x := v) (N := 97) q.1 q.2 (by decide)
    refine two_d hc hm (hnow8.trans hnow.symm) ?_
    exact ⟨n, t2, ⟨h6, by omega, hn, rfl, hn8, rfl, hgap8, hz8, hat, hcol, hw8, fun b hb => ⟨by rw [pm_u_off (show 5 + 2 * b ≠ _ by omega), pm_u_off (show 5 + 2 * b ≠ _ by omega)]; exact (hB b hb).1, fun p hp => by rw [pm_u_off (show 5 + 2 * b ≠ _ by omega), pm_u_off (show 5 + 2 * b ≠ _ by omega), md_c1 (Im := I) (Im2 := pm_u (pm_u I 1 3 (nI t2)) 106 0 (nI t2)) rfl rfl (fun k k1 k2 => by rw [pm_u_at, pk_un (by omega)]; rfl) (by omega) hp]; exact (hB b hb).2 p hp⟩⟩, RK_c hK rfl (fun a h1 h2 => by rw [pm_u_off (by omega), pm_u_off (by omega)]) rfl rfl, RP_c hP rfl rfl rfl rfl, RW_c hRW rfl (fun i hi => by rw [pm_u_off (by omega), pm_u_off (by omega)]) rfl rfl, RS_c hS (fun a h1 h2 => by rw [pm_u_off (by omega), pm_u_off (by omega)]) rfl rfl rfl, RH_c hH (fun s hs => by rw [pm_u_off (by omega), pm_u_off (by omega)]) rfl rfl rfl, RX_c hX rfl rfl rfl rfl⟩
  · rw [if_neg q, if_neg q] at hc
    have hm := c_X8_clock (d := 10) (I := I) (J := J) (v := v)
    rw [if_neg q, if_neg q] at hm
    exact two_d hc hm rfl hI

set_option maxHeartbeats 4000000 in
theorem two_warm {I : pm_I} {J : pm_J} (hI : Rel I I J) {x v : Int32} : two_ yX7_warm cX7_warm 4 yX8_warm cX8_warm 4 [.int x, .int v] I J := by
  obtain ⟨n, t, hL⟩ := hI
  have hI : Rel I I J := ⟨n, t, hL⟩
  obtain ⟨hA, hK, hP, hRW, hS, hH, hX⟩ := id hL
  obtain ⟨h6, ht, hn, hnow, hn8, hnow8, hgap8, hz8, hat, hcol, hw8, hB⟩ := id hA
  obtain ⟨hF, hW, hok⟩ := RA_m hA (Im2 := I) (fun _ _ => rfl)
  have hn2 : I 102 2 = I 1 2 := hn8.trans hn.symm
  have hc := c_X7_warm (d := 9) (I := I) (J := J) (x := x) (v := v)
  by_cases q : (0 ≤ x ∧ x ≤ 23) ∧ -20 ≤ v ∧ v ≤ 40
  · rw [if_pos q, if_pos q] at hc
    have hm := c_X8_warm (d := 9) (I := pm_u I 2 x.toNatClampNeg v) (J := J) (x := x) (v := v)
    rw [if_pos q, if_pos q] at hm
    obtain ⟨k, hk, rfl⟩ := pm_ix (x := x) (N := 24) q.1.1 q.1.2 (by decide)
    rw [nI_clamp (by omega)] at hc hm
    refine two_d hc hm ?_ ?_
    · show 100 + I 103 k = I 2 k + 100
      rw [hw8 k hk, Int32.add_comm]
    · exact ⟨n, t, ⟨h6, ht, hn, hnow, hn8, hnow8, hgap8, hz8, hat, hcol, fun h hh => upd_c (hw8 h hh), fun b hb => by rw [pm_u_off (show 5 + 2 * b ≠ _ by omega), pm_u_off (show 5 + 2 * b ≠ _ by omega)]; exact hB b hb⟩, RK_c hK rfl (fun a h1 h2 => by rw [pm_u_off (by omega), pm_u_off (by omega)]) rfl rfl, RP_c hP rfl rfl rfl rfl, RW_c hRW rfl (fun i hi => by rw [pm_u_off (by omega), pm_u_off (by omega)]) rfl rfl, RS_c hS (fun a h1 h2 => by rw [pm_u_off (by omega), pm_u_off (by omega)]) rfl rfl rfl, RH_c hH (fun s hs => by rw [pm_u_off (by omega), pm_u_off (by omega)]) rfl rfl rfl, RX_c hX rfl rfl rfl rfl⟩
  · rw [if_neg q, if_neg q] at hc
    have hm := c_X8_warm (d := 9) (I := I) (J := J) (x := x) (v := v)
    rw [if_neg q, if_neg q] at hm
    exact two_d hc hm rfl hI

set_option maxHeartbeats 4000000 in
theorem two_draw {I : pm_I} {J : pm_J} (hI : Rel I I J) {x : Int32} : two_ yX7_draw cX7_draw 2 yX8_draw cX8_draw 2 [.int x] I J := by
  obtain ⟨n, t, hL⟩ := hI
  have hI : Rel I I J := ⟨n, t, hL⟩
  obtain ⟨hA, hK, hP, hRW, hS, hH, hX⟩ := id hL
  obtain ⟨h6, ht, hn, hnow, hn8, hnow8, hgap8, hz8, hat, hcol, hw8, hB⟩ := id hA
  obtain ⟨hF, hW, hok⟩ := RA_m hA (Im2 := I) (fun _ _ => rfl)
  have hn2 : I 102 2 = I 1 2 := hn8.trans hn.symm
  have hc := c_X7_draw (d := 9) (I := I) (J := J) (x := x)
  by_cases q : 0 ≤ x ∧ x ≤ 23
  · rw [if_pos q, if_pos q] at hc
    have hm := c_X8_draw (d := 9) (I := pm_u (pm_u I 1 5 (dr_z (I 1 5))) 2 x.toNatClampNeg (dr_v (dr_z (I 1 5)))) (J := J) (x := x)
    rw [if_pos q, if_pos q, show pm_u (pm_u I 1 5 (dr_z (I 1 5))) 2 x.toNatClampNeg (dr_v (dr_z (I 1 5))) 102 8 = I 1 5 from hz8] at hm
    obtain ⟨k, hk, rfl⟩ := pm_ix (x := x) (N := 24) q.1 q.2 (by decide)
    rw [nI_clamp (by omega)] at hc hm
    refine two_d hc hm (Int32.add_comm _ _) ?_
    exact ⟨n, t, ⟨h6, ht, hn, hnow, hn8, hnow8, hgap8, rfl, hat, hcol, fun h hh => upd_c (hw8 h hh), fun b hb => by rw [pm_u_off (show 5 + 2 * b ≠ _ by omega), pm_u_off (show 5 + 2 * b ≠ _ by omega), pm_u_off (show 5 + 2 * b ≠ _ by omega), pm_u_off (show 5 + 2 * b ≠ _ by omega)]; exact hB b hb⟩, RK_c hK rfl (fun a h1 h2 => by rw [pm_u_off (by omega), pm_u_off (by omega), pm_u_off (by omega), pm_u_off (by omega)]) rfl rfl, RP_c hP rfl rfl rfl rfl, RW_c hRW rfl (fun i hi => by rw [pm_u_off (by omega), pm_u_off (by omega), pm_u_off (by omega), pm_u_off (by omega)]) rfl rfl, RS_c hS (fun a h1 h2 => by rw [pm_u_off (by omega), pm_u_off (by omega), pm_u_off (by omega), pm_u_off (by omega)]) rfl rfl rfl, RH_c hH (fun s hs => by rw [pm_u_off (by omega), pm_u_off (by omega), pm_u_off (by omega), pm_u_off (by omega)]) rfl rfl rfl, RX_c hX rfl rfl rfl rfl⟩
  · rw [if_neg q, if_neg q] at hc
    have hm := c_X8_draw (d := 9) (I := I) (J := J) (x := x)
    rw [if_neg q, if_neg q] at hm
    exact two_d hc hm rfl hI

set_option maxHeartbeats 4000000 in
theorem two_becomes {I : pm_I} {J : pm_J} (hI : Rel I I J) {x w v : Int32} : two_ yX7_becomes cX7_becomes 6 yX8_becomes cX8_becomes 5 [.int x, .int w, .int v] I J := by
  obtain ⟨n, t, hL⟩ := hI
  have hI : Rel I I J := ⟨n, t, hL⟩
  obtain ⟨hA, hK, hP, hRW, hS, hH, hX⟩ := id hL
  obtain ⟨h6, ht, hn, hnow, hn8, hnow8, hgap8, hz8, hat, hcol, hw8, hB⟩ := id hA
  obtain ⟨hF, hW, hok⟩ := RA_m hA (Im2 := I) (fun _ _ => rfl)
  have hn2 : I 102 2 = I 1 2 := hn8.trans hn.symm
  have hc := c_X7_becomes (d := 9) (J := J) (x := x) (w := w) (v := v) hn h6
  by_cases q0 : (0 ≤ x ∧ x ≤ I 1 2 - 1) ∧ (2 ≤ w ∧ w ≤ 8) ∧ (pm_tv 1).getD w.toNatClampNeg 0 ≤ v ∧ v ≤ (pm_tv 2).getD w.toNatClampNeg 0
  · rw [if_pos q0, if_pos q0] at hc
    have q := q0.1
    obtain ⟨b, hb, rfl⟩ := pm_hasN (x := x) (n := n) (by omega) (by rw [← hn]; exact q)
    obtain ⟨k, hk, rfl⟩ := pm_ix (x := w) (N := 9) (Int32.le_trans (by decide) q0.2.1.1) q0.2.1.2 (by decide)
    have hk2 : 2 ≤ k := (nI_leI (a := 2) (b := k) (by decide) (by omega)).mp q0.2.1.1
    have hm := c_X8_becomes (d := 9) (I := pm_u I (5 + 2 * (nI b).toNatClampNeg) (nI k).toNatClampNeg v) (J := J) (b := nI b) (x := nI k) (v := v) (n := n) (by rw [pm_u_off (by rw [nI_clamp (by omega)]; omega)]; exact hn8) h6 (by rw [pm_u_off (by rw [nI_clamp (by omega)]; omega)]; exact hat)
    have q1 := q0
    rw [← hn2] at q1
    have e102 : pm_u I (5 + 2 * (nI b).toNatClampNeg) (nI k).toNatClampNeg v 102 2 = I 102 2 := by rw [pm_u_off (by rw [nI_clamp (by omega)]; omega)]
    rw [← e102] at q1
    rw [if_pos q1, if_pos q1] at hm
    rw [nI_clamp (by omega), nI_clamp (by omega)] at hc hm
    have hv := q0.2.2
    rw [nI_clamp (by omega)] at hv
    have hmd := (hB b hb).2 k hk
    rw [md_p hk2] at hmd
    refine two_d hc hm ?_ ?_
    · rw [pm_u_off (by omega)]
      exact hmd
    · exact RL_bec hL hb hk hk2 hv
  · rw [if_neg q0, if_neg q0] at hc
    have hm := c_X8_becomes (d := 9) (I := I) (J := J) (b := x) (x := w) (v := v) hn8 h6 hat
    rw [if_neg (by rw [hn2]; exact q0), if_neg (by rw [hn2]; exact q0)] at hm
    exact two_d hc hm rfl hI

set_option maxHeartbeats 4000000 in
theorem two_mind {I : pm_I} {J : pm_J} (hI : Rel I I J) {x k a : Int32} : two_ yX7_mind cX7_mind 6 yX8_mind cX8_mind 5 [.int x, .int k, .int a] I J := by
  obtain ⟨n, t, hL⟩ := hI
  have hI : Rel I I J := ⟨n, t, hL⟩
  obtain ⟨hA, hK, hP, hRW, hS, hH, hX⟩ := id hL
  obtain ⟨h6, ht, hn, hnow, hn8, hnow8, hgap8, hz8, hat, hcol, hw8, hB⟩ := id hA
  obtain ⟨hF, hW, hok⟩ := RA_m hA (Im2 := I) (fun _ _ => rfl)
  have hn2 : I 102 2 = I 1 2 := hn8.trans hn.symm
  have hc := c_X7_mind (d := 9) (J := J) (x := x) (k := k) (a := a) hn h6
  by_cases q0 : (0 ≤ x ∧ x ≤ I 1 2 - 1) ∧ (0 ≤ k ∧ k ≤ 5) ∧ 0 ≤ a ∧ a ≤ 9
  · rw [if_pos q0, if_pos q0] at hc
    have q := q0.1
    obtain ⟨b, hb, rfl⟩ := pm_hasN (x := x) (n := n) (by omega) (by rw [← hn]; exact q)
    rw [nI_clamp (by omega)] at hc
    have e102 : pm_u (pm_u I (5 + 2 * b) 0 k) (5 + 2 * b) 1 a 102 = I 102 := by rw [pm_u_off (by omega), pm_u_off (by omega)]
    have e104 : pm_u (pm_u I (5 + 2 * b) 0 k) (5 + 2 * b) 1 a 104 = I 104 := by rw [pm_u_off (by omega), pm_u_off (by omega)]
    have hm := c_X8_mind (d := 9) (I := pm_u (pm_u I (5 + 2 * b) 0 k) (5 + 2 * b) 1 a) (J := J) (b := nI b) (k := k) (a := a) (n := n) (by rw [e102]; exact hn8) h6
    rw [e102, hn2, if_pos q0, if_pos q0, nI_clamp (by omega), e104] at hm
    have hmd := (hB b hb).2 0 (by decide)
    refine two_d hc hm hmd ?_
    exact RL_mind hL hb q0.2.1 q0.2.2
  · rw [if_neg q0, if_neg q0] at hc
    have hm := c_X8_mind (d := 9) (I := I) (J := J) (b := x) (k := k) (a := a) hn8 h6
    rw [hn2, if_neg q0, if_neg q0] at hm
    exact two_d hc hm rfl hI

set_option maxHeartbeats 4000000 in
theorem two_pour {I : pm_I} {J : pm_J} (hI : Rel I I J) {x v : Int32} : two_ yX7_pour cX7_pour 4 yX8_pour cX8_pour 3 [.int x, .int v] I J := by
  obtain ⟨n, t, hL⟩ := hI
  have hI : Rel I I J := ⟨n, t, hL⟩
  obtain ⟨hA, hK, hP, hRW, hS, hH, hX⟩ := id hL
  obtain ⟨h6, ht, hn, hnow, hn8, hnow8, hgap8, hz8, hat, hcol, hw8, hB⟩ := id hA
  obtain ⟨hF, hW, hok⟩ := RA_m hA (Im2 := I) (fun _ _ => rfl)
  have hn2 : I 102 2 = I 1 2 := hn8.trans hn.symm
  have hc := c_X7_pour (d := 9) (J := J) (x := x) (v := v) hn h6
  by_cases q0 : (0 ≤ x ∧ x ≤ I 1 2 - 1) ∧ 1 ≤ v ∧ v ≤ 999
  · have q := q0.1
    obtain ⟨b, hb, rfl⟩ := pm_hasN (x := x) (n := n) (by omega) (by rw [← hn]; exact q)
    rw [if_pos q0, nI_clamp (by omega)] at hc
    have hmd := (hB b hb).2 6 (by decide)
    rw [md_p (by decide)] at hmd
    by_cases q5 : v ≤ I (5 + 2 * b) 6
    · rw [if_pos q5, if_pos ⟨q0, q5⟩] at hc
      have e102 : pm_u I (5 + 2 * b) 6 (I (5 + 2 * b) 6 - v) 102 = I 102 := by rw [pm_u_off (by omega)]
      have e106 : pm_u I (5 + 2 * b) 6 (I (5 + 2 * b) 6 - v) 106 = I 106 := by rw [pm_u_off (by omega)]
      have hm := c_X8_pour (d := 9) (I := pm_u I (5 + 2 * b) 6 (I (5 + 2 * b) 6 - v)) (J := J) (b := nI b) (v := v) (n := n) (by rw [e102]; exact hn8) h6 (by rw [e102]; exact hat)
      have q5m : v ≤ I 106 (0 + 7 * b + 5) := by rw [show I 106 (0 + 7 * b + 5) = I (5 + 2 * b) 6 from hmd]; exact q5
      rw [e102, hn2, if_pos q0, nI_clamp (by omega), e106, if_pos q5m, if_pos ⟨q0, q5m⟩] at hm
      rw [show I 106 (0 + 7 * b + 5) = I (5 + 2 * b) 6 from hmd] at hm
      refine two_d hc hm rfl ?_
      refine RL_bec (k := 6) hL hb (by decide) (by decide) ?_
      have h1 := (bo_in (hB b hb).1).2.2.2.2.2.2.1
      obtain ⟨c, hcc, ec⟩ := pm_ix (x := I (5 + 2 * b) 6) (N := 1000) h1.1 h1.2 (by decide)
      obtain ⟨e, he, ee⟩ := pm_ix (x := v) (N := 1000) (Int32.le_trans (by decide) q0.2.1) q0.2.2 (by decide)
      rw [ec, ee] at q5 ⊢
      have hle := (nI_leI (by omega) (by omega)).mp q5
      rw [nI_subN hle]
      exact ⟨nI_pos' (by omega), (nI_leI (a := c - e) (b := 999) (by omega) (by decide)).mpr (by omega)⟩
    · rw [if_neg q5, if_neg (fun z => q5 z.2)] at hc
      have hm := c_X8_pour (d := 9) (I := I) (J := J) (b := nI b) (v := v) (n := n) hn8 h6 hat
      have q5m : ¬ v ≤ I 106 (0 + 7 * b + 5) := by rw [show I 106 (0 + 7 * b + 5) = I (5 + 2 * b) 6 from hmd]; exact q5
      rw [hn2, if_pos q0, nI_clamp (by omega), if_neg q5m, if_neg (fun z => q5m z.2)] at hm
      exact two_d hc hm rfl hI
  · rw [if_neg q0, if_neg (fun z => q0 z.1)] at hc
    have hm := c_X8_pour (d := 9) (I := I) (J := J) (b := x) (v := v) (n := n) hn8 h6 hat
    rw [hn2, if_neg q0, if_neg (fun z => q0 z.1)] at hm
    exact two_d hc hm rfl hI

set_option maxHeartbeats 4000000 in
theorem two_hours {I : pm_I} {J : pm_J} (hI : Rel I I J) {x : Int32} : two_ yX7_hours cX7_hours 3 yX8_hours cX8_hours 2 [.int x] I J := by
  obtain ⟨n, t, hL⟩ := hI
  have hI : Rel I I J := ⟨n, t, hL⟩
  obtain ⟨hA, hK, hP, hRW, hS, hH, hX⟩ := id hL
  obtain ⟨h6, ht, hn, hnow, hn8, hnow8, hgap8, hz8, hat, hcol, hw8, hB⟩ := id hA
  obtain ⟨hF, hW, hok⟩ := RA_m hA (Im2 := I) (fun _ _ => rfl)
  have hn2 : I 102 2 = I 1 2 := hn8.trans hn.symm
  by_cases q : 0 ≤ x ∧ x ≤ 48
  · obtain ⟨h, hh, rfl⟩ := pm_ix (x := x) (N := 49) q.1 q.2 (by decide)
    have hc := c_X7_hours (d := 7) (J := J) hn h6 (h := h) hnow ht (by omega)
    refine two_r (Pc := fun I2 => I2 = tw_go I n t (min h (96 - t))) (Pm := fun _ => True) (pm_post hc (fun r sh2 I2 J2 z => ⟨z.1, z.2.1, z.2.2.2, z.2.2.1⟩)) (fun I2 e2 => ?_)
    have c4 : ∀ a, 102 ≤ a → I2 a = I a := fun a ha => by rw [e2]; exact tw_go_off (by omega) (fun b hb => by omega) _
    obtain ⟨gF, gW, gok⟩ := RA_m hA c4
    refine ⟨_, c_X8_hours (d := 5) (J := J) gF ht gok gW (h := h) (by omega), fun r sh3 I3 J3 z => ⟨z.1, z.2.1, n, t + min h (96 - t), ?_⟩⟩
    rw [z.2.2.1]
    refine RL_W hL (by omega) (fun a a1 a2 a3 => by rw [e2]; exact tw_go_off a2 a3 _) (fun p hp => by rw [e2]; exact tw_go_1 hp _) (by rw [e2]; exact tw_go_now hnow _) c4 (fun b hb => ?_) z.2.2.2
    rw [e2, tw_go_L hb]
    exact ⟨bo_ev (hB b hb).1 _, fun p hp => rfl⟩
  · exact two_q hI (c_X7_hours0 q) (c_X8_hours0 q) rfl
