/-! Calls that change nothing, and trials, on both sides -/
theorem kd_mk : ∀ k, k < 6 → ∀ o, o < 6 → (kd_anc 6 (nI k) (nI o) = true ↔ mk_un (nI k) (nI o)) := by decide +kernel
theorem nI_24 (t : Nat) (h : t ≤ 96) : nI t - nI t / 24 * 24 = nI (t % 24) := pk_rem (d := 24) (by omega) (by decide) (by decide)
theorem bo_kd {f : Nat → Int32} (h : bo_ok f) : ∃ k, k < 6 ∧ f 0 = nI k := pm_ix (N := 6) (bo_in h).1.1 (bo_in h).1.2 (by decide)
theorem RS_at {Ic Im : pm_I} {Jm : pm_J} (h : RS Ic Im Jm) : ∃ ln : Nat → Nat, (∀ e, e < 4 → Ic (90 + 2 * e) 2 = nI (ln e) ∧ ln e ≤ 40) ∧ (∀ e, e < 4 → Im 115 e = nI (ln e) ∧ ln e ≤ 40) ∧ (∀ e, e < 4 → Im 114 e = Ic (90 + 2 * e) 1 ∧ (-1 ≤ Ic (90 + 2 * e) 1 ∧ Ic (90 + 2 * e) 1 ≤ 3)) ∧ ∀ e, e < 4 → ∀ k, k < ln e → Jm 116 (40 * e + k) = (Ic (91 + 2 * e) k).toInt64 := by
  obtain ⟨ln, h⟩ := h
  exact ⟨ln, fun e he => ⟨(h e he).2.1, (h e he).1⟩, fun e he => ⟨(h e he).2.2.1, (h e he).1⟩, fun e he => ⟨(h e he).2.2.2.1, (h e he).2.2.2.2.1⟩, fun e he k hk => (h e he).2.2.2.2.2 k hk⟩
theorem tk_w10 {w : Int32} : (0 ≤ w - 10 ∧ w - 10 ≤ 3) ↔ (10 ≤ w ∧ w ≤ 13) := by
  constructor
  · intro h
    obtain ⟨j, hj, ej⟩ := pm_ix (x := w - 10) (N := 4) h.1 h.2 (by decide)
    have e : w = nI (10 + j) := by rw [← nI_add, ← ej]; show w = 10 + (w - 10); grind
    rw [e]
    exact ⟨(nI_leI (a := 10) (b := 10 + j) (by decide) (by omega)).mpr (by omega), (nI_leI (a := 10 + j) (b := 13) (by omega) (by decide)).mpr (by omega)⟩
  · intro h
    obtain ⟨j, hj, ej⟩ := pm_ix (x := w) (N := 14) (Int32.le_trans (by decide) h.1) h.2 (by decide)
    subst ej
    have h10 : 10 ≤ j := (nI_leI (a := 10) (b := j) (by decide) (by omega)).mp h.1
    have e : nI j - 10 = nI (j - 10) := nI_subN (a := j) (b := 10) h10
    rw [e]
    exact ⟨nI_pos' (by omega), (nI_leI (a := j - 10) (b := 3) (by omega) (by decide)).mpr (by omega)⟩
set_option maxHeartbeats 4000000 in
theorem two_warmth {I : pm_I} {J : pm_J} (hI : Rel I I J) {x : Int32} : two_ yX7_warmth cX7_warmth 2 yX8_warmth cX8_warmth 2 [.int x] I J := by
  obtain ⟨n, t, hL⟩ := hI
  have hI : Rel I I J := ⟨n, t, hL⟩
  obtain ⟨hA, hK, hP, hRW, hS, hH, hX⟩ := id hL
  obtain ⟨h6, ht, hn, hnow, hn8, hnow8, hgap8, hz8, hat, hcol, hw8, hB⟩ := id hA
  obtain ⟨hF, hW, hok⟩ := RA_m hA (Im2 := I) (fun _ _ => rfl)
  have hn2 : I 102 2 = I 1 2 := hn8.trans hn.symm
  refine two_q hI (c_X7_warmth) (c_X8_warmth) ?_
  by_cases q : 0 ≤ x ∧ x ≤ 23
  · rw [if_pos q, if_pos q, hw8 _ (pm_lt q.1 q.2 (by decide)), Int32.add_comm]
  · rw [if_neg q, if_neg q]

set_option maxHeartbeats 4000000 in
theorem two_touches {I : pm_I} {J : pm_J} (hI : Rel I I J) {x : Int32} : two_ yX7_touches cX7_touches 2 yX8_touches cX8_touches 2 [.int x] I J := by
  obtain ⟨n, t, hL⟩ := hI
  have hI : Rel I I J := ⟨n, t, hL⟩
  obtain ⟨hA, hK, hP, hRW, hS, hH, hX⟩ := id hL
  obtain ⟨h6, ht, hn, hnow, hn8, hnow8, hgap8, hz8, hat, hcol, hw8, hB⟩ := id hA
  obtain ⟨hF, hW, hok⟩ := RA_m hA (Im2 := I) (fun _ _ => rfl)
  have hn2 : I 102 2 = I 1 2 := hn8.trans hn.symm
  by_cases q : 0 ≤ x ∧ x ≤ I 1 2 - 1
  · obtain ⟨b, hb, rfl⟩ := pm_hasN (x := x) (n := n) (by omega) (by rw [← hn]; exact q)
    exact two_q hI (c_X7_touches hn h6) (c_X8_touches hF ht hok hW hb) (by rw [if_pos q, nI_clamp (by omega)])
  · exact two_q hI (c_X7_touches hn h6) (c_X8_touches0 (by rw [hn2]; exact q)) (by rw [if_neg q])

set_option maxHeartbeats 4000000 in
theorem two_reached {I : pm_I} {J : pm_J} (hI : Rel I I J) {x : Int32} : two_ yX7_reached cX7_reached 2 yX8_reached cX8_reached 2 [.int x] I J := by
  obtain ⟨n, t, hL⟩ := hI
  have hI : Rel I I J := ⟨n, t, hL⟩
  obtain ⟨hA, hK, hP, hRW, hS, hH, hX⟩ := id hL
  obtain ⟨h6, ht, hn, hnow, hn8, hnow8, hgap8, hz8, hat, hcol, hw8, hB⟩ := id hA
  obtain ⟨hF, hW, hok⟩ := RA_m hA (Im2 := I) (fun _ _ => rfl)
  have hn2 : I 102 2 = I 1 2 := hn8.trans hn.symm
  by_cases q : 0 ≤ x ∧ x ≤ I 1 2 - 1
  · obtain ⟨b, hb, rfl⟩ := pm_hasN (x := x) (n := n) (by omega) (by rw [← hn]; exact q)
    exact two_q hI (c_X7_reached hn h6) (c_X8_reached hF ht hok hW hb) (by rw [if_pos q, nI_clamp (by omega)])
  · exact two_q hI (c_X7_reached hn h6) (c_X8_reached0 (by rw [hn2]; exact q)) (by rw [if_neg q])

set_option maxHeartbeats 4000000 in
theorem two_lasts {I : pm_I} {J : pm_J} (hI : Rel I I J) {x : Int32} : two_ yX7_lasts cX7_lasts 4 yX8_lasts cX8_lasts 4 [.int x] I J := by
  obtain ⟨n, t, hL⟩ := hI
  have hI : Rel I I J := ⟨n, t, hL⟩
  obtain ⟨hA, hK, hP, hRW, hS, hH, hX⟩ := id hL
  obtain ⟨h6, ht, hn, hnow, hn8, hnow8, hgap8, hz8, hat, hcol, hw8, hB⟩ := id hA
  obtain ⟨hF, hW, hok⟩ := RA_m hA (Im2 := I) (fun _ _ => rfl)
  have hn2 : I 102 2 = I 1 2 := hn8.trans hn.symm
  by_cases q : 0 ≤ x ∧ x ≤ I 1 2 - 1
  · obtain ⟨b, hb, rfl⟩ := pm_hasN (x := x) (n := n) (by omega) (by rw [← hn]; exact q)
    refine two_q hI (c_X7_lasts hn h6) (c_X8_lasts hF ht hok hW hb) ?_
    rw [if_pos q, nI_clamp (by omega)]
    have hm := (bo_in (hB b hb).1).2.2.2.2.2.2.2.2.1
    show (if I (5 + 2 * b) 7 = 0 then 0 else if I (5 + 2 * b) 8 = 0 then -3 else (I (5 + 2 * b) 7 + I (5 + 2 * b) 8 - 1) / I (5 + 2 * b) 8) = _
    by_cases q7 : I (5 + 2 * b) 7 = 0
    · rw [if_pos q7, if_pos q7]
    · rw [if_neg q7, if_neg q7]
      by_cases q8 : I (5 + 2 * b) 8 = 0
      · rw [if_pos q8, if_neg (by rw [q8]; decide)]
      · rw [if_neg q8, if_pos (by grind)]
  · exact two_q hI (c_X7_lasts hn h6) (c_X8_lasts0 (by rw [hn2]; exact q)) (by rw [if_neg q])

set_option maxHeartbeats 4000000 in
theorem two_balloonOf {I : pm_I} {J : pm_J} (hI : Rel I I J) {x w : Int32} : two_ yX7_balloonOf cX7_balloonOf 4 yX8_balloonOf cX8_balloonOf 3 [.int x, .int w] I J := by
  obtain ⟨n, t, hL⟩ := hI
  have hI : Rel I I J := ⟨n, t, hL⟩
  obtain ⟨hA, hK, hP, hRW, hS, hH, hX⟩ := id hL
  obtain ⟨h6, ht, hn, hnow, hn8, hnow8, hgap8, hz8, hat, hcol, hw8, hB⟩ := id hA
  obtain ⟨hF, hW, hok⟩ := RA_m hA (Im2 := I) (fun _ _ => rfl)
  have hn2 : I 102 2 = I 1 2 := hn8.trans hn.symm
  have h24 : t % 24 < 24 := Nat.mod_lt _ (by decide)
  have hc := c_X7_balloonOf (d := 9) (J := J) (x := x) (w := w) hn h6 (h := t % 24) (by rw [hnow]; exact nI_24 t ht) h24
  by_cases q0 : (0 ≤ x ∧ x ≤ I 1 2 - 1) ∧ 0 ≤ w ∧ w ≤ 11
  · have q := q0.1
    obtain ⟨b, hb, rfl⟩ := pm_hasN (x := x) (n := n) (by omega) (by rw [← hn]; exact q)
    exact two_q hI hc (c_X8_balloonOf hF ht hok hW hb q0.2) (by rw [if_pos q0, nI_clamp (by omega)])
  · exact two_q hI hc (c_X8_balloonOf0 (by rw [hn2]; exact q0)) (by rw [if_neg q0])

set_option maxHeartbeats 4000000 in
theorem two_above {I : pm_I} {J : pm_J} (hI : Rel I I J) {x w : Int32} : two_ yX7_above cX7_above 3 yX8_above cX8_above 3 [.int x, .int w] I J := by
  obtain ⟨n, t, hL⟩ := hI
  have hI : Rel I I J := ⟨n, t, hL⟩
  obtain ⟨hA, hK, hP, hRW, hS, hH, hX⟩ := id hL
  obtain ⟨h6, ht, hn, hnow, hn8, hnow8, hgap8, hz8, hat, hcol, hw8, hB⟩ := id hA
  obtain ⟨hF, hW, hok⟩ := RA_m hA (Im2 := I) (fun _ _ => rfl)
  have hn2 : I 102 2 = I 1 2 := hn8.trans hn.symm
  by_cases q0 : (0 ≤ x ∧ x ≤ I 1 2 - 1) ∧ 0 ≤ w ∧ w ≤ 1
  · have q := q0.1
    obtain ⟨b, hb, rfl⟩ := pm_hasN (x := x) (n := n) (by omega) (by rw [← hn]; exact q)
    obtain ⟨k, hk, rfl⟩ := pm_ix (x := w) (N := 2) q0.2.1 q0.2.2 (by decide)
    rcases (show k = 0 ∨ k = 1 by omega) with rfl | rfl
    · exact two_q hI (c_X7_above hn h6) (c_X8_aboveA hF ht hok hW hb) (by rw [if_pos q0, nI_clamp (by omega), if_pos (by decide)])
    · exact two_q hI (c_X7_above hn h6) (c_X8_aboveB hF ht hok hW hb) (by rw [if_pos q0, nI_clamp (by omega), if_neg (by decide)])
  · exact two_q hI (c_X7_above hn h6) (c_X8_above0 (by rw [hn2]; exact q0)) (by rw [if_neg q0])

set_option maxHeartbeats 4000000 in
theorem two_row {I : pm_I} {J : pm_J} (hI : Rel I I J) {x w : Int32} : two_ yX7_row cX7_row 3 yX8_row cX8_row 3 [.int x, .int w] I J := by
  obtain ⟨n, t, hL⟩ := hI
  have hI : Rel I I J := ⟨n, t, hL⟩
  obtain ⟨hA, hK, hP, hRW, hS, hH, hX⟩ := id hL
  obtain ⟨h6, ht, hn, hnow, hn8, hnow8, hgap8, hz8, hat, hcol, hw8, hB⟩ := id hA
  obtain ⟨hF, hW, hok⟩ := RA_m hA (Im2 := I) (fun _ _ => rfl)
  have hn2 : I 102 2 = I 1 2 := hn8.trans hn.symm
  obtain ⟨r, r1, r2, r3, r4⟩ := hRW
  refine two_q hI (c_X7_row r2 r1) (c_X8_row r3 r1) ?_
  have e : I 102 25 = I 0 7 := r3.trans r2.symm
  rw [e]
  by_cases q : (0 ≤ x ∧ x ≤ I 0 7 - 1) ∧ 0 ≤ w ∧ w ≤ 2
  · rw [if_pos q, if_pos q]
    obtain ⟨i, hi, rfl⟩ := pm_hasN (x := x) (n := r) (by omega) (by rw [← r2]; exact q.1)
    obtain ⟨v, hv, rfl⟩ := pm_ix (x := w) (N := 3) q.2.1 q.2.2 (by decide)
    rw [nI_clamp (by omega), nI_clamp (by omega)]
    exact r4 i hi v hv
  · rw [if_neg q, if_neg q]

set_option maxHeartbeats 4000000 in
theorem two_trace {I : pm_I} {J : pm_J} (hI : Rel I I J) {x : Int32} : two_ yX7_trace cX7_trace 2 yX8_trace cX8_trace 2 [.int x] I J := by
  obtain ⟨n, t, hL⟩ := hI
  have hI : Rel I I J := ⟨n, t, hL⟩
  obtain ⟨hA, hK, hP, hRW, hS, hH, hX⟩ := id hL
  obtain ⟨h6, ht, hn, hnow, hn8, hnow8, hgap8, hz8, hat, hcol, hw8, hB⟩ := id hA
  obtain ⟨hF, hW, hok⟩ := RA_m hA (Im2 := I) (fun _ _ => rfl)
  have hn2 : I 102 2 = I 1 2 := hn8.trans hn.symm
  obtain ⟨r, r1, r2, r3, r4⟩ := hX
  refine two_q hI (c_X7_trace r2 r1) (c_X8_trace r3 r1) ?_
  have e : I 102 37 = I 88 1 := r3.trans r2.symm
  rw [e]
  by_cases q : 0 ≤ x ∧ x ≤ I 88 1 - 1
  · rw [if_pos q, if_pos q]
    obtain ⟨i, hi, rfl⟩ := pm_hasN (x := x) (n := r) (by omega) (by rw [← r2]; exact q)
    rw [nI_clamp (by omega)]
    exact r4 i hi
  · rw [if_neg q, if_neg q]

set_option maxHeartbeats 4000000 in
theorem two_many {I : pm_I} {J : pm_J} (hI : Rel I I J) {x : Int32} : two_ yX7_many cX7_many 2 yX8_many cX8_many 2 [.int x] I J := by
  obtain ⟨n, t, hL⟩ := hI
  have hI : Rel I I J := ⟨n, t, hL⟩
  obtain ⟨hA, hK, hP, hRW, hS, hH, hX⟩ := id hL
  obtain ⟨h6, ht, hn, hnow, hn8, hnow8, hgap8, hz8, hat, hcol, hw8, hB⟩ := id hA
  obtain ⟨hF, hW, hok⟩ := RA_m hA (Im2 := I) (fun _ _ => rfl)
  have hn2 : I 102 2 = I 1 2 := hn8.trans hn.symm
  refine two_q hI (c_X7_many hn h6) (c_X8_many hF ht hok hW) ?_
  obtain ⟨r, r1, r2, r3, r4⟩ := hX
  obtain ⟨z, z1, z2, z3, z4⟩ := hP
  obtain ⟨k, k1, k2, k3, k4⟩ := hRW
  rw [hn2, hnow8.trans hnow.symm, k3.trans k2.symm, z3.trans z2.symm, r3.trans r2.symm]

set_option maxHeartbeats 4000000 in
theorem two_item {I : pm_I} {J : pm_J} (hI : Rel I I J) {x w i : Int32} : two_ yX7_item cX7_item 5 yX8_item cX8_item 5 [.int x, .int w, .int i] I J := by
  obtain ⟨n, t, hL⟩ := hI
  have hI : Rel I I J := ⟨n, t, hL⟩
  obtain ⟨hA, hK, hP, hRW, hS, hH, hX⟩ := id hL
  obtain ⟨h6, ht, hn, hnow, hn8, hnow8, hgap8, hz8, hat, hcol, hw8, hB⟩ := id hA
  obtain ⟨hF, hW, hok⟩ := RA_m hA (Im2 := I) (fun _ _ => rfl)
  have hn2 : I 102 2 = I 1 2 := hn8.trans hn.symm
  obtain ⟨ln, l1, l2, l3, l4⟩ := RS_at hS
  refine two_q hI (c_X7_item l1) (c_X8_item l2) ?_
  by_cases q : (0 ≤ x ∧ x ≤ 3) ∧ 0 ≤ w ∧ w ≤ 3
  · rw [if_pos q, if_pos q]
    obtain ⟨s, hs, rfl⟩ := pm_ix (x := x) (N := 4) q.1.1 q.1.2 (by decide)
    rw [nI_clamp (by omega), (l3 s hs).1]
    have hr := (l3 s hs).2
    by_cases q1 : I (90 + 2 * s) 1 = -1
    · rw [if_pos q1, if_pos (by rw [q1]; decide)]
    · rw [if_neg q1, if_neg (by grind)]
      by_cases q2 : I (90 + 2 * s) 1 = w
      · rw [if_pos q2, if_pos q2, (l1 s hs).1, (l2 s hs).1]
        by_cases q3 : 0 ≤ i ∧ i ≤ nI (ln s) - 1
        · rw [if_pos q3, if_pos q3]
          obtain ⟨k, hk, rfl⟩ := pm_hasN (x := i) (n := ln s) (by have := (l1 s hs).2; omega) q3
          rw [nI_clamp (by have := (l1 s hs).2; omega), l4 s hs k hk]
          exact Int32.toInt32_toInt64 _
        · rw [if_neg q3, if_neg q3]
      · rw [if_neg q2, if_neg q2]
  · rw [if_neg q, if_neg q]

set_option maxHeartbeats 4000000 in
theorem two_taken {I : pm_I} {J : pm_J} (hI : Rel I I J) {x w : Int32} : two_ yX7_taken cX7_taken 7 yX8_taken cX8_taken 4 [.int x, .int w] I J := by
  obtain ⟨n, t, hL⟩ := hI
  have hI : Rel I I J := ⟨n, t, hL⟩
  obtain ⟨hA, hK, hP, hRW, hS, hH, hX⟩ := id hL
  obtain ⟨h6, ht, hn, hnow, hn8, hnow8, hgap8, hz8, hat, hcol, hw8, hB⟩ := id hA
  obtain ⟨hF, hW, hok⟩ := RA_m hA (Im2 := I) (fun _ _ => rfl)
  have hn2 : I 102 2 = I 1 2 := hn8.trans hn.symm
  refine two_q hI (c_X7_taken hn h6 (fun b hb => bo_kd (hB b hb).1)) (c_X8_taken hn8 h6) ?_
  have ew : (0 ≤ w - 10 ∧ w - 10 ≤ 3) ↔ (10 ≤ w ∧ w ≤ 13) := tk_w10
  by_cases q : mk_tk x w
  · have qc : (0 ≤ x ∧ x ≤ 3) ∧ ((0 ≤ w ∧ w ≤ 5) ∨ (0 ≤ w - 10 ∧ w - 10 ≤ 3)) := ⟨q.1, q.2.imp id ew.mpr⟩
    rw [if_pos q, if_pos qc]
    obtain ⟨s, hs, rfl⟩ := pm_ix (x := x) (N := 4) q.1.1 q.1.2 (by decide)
    rw [nI_clamp (by omega)]
    rcases hH s hs with ⟨c1, c2⟩ | ⟨c1, c2, c3⟩ | ⟨c1, c2, c3, c4, c5, c6⟩
    · have m1 : mk_on I s = -1 := by unfold mk_on; rw [c2]; rfl
      have hns : ¬ sf_holds I s ∧ ¬ I (98 + s) 0 = 1 := ⟨fun z => by have := z.1; rw [c1] at this; exact absurd this (by decide), by rw [c1]; decide⟩
      rw [m1, if_pos (show (-1 : Int32) < 0 by decide), if_pos hns]
    · by_cases q1 : 0 ≤ I (98 + s) 1 ∧ I (98 + s) 1 ≤ I 1 2 - 1
      · obtain ⟨b, hb, eb⟩ := pm_hasN (n := n) (by omega) (by rw [← hn]; exact q1)
        have m1 : mk_on I s = I (5 + 2 * b) 0 := by
          unfold mk_on
          rw [if_pos c2, c3, hn2, if_pos q1, eb, nI_clamp (by omega)]
          exact (hB b hb).2 0 (by decide)
        obtain ⟨k, hk, ek⟩ := bo_kd (hB b hb).1
        have hsf : sf_holds I s := ⟨c1, q1⟩
        have hk9 : ¬ nI k = 9 := fun z => by have := (nI_eq (a := k) (b := 9) (by omega) (by decide)).mp z; omega
        have hns : ¬ (¬ sf_holds I s ∧ ¬ I (98 + s) 0 = 1) := fun z => z.1 hsf
        rw [m1, ek, if_neg (nI_pos (show k < 2 ^ 31 by omega)), if_neg hk9, if_neg hns, c3]
        have ekk : I (5 + 2 * (I (98 + s) 1).toNatClampNeg) 0 = nI k := by rw [eb, nI_clamp (by omega)]; exact ek
        by_cases q2 : 0 ≤ w ∧ w ≤ 5
        · obtain ⟨o, ho, rfl⟩ := pm_ix (x := w) (N := 6) q2.1 q2.2 (by decide)
          rw [if_pos q2]
          have e := kd_mk k hk o ho
          by_cases q3 : mk_un (nI k) (nI o)
          · have y1 : nI o < 10 ∧ mk_un (nI k) (nI o) := ⟨(nI_ltI (a := o) (b := 10) (by omega) (by decide)).mpr (by omega), q3⟩
            have y2 : sf_holds I s ∧ kd_anc 6 (I (5 + 2 * (I (98 + s) 1).toNatClampNeg) 0) (nI o) = true := ⟨hsf, by rw [ekk]; exact e.mpr q3⟩
            rw [if_pos y1, if_pos y2]
          · have y1 : ¬ (nI o < 10 ∧ mk_un (nI k) (nI o)) := fun z => q3 z.2
            have y2 : ¬ (sf_holds I s ∧ kd_anc 6 (I (5 + 2 * (I (98 + s) 1).toNatClampNeg) 0) (nI o) = true) := fun z => q3 (e.mp (by have := z.2; rw [ekk] at this; exact this))
            rw [if_neg y1, if_neg y2]
        · have q3 : 10 ≤ w ∧ w ≤ 13 := q.2.resolve_left q2
          have y1 : ¬ (w < 10 ∧ mk_un (nI k) w) := fun z => Int32.not_lt.mpr q3.1 z.1
          have y2 : ¬ (I (98 + s) 0 = 1 ∧ I (98 + s) 2 = w - 10) := fun z => by have := z.1; rw [c1] at this; exact absurd this (by decide)
          rw [if_neg q2, if_neg y1, if_neg y2]
      · have m1 : mk_on I s = -1 := by
          unfold mk_on
          rw [if_pos c2, c3, hn2, if_neg q1]
        have hns : ¬ sf_holds I s ∧ ¬ I (98 + s) 0 = 1 := ⟨fun z => q1 z.2, by rw [c1]; decide⟩
        rw [m1, if_pos (show (-1 : Int32) < 0 by decide), if_pos hns]
    · have m1 : mk_on I s = 9 := by
        unfold mk_on
        rw [c2]
        rfl
      have hsf : ¬ sf_holds I s := fun z => by have := z.1; rw [c1] at this; exact absurd this (by decide)
      have hns : ¬ (¬ sf_holds I s ∧ ¬ I (98 + s) 0 = 1) := fun z => z.2 c1
      rw [m1, if_neg (show ¬ (9 : Int32) < 0 by decide), if_pos (rfl : (9 : Int32) = 9), if_neg hns, c3, c4]
      by_cases q2 : 0 ≤ w ∧ w ≤ 5
      · have y1 : ¬ (sf_holds I s ∧ kd_anc 6 (I (5 + 2 * (I (98 + s) 1).toNatClampNeg) 0) w = true) := fun z => hsf z.1
        have y2 : ¬ w = 10 + I (98 + s) 2 := fun z => by
          obtain ⟨j, hj, ej⟩ := pm_ix (x := I (98 + s) 2) (N := 4) c5 c6 (by decide)
          rw [ej, show (10 : Int32) + nI j = nI (10 + j) from nI_add 10 j] at z
          rw [z] at q2
          have := (nI_leI (a := 10 + j) (b := 5) (by omega) (by decide)).mp q2.2
          omega
        rw [if_neg y2, if_pos q2, if_neg y1]
      · rw [if_neg q2]
        by_cases q3 : w = 10 + I (98 + s) 2
        · have y1 : I (98 + s) 0 = 1 ∧ I (98 + s) 2 = w - 10 := ⟨c1, by rw [q3]; grind⟩
          rw [if_pos q3, if_pos y1]
        · have y1 : ¬ (I (98 + s) 0 = 1 ∧ I (98 + s) 2 = w - 10) := fun z => q3 (by rw [z.2]; grind)
          rw [if_neg q3, if_neg y1]
  · have qc : ¬ ((0 ≤ x ∧ x ≤ 3) ∧ ((0 ≤ w ∧ w ≤ 5) ∨ (0 ≤ w - 10 ∧ w - 10 ≤ 3))) := fun z => q ⟨z.1, z.2.imp id ew.mp⟩
    rw [if_neg q, if_neg qc]
