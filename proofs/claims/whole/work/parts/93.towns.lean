/-! What a town, a trial and the model leave -/
theorem pm_Geq9 {Γ : pm_T} {c c2 s s2 pc : Nat} {L L2 : List (Nat × Value)} {st : List Value} {sh sh2 : List pm_S} {I : pm_I} {J : pm_J} (h : pm_G Γ c s pc L st sh I J) (ec : c2 = c) (es : s2 = s) (eL : L2 = L) (eh : sh2 = sh) : pm_G Γ c2 s2 pc L2 st sh2 I J := by
  subst ec; subst es; subst eL; subst eh; exact h
theorem ln5_15 : pm_ln RX5 15 1 [.inr none] := ⟨_, _, _, tyX1, rfl, lkX5_15, ltX1, liX1, inP1, tyX1_ok, rfl, by decide +kernel⟩
theorem ln6_9 : pm_ln RX6 9 1 [.inr none] := ⟨_, _, _, tyX1, rfl, lkX6_9, ltX1, liX1, inP1, tyX1_ok, rfl, by decide +kernel⟩
def rs6 (k : Nat) : Nat → List (Option Nat)
  | 0 => List.replicate 6 none
  | i + 1 => (rs6 k i).set i (some (k + 2 + 2 * i))
theorem rs6_len {k : Nat} : ∀ i, (rs6 k i).length = 6
  | 0 => rfl
  | i + 1 => by rw [rs6, List.length_set, rs6_len i]
def tf (g : Nat → pm_S) (k : Nat) : Nat → Nat → pm_S
  | 0 => g
  | i + 1 => uf (uf (uf (uf (tf g k i) (k + 2 + 2 * i) (.inr (.inr (1, [.inr none])))) (k + 2 + 2 * i + 1) (.inl (0, 9))) (k + 2 + 2 * i) (.inr (.inr (1, [.inr (some (k + 2 + 2 * i + 1))])))) (k + 1) (.inr (.inl (3, rs6 k (i + 1))))
theorem tf_a {g : Nat → pm_S} {k a : Nat} (ha : a < k) : ∀ i, tf g k i a = g a
  | 0 => rfl
  | i + 1 => by rw [tf, uf_off (by omega), uf_off (by omega), uf_off (by omega), uf_off (by omega), tf_a ha i]
theorem tf_r {g : Nat → pm_S} {k : Nat} (h : g (k + 1) = .inr (.inl (3, List.replicate 6 none))) : ∀ i, tf g k i (k + 1) = .inr (.inl (3, rs6 k i))
  | 0 => h
  | i + 1 => uf_at
set_option maxHeartbeats 4000000 in
set_option maxRecDepth 100000 in
theorem c_X5_init {d : Nat} {I : pm_I} {J : pm_J} {f : Nat → pm_S} {a k0 : Nat} (ha : a < k0) (hf : f a = .inr (.inr (5, [.inr none, .inr none, .inl 0, .inl 0, .inl 0, .inl 0]))) (hz : pm_Z k0 I) (h9 : k0 + 100 < 1000) : pm_M (d + 2) 14 90 yX5_init cX5_init 2 (none : Option Jvm.ClassFile.FieldType) [.ref a] (pf k0 f) I J (pm_D none (pf (k0 + 2 + 2 * 6) (tf (uf (uf (uf (uf f k0 (.inl (0, 24))) a (.inr (.inr (5, [.inr (some k0), .inr none, .inl 0, .inl 0, .inl 0, .inl 0])))) (k0 + 1) (.inr (.inl (3, List.replicate 6 none)))) a (.inr (.inr (5, [.inr (some k0), .inr (some (k0 + 1)), .inl 0, .inl 0, .inl 0, .inl 0])))) k0 6)) (pm_u (pm_u (pm_u (pm_u I a 2 0) a 3 0) a 4 3) a 5 1) J) := by
  refine pm_start (own := RX5) (nm := "<init>") (by decide) rfl rfl (L := [(0, .ref a)]) rfl (Nat.le_of_ble_eq_true rfl) (fun Γ C C2 => ?_)
  have hz5 : pm_Z k0 (pm_u (pm_u (pm_u (pm_u I a 2 0) a 3 0) a 4 3) a 5 1) := by repeat (first | assumption | refine pm_Z_u ?_ (by omega))
  have hloop : ∀ j, j ≤ 6 → pm_G Γ (2 + 2 * j) (30 + 10 * j) 43 [(0, .ref a), (1, .int (nI j))] [] (pf (k0 + 2 + 2 * j) (tf (uf (uf (uf (uf f k0 (.inl (0, 24))) a (.inr (.inr (5, [.inr (some k0), .inr none, .inl 0, .inl 0, .inl 0, .inl 0])))) (k0 + 1) (.inr (.inl (3, List.replicate 6 none)))) a (.inr (.inr (5, [.inr (some k0), .inr (some (k0 + 1)), .inl 0, .inl 0, .inl 0, .inl 0])))) k0 j)) (pm_u (pm_u (pm_u (pm_u I a 2 0) a 3 0) a 4 3) a 5 1) J := by
    refine pm_up (fun j => pm_G Γ (2 + 2 * j) (30 + 10 * j) 43 [(0, .ref a), (1, .int (nI j))] [] (pf (k0 + 2 + 2 * j) (tf (uf (uf (uf (uf f k0 (.inl (0, 24))) a (.inr (.inr (5, [.inr (some k0), .inr none, .inl 0, .inl 0, .inl 0, .inl 0])))) (k0 + 1) (.inr (.inl (3, List.replicate 6 none)))) a (.inr (.inr (5, [.inr (some k0), .inr (some (k0 + 1)), .inl 0, .inl 0, .inl 0, .inl 0])))) k0 j)) (pm_u (pm_u (pm_u (pm_u I a 2 0) a 3 0) a 4 3) a 5 1) J) 6 (fun j hj ih => ?_)
    refine g_iload_n (pc := 43) (i := 1) (j := 1) C dX5_init_43 rfl rfl ?_
    refine g_bipush (pc := 44) (v := 6) C dX5_init_44 (by decide) ?_
    refine g_icmp_ge (pc := 46) (tgt := 68) C dX5_init_46 (by decide) (fun h46 => ?_) (fun h46 => ?_)
    · have ej : j = 6 := by have := (nI_leI (a := 6) (b := j) (by omega) (by omega)).mp h46; omega
      subst ej
      refine g_vret (pc := 68) C C2 dX5_init_68 (by omega) (by omega) ?_
      exact ⟨rfl, rfl, rfl, rfl⟩
    · have hlt : j < 6 := Nat.lt_of_not_le (fun q => h46 ((nI_leI (a := 6) (b := j) (by omega) (by omega)).mpr q))
      refine g_aload_n (pc := 49) (i := 0) (j := 0) C dX5_init_49 rfl rfl ?_
      refine g_getR (pc := 50) C dX5_init_50 lfX5_17 (pf_get (by omega) ((tf_a (by omega) j).trans uf_at)) rfl ?_
      refine g_iload_n (pc := 53) (i := 1) (j := 1) C dX5_init_53 rfl rfl ?_
      refine g_new (pc := 54) C dX5_init_54 ln5_15 (fun x hx => by rcases List.mem_cons.mp hx with rfl | hx; exact Or.inr rfl; cases hx) (pm_Z_up hz5 (by omega)) (Or.inl (fun x hx => by rcases List.mem_cons.mp hx with rfl | hx; exact Or.inr rfl; cases hx)) (pm_rcC C2 (by omega) (by show 30 + 10 * j + 1 ≤ 90; omega)) (by omega) ?_
      refine g_dup (pc := 57) C dX5_init_57 rfl ?_
      refine g_callI (pc := 58) C dX5_init_58 lmX5_34 kcX1_init (by decide) (c_X1_init (by omega) uf_at (pm_Z_up hz5 (by omega)) (by omega)) rfl rfl (Nat.le_of_ble_eq_true rfl) (pm_rcC C2 (by omega) (by show 30 + 10 * j + 1 + 9 ≤ 90; omega)) ?_
      intro r9 sh9 I9 J9 hD9; obtain ⟨rfl, rfl, rfl, rfl⟩ := pm_Dq hD9; clear hD9
      try simp only [Option.toList_some, Option.toList_none, List.cons_append, List.nil_append]
      refine g_aast (pc := 61) (t := 3) (j := j) (rs := rs6 k0 j) C dX5_init_61 (pf_get (by omega) (by rw [uf_off (by omega), uf_off (by omega), uf_off (by omega)]; exact tf_r (by rw [uf_off (by omega), uf_at]) j)) (pf_get (by omega) uf_at) rfl (fun _ => rfl) (by rw [rs6_len]; omega) rfl (by rw [rs6_len]; omega) ?_
      rw [pf_set]
      refine g_iinc (pc := 62) (j := 1) (v := _ + 1) (L2 := [(0, _), (1, _)]) C dX5_init_62 rfl rfl (by decide) rfl ?_
      refine g_goto (pc := 65) (tgt := 43) C dX5_init_65 (by decide) ?_
      refine pm_Geq9 (ih hlt) (by omega) (by show 30 + 10 * j + 1 + 9 = _; omega) (by simp only [nI_1]) ?_
      rw [show k0 + 2 + 2 * (j + 1) = k0 + 2 + 2 * j + 1 + 1 by omega]
      rfl
  refine g_aload_n (pc := 0) (i := 0) (j := 0) C dX5_init_0 rfl rfl ?_
  refine g_objInit (pc := 1) C dX5_init_1 loX5_3 liO kcO (Nat.le_of_ble_eq_true rfl) ?_
  refine g_aload_n (pc := 4) (i := 0) (j := 0) C dX5_init_4 rfl rfl ?_
  refine g_bipush (pc := 5) (v := 24) C dX5_init_5 (by decide) ?_
  refine g_newi (pc := 7) (N := 24) C dX5_init_7 (by decide) (by decide) (by repeat (first | assumption | exact pm_Z_up hz (by omega) | refine pm_Z_u ?_ (by omega))) (pm_rcC C2 (by omega) (by omega)) (by omega) ?_
  refine g_putR (pc := 9) (nm := "<init>") C C2 dX5_init_9 lpX5_9 (fun _ => rfl) (fun _ => rfl) (pf_get (by omega) (by (repeat (first | rw [uf_at] | rw [uf_off (by omega)])) <;> first | rfl | assumption)) rfl ?_
  rw [pf_set]
  refine g_aload_n (pc := 12) (i := 0) (j := 0) C dX5_init_12 rfl rfl ?_
  refine g_bipush (pc := 13) (v := 6) C dX5_init_13 (by decide) ?_
  refine g_anew (pc := 15) (N := 6) (t := 3) C dX5_init_15 lkX5_15 (fun _ => rfl) (fun u s H h => h.2.2.2.2.2.2.2.2.1) (by decide) (by decide) (pm_rcC C2 (by omega) (by omega)) (by omega) ?_
  refine g_putR (pc := 18) (nm := "<init>") C C2 dX5_init_18 lpX5_17 (fun _ => rfl) (fun _ => rfl) (pf_get (by omega) (by (repeat (first | rw [uf_at] | rw [uf_off (by omega)])) <;> first | rfl | assumption)) rfl ?_
  rw [pf_set]
  refine g_aload_n (pc := 21) (i := 0) (j := 0) C dX5_init_21 rfl rfl ?_
  refine g_iconst (pc := 22) (v := 0) C dX5_init_22 (by decide) ?_
  refine g_putI (pc := 23) C dX5_init_23 lpX5_21 (by first | rfl | decide) (by first | rfl | decide) (pf_get (by omega) (by (repeat (first | rw [uf_at] | rw [uf_off (by omega)])) <;> first | rfl | assumption)) rfl ?_
  refine g_aload_n (pc := 26) (i := 0) (j := 0) C dX5_init_26 rfl rfl ?_
  refine g_iconst (pc := 27) (v := 0) C dX5_init_27 (by decide) ?_
  refine g_putI (pc := 28) C dX5_init_28 lpX5_25 (by first | rfl | decide) (by first | rfl | decide) (pf_get (by omega) (by (repeat (first | rw [uf_at] | rw [uf_off (by omega)])) <;> first | rfl | assumption)) rfl ?_
  refine g_aload_n (pc := 31) (i := 0) (j := 0) C dX5_init_31 rfl rfl ?_
  refine g_iconst (pc := 32) (v := 3) C dX5_init_32 (by decide) ?_
  refine g_putI (pc := 33) C dX5_init_33 lpX5_28 (by first | rfl | decide) (by first | rfl | decide) (pf_get (by omega) (by (repeat (first | rw [uf_at] | rw [uf_off (by omega)])) <;> first | rfl | assumption)) rfl ?_
  refine g_aload_n (pc := 36) (i := 0) (j := 0) C dX5_init_36 rfl rfl ?_
  refine g_iconst (pc := 37) (v := 1) C dX5_init_37 (by decide) ?_
  refine g_putI (pc := 38) C dX5_init_38 lpX5_31 (by first | rfl | decide) (by first | rfl | decide) (pf_get (by omega) (by (repeat (first | rw [uf_at] | rw [uf_off (by omega)])) <;> first | rfl | assumption)) rfl ?_
  refine g_iconst (pc := 41) (v := 0) C dX5_init_41 (by decide) ?_
  refine g_istore_n (pc := 42) (i := 1) (L2 := [(0, _), (1, _)]) C dX5_init_42 rfl (by decide) rfl ?_
  refine pm_Geq9 (hloop 0 (Nat.zero_le _)) (by omega) (by omega) rfl rfl
