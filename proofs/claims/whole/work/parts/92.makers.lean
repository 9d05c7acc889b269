/-! What each small maker leaves -/
set_option maxHeartbeats 4000000 in
set_option maxRecDepth 100000 in
theorem c_X1_init {d : Nat} {I : pm_I} {J : pm_J} {f : Nat → pm_S} {a k0 : Nat} (ha : a < k0) (hf : f a = .inr (.inr (1, [.inr none]))) (hz : pm_Z k0 I) (h9 : k0 + 30 < 1000) : pm_M (d + 1) 1 9 yX1_init cX1_init 1 (none : Option Jvm.ClassFile.FieldType) [.ref a] (pf k0 f) I J (pm_D none (pf (k0 + 1) (uf (uf f k0 (.inl (0, 9))) a (.inr (.inr (1, [.inr (some k0)]))))) I J) := by
  refine pm_start (own := RX1) (nm := "<init>") (by decide) rfl rfl (L := [(0, .ref a)]) rfl (Nat.le_of_ble_eq_true rfl) (fun Γ C C2 => ?_)
  refine g_aload_n (pc := 0) (i := 0) (j := 0) C dX1_init_0 rfl rfl ?_
  refine g_objInit (pc := 1) C dX1_init_1 loX1_3 liO kcO (Nat.le_of_ble_eq_true rfl) ?_
  refine g_aload_n (pc := 4) (i := 0) (j := 0) C dX1_init_4 rfl rfl ?_
  refine g_bipush (pc := 5) (v := 9) C dX1_init_5 (by decide) ?_
  refine g_newi (pc := 7) (N := 9) C dX1_init_7 (by decide) (by decide) (by repeat (first | assumption | exact pm_Z_up hz (by omega) | refine pm_Z_u ?_ (by omega))) (pm_rcC C2 (by omega) (by omega)) (by omega) ?_
  refine g_putR (pc := 9) (nm := "<init>") C C2 dX1_init_9 lpX1_9 (fun _ => rfl) (fun _ => rfl) (pf_get (by omega) (by (repeat (first | rw [uf_at] | rw [uf_off (by omega)])) <;> first | rfl | assumption)) rfl ?_
  rw [pf_set]
  refine g_vret (pc := 12) C C2 dX1_init_12 (by omega) (by omega) ?_
  exact ⟨rfl, rfl, rfl, rfl⟩

set_option maxHeartbeats 4000000 in
set_option maxRecDepth 100000 in
theorem c_X4_init {d : Nat} {I : pm_I} {J : pm_J} {f : Nat → pm_S} {a k0 : Nat} (ha : a < k0) (hf : f a = .inr (.inr (4, [.inr none, .inl 0, .inl 0, .inl 0, .inl 0, .inl 0]))) (hz : pm_Z k0 I) (h9 : k0 + 30 < 1000) : pm_M (d + 1) 1 240 yX4_init cX4_init 1 (none : Option Jvm.ClassFile.FieldType) [.ref a] (pf k0 f) I J (pm_D none (pf (k0 + 1) (uf (uf f k0 (.inl (1, 240))) a (.inr (.inr (4, [.inr (some k0), .inl 0, .inl 0, .inl 0, .inl 0, .inl 0]))))) (pm_u (pm_u (pm_u (pm_u (pm_u I a 1 (0)) a 2 (0)) a 3 (0)) a 4 (0)) a 5 (-3)) J) := by
  refine pm_start (own := RX4) (nm := "<init>") (by decide) rfl rfl (L := [(0, .ref a)]) rfl (Nat.le_of_ble_eq_true rfl) (fun Γ C C2 => ?_)
  refine g_aload_n (pc := 0) (i := 0) (j := 0) C dX4_init_0 rfl rfl ?_
  refine g_objInit (pc := 1) C dX4_init_1 loX4_3 liO kcO (Nat.le_of_ble_eq_true rfl) ?_
  refine g_aload_n (pc := 4) (i := 0) (j := 0) C dX4_init_4 rfl rfl ?_
  refine g_sipush (pc := 5) (v := 240) C dX4_init_5 (by decide) ?_
  refine g_newb (pc := 8) (N := 240) C dX4_init_8 (by decide) (by decide) (by repeat (first | assumption | exact pm_Z_up hz (by omega) | refine pm_Z_u ?_ (by omega))) (pm_rcC C2 (by omega) (by omega)) (by omega) ?_
  refine g_putR (pc := 10) (nm := "<init>") C C2 dX4_init_10 lpX4_9 (fun _ => rfl) (fun _ => rfl) (pf_get (by omega) (by (repeat (first | rw [uf_at] | rw [uf_off (by omega)])) <;> first | rfl | assumption)) rfl ?_
  rw [pf_set]
  refine g_aload_n (pc := 13) (i := 0) (j := 0) C dX4_init_13 rfl rfl ?_
  refine g_iconst (pc := 14) (v := 0) C dX4_init_14 (by decide) ?_
  refine g_putI (pc := 15) C dX4_init_15 lpX4_15 (by first | rfl | decide) (by first | rfl | decide) (pf_get (by omega) (by (repeat (first | rw [uf_at] | rw [uf_off (by omega)])) <;> first | rfl | assumption)) rfl ?_
  refine g_aload_n (pc := 18) (i := 0) (j := 0) C dX4_init_18 rfl rfl ?_
  refine g_iconst (pc := 19) (v := 0) C dX4_init_19 (by decide) ?_
  refine g_putI (pc := 20) C dX4_init_20 lpX4_19 (by first | rfl | decide) (by first | rfl | decide) (pf_get (by omega) (by (repeat (first | rw [uf_at] | rw [uf_off (by omega)])) <;> first | rfl | assumption)) rfl ?_
  refine g_aload_n (pc := 23) (i := 0) (j := 0) C dX4_init_23 rfl rfl ?_
  refine g_iconst (pc := 24) (v := 0) C dX4_init_24 (by decide) ?_
  refine g_putI (pc := 25) C dX4_init_25 lpX4_22 (by first | rfl | decide) (by first | rfl | decide) (pf_get (by omega) (by (repeat (first | rw [uf_at] | rw [uf_off (by omega)])) <;> first | rfl | assumption)) rfl ?_
  refine g_aload_n (pc := 28) (i := 0) (j := 0) C dX4_init_28 rfl rfl ?_
  refine g_iconst (pc := 29) (v := 0) C dX4_init_29 (by decide) ?_
  refine g_putI (pc := 30) C dX4_init_30 lpX4_25 (by first | rfl | decide) (by first | rfl | decide) (pf_get (by omega) (by (repeat (first | rw [uf_at] | rw [uf_off (by omega)])) <;> first | rfl | assumption)) rfl ?_
  refine g_aload_n (pc := 33) (i := 0) (j := 0) C dX4_init_33 rfl rfl ?_
  refine g_bipush (pc := 34) (v := (-3)) C dX4_init_34 (by decide) ?_
  refine g_putI (pc := 36) C dX4_init_36 lpX4_28 (by first | rfl | decide) (by first | rfl | decide) (pf_get (by omega) (by (repeat (first | rw [uf_at] | rw [uf_off (by omega)])) <;> first | rfl | assumption)) rfl ?_
  refine g_vret (pc := 39) C C2 dX4_init_39 (by omega) (by omega) ?_
  exact ⟨rfl, rfl, rfl, rfl⟩

set_option maxHeartbeats 4000000 in
set_option maxRecDepth 100000 in
theorem c_X2_init {d : Nat} {I : pm_I} {J : pm_J} {f : Nat → pm_S} {a k0 : Nat} (ha : a < k0) (hf : f a = .inr (.inr (2, [.inr none, .inl 0, .inl 0]))) (hz : pm_Z k0 I) (h9 : k0 + 30 < 1000) : pm_M (d + 1) 1 40 yX2_init cX2_init 1 (none : Option Jvm.ClassFile.FieldType) [.ref a] (pf k0 f) I J (pm_D none (pf (k0 + 1) (uf (uf f k0 (.inl (0, 40))) a (.inr (.inr (2, [.inr (some k0), .inl 0, .inl 0]))))) (pm_u (pm_u I a 1 (-1)) a 2 (0)) J) := by
  refine pm_start (own := RX2) (nm := "<init>") (by decide) rfl rfl (L := [(0, .ref a)]) rfl (Nat.le_of_ble_eq_true rfl) (fun Γ C C2 => ?_)
  refine g_aload_n (pc := 0) (i := 0) (j := 0) C dX2_init_0 rfl rfl ?_
  refine g_objInit (pc := 1) C dX2_init_1 loX2_3 liO kcO (Nat.le_of_ble_eq_true rfl) ?_
  refine g_aload_n (pc := 4) (i := 0) (j := 0) C dX2_init_4 rfl rfl ?_
  refine g_bipush (pc := 5) (v := 40) C dX2_init_5 (by decide) ?_
  refine g_newi (pc := 7) (N := 40) C dX2_init_7 (by decide) (by decide) (by repeat (first | assumption | exact pm_Z_up hz (by omega) | refine pm_Z_u ?_ (by omega))) (pm_rcC C2 (by omega) (by omega)) (by omega) ?_
  refine g_putR (pc := 9) (nm := "<init>") C C2 dX2_init_9 lpX2_9 (fun _ => rfl) (fun _ => rfl) (pf_get (by omega) (by (repeat (first | rw [uf_at] | rw [uf_off (by omega)])) <;> first | rfl | assumption)) rfl ?_
  rw [pf_set]
  refine g_aload_n (pc := 12) (i := 0) (j := 0) C dX2_init_12 rfl rfl ?_
  refine g_iconst (pc := 13) (v := (-1)) C dX2_init_13 (by decide) ?_
  refine g_putI (pc := 14) C dX2_init_14 lpX2_15 (by first | rfl | decide) (by first | rfl | decide) (pf_get (by omega) (by (repeat (first | rw [uf_at] | rw [uf_off (by omega)])) <;> first | rfl | assumption)) rfl ?_
  refine g_aload_n (pc := 17) (i := 0) (j := 0) C dX2_init_17 rfl rfl ?_
  refine g_iconst (pc := 18) (v := 0) C dX2_init_18 (by decide) ?_
  refine g_putI (pc := 19) C dX2_init_19 lpX2_19 (by first | rfl | decide) (by first | rfl | decide) (pf_get (by omega) (by (repeat (first | rw [uf_at] | rw [uf_off (by omega)])) <;> first | rfl | assumption)) rfl ?_
  refine g_vret (pc := 22) C C2 dX2_init_22 (by omega) (by omega) ?_
  exact ⟨rfl, rfl, rfl, rfl⟩

set_option maxHeartbeats 4000000 in
set_option maxRecDepth 100000 in
theorem c_X3_init {d : Nat} {I : pm_I} {J : pm_J} {f : Nat → pm_S} {a k0 : Nat} (ha : a < k0) (hf : f a = .inr (.inr (3, [.inl 0, .inl 0, .inl 0, .inl 0]))) (hz : pm_Z k0 I) (h9 : k0 + 30 < 1000) : pm_M (d + 1) 0 0 yX3_init cX3_init 1 (none : Option Jvm.ClassFile.FieldType) [.ref a] (pf k0 f) I J (pm_D none (pf k0 f) (pm_u (pm_u (pm_u (pm_u I a 0 (2)) a 1 (0)) a 2 (-1)) a 3 (0)) J) := by
  refine pm_start (own := RX3) (nm := "<init>") (by decide) rfl rfl (L := [(0, .ref a)]) rfl (Nat.le_of_ble_eq_true rfl) (fun Γ C C2 => ?_)
  refine g_aload_n (pc := 0) (i := 0) (j := 0) C dX3_init_0 rfl rfl ?_
  refine g_objInit (pc := 1) C dX3_init_1 loX3_3 liO kcO (Nat.le_of_ble_eq_true rfl) ?_
  refine g_aload_n (pc := 4) (i := 0) (j := 0) C dX3_init_4 rfl rfl ?_
  refine g_iconst (pc := 5) (v := 2) C dX3_init_5 (by decide) ?_
  refine g_putI (pc := 6) C dX3_init_6 lpX3_9 (by first | rfl | decide) (by first | rfl | decide) (pf_get (by omega) (by (repeat (first | rw [uf_at] | rw [uf_off (by omega)])) <;> first | rfl | assumption)) rfl ?_
  refine g_aload_n (pc := 9) (i := 0) (j := 0) C dX3_init_9 rfl rfl ?_
  refine g_iconst (pc := 10) (v := 0) C dX3_init_10 (by decide) ?_
  refine g_putI (pc := 11) C dX3_init_11 lpX3_15 (by first | rfl | decide) (by first | rfl | decide) (pf_get (by omega) (by (repeat (first | rw [uf_at] | rw [uf_off (by omega)])) <;> first | rfl | assumption)) rfl ?_
  refine g_aload_n (pc := 14) (i := 0) (j := 0) C dX3_init_14 rfl rfl ?_
  refine g_iconst (pc := 15) (v := (-1)) C dX3_init_15 (by decide) ?_
  refine g_putI (pc := 16) C dX3_init_16 lpX3_18 (by first | rfl | decide) (by first | rfl | decide) (pf_get (by omega) (by (repeat (first | rw [uf_at] | rw [uf_off (by omega)])) <;> first | rfl | assumption)) rfl ?_
  refine g_aload_n (pc := 19) (i := 0) (j := 0) C dX3_init_19 rfl rfl ?_
  refine g_iconst (pc := 20) (v := 0) C dX3_init_20 (by decide) ?_
  refine g_putI (pc := 21) C dX3_init_21 lpX3_21 (by first | rfl | decide) (by first | rfl | decide) (pf_get (by omega) (by (repeat (first | rw [uf_at] | rw [uf_off (by omega)])) <;> first | rfl | assumption)) rfl ?_
  refine g_vret (pc := 24) C C2 dX3_init_24 (by omega) (by omega) ?_
  exact ⟨rfl, rfl, rfl, rfl⟩

set_option maxHeartbeats 4000000 in
set_option maxRecDepth 100000 in
theorem c_X0_init {d : Nat} {I : pm_I} {J : pm_J} {f : Nat → pm_S} {a k0 : Nat} (ha : a < k0) (hf : f a = .inr (.inr (0, [.inr none, .inl 0, .inl 0, .inl 0, .inl 0, .inl 0]))) (hz : pm_Z k0 I) (h9 : k0 + 30 < 1000) : pm_M (d + 1) 1 30 yX0_init cX0_init 1 (none : Option Jvm.ClassFile.FieldType) [.ref a] (pf k0 f) I J (pm_D none (pf (k0 + 1) (uf (uf f k0 (.inl (0, 30))) a (.inr (.inr (0, [.inr (some k0), .inl 0, .inl 0, .inl 0, .inl 0, .inl 0]))))) (pm_u (pm_u (pm_u (pm_u (pm_u I a 1 (0)) a 2 (0)) a 3 (0)) a 4 (0)) a 5 (0)) J) := by
  refine pm_start (own := RX0) (nm := "<init>") (by decide) rfl rfl (L := [(0, .ref a)]) rfl (Nat.le_of_ble_eq_true rfl) (fun Γ C C2 => ?_)
  refine g_aload_n (pc := 0) (i := 0) (j := 0) C dX0_init_0 rfl rfl ?_
  refine g_objInit (pc := 1) C dX0_init_1 loX0_3 liO kcO (Nat.le_of_ble_eq_true rfl) ?_
  refine g_aload_n (pc := 4) (i := 0) (j := 0) C dX0_init_4 rfl rfl ?_
  refine g_bipush (pc := 5) (v := 30) C dX0_init_5 (by decide) ?_
  refine g_newi (pc := 7) (N := 30) C dX0_init_7 (by decide) (by decide) (by repeat (first | assumption | exact pm_Z_up hz (by omega) | refine pm_Z_u ?_ (by omega))) (pm_rcC C2 (by omega) (by omega)) (by omega) ?_
  refine g_putR (pc := 9) (nm := "<init>") C C2 dX0_init_9 lpX0_9 (fun _ => rfl) (fun _ => rfl) (pf_get (by omega) (by (repeat (first | rw [uf_at] | rw [uf_off (by omega)])) <;> first | rfl | assumption)) rfl ?_
  rw [pf_set]
  refine g_aload_n (pc := 12) (i := 0) (j := 0) C dX0_init_12 rfl rfl ?_
  refine g_iconst (pc := 13) (v := 0) C dX0_init_13 (by decide) ?_
  refine g_putI (pc := 14) C dX0_init_14 lpX0_15 (by first | rfl | decide) (by first | rfl | decide) (pf_get (by omega) (by (repeat (first | rw [uf_at] | rw [uf_off (by omega)])) <;> first | rfl | assumption)) rfl ?_
  refine g_aload_n (pc := 17) (i := 0) (j := 0) C dX0_init_17 rfl rfl ?_
  refine g_iconst (pc := 18) (v := 0) C dX0_init_18 (by decide) ?_
  refine g_putI (pc := 19) C dX0_init_19 lpX0_19 (by first | rfl | decide) (by first | rfl | decide) (pf_get (by omega) (by (repeat (first | rw [uf_at] | rw [uf_off (by omega)])) <;> first | rfl | assumption)) rfl ?_
  refine g_aload_n (pc := 22) (i := 0) (j := 0) C dX0_init_22 rfl rfl ?_
  refine g_iconst (pc := 23) (v := 0) C dX0_init_23 (by decide) ?_
  refine g_putI (pc := 24) C dX0_init_24 lpX0_23 (by first | rfl | decide) (by first | rfl | decide) (pf_get (by omega) (by (repeat (first | rw [uf_at] | rw [uf_off (by omega)])) <;> first | rfl | assumption)) rfl ?_
  refine g_aload_n (pc := 27) (i := 0) (j := 0) C dX0_init_27 rfl rfl ?_
  refine g_iconst (pc := 28) (v := 0) C dX0_init_28 (by decide) ?_
  refine g_putI (pc := 29) C dX0_init_29 lpX0_26 (by first | rfl | decide) (by first | rfl | decide) (pf_get (by omega) (by (repeat (first | rw [uf_at] | rw [uf_off (by omega)])) <;> first | rfl | assumption)) rfl ?_
  refine g_aload_n (pc := 32) (i := 0) (j := 0) C dX0_init_32 rfl rfl ?_
  refine g_iconst (pc := 33) (v := 0) C dX0_init_33 (by decide) ?_
  refine g_putI (pc := 34) C dX0_init_34 lpX0_29 (by first | rfl | decide) (by first | rfl | decide) (pf_get (by omega) (by (repeat (first | rw [uf_at] | rw [uf_off (by omega)])) <;> first | rfl | assumption)) rfl ?_
  refine g_vret (pc := 37) C C2 dX0_init_37 (by omega) (by omega) ?_
  exact ⟨rfl, rfl, rfl, rfl⟩
