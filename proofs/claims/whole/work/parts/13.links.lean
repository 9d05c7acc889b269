theorem inP0 : ∀ w ∈ u_ws RX0 TX0 6, w ∈ pm_tbl := fun w h => List.mem_filter.mpr ⟨inX0 w h, List.all_eq_true.mp (show (u_ws RX0 TX0 6).all goodWord = true by decide +kernel) w h⟩
theorem inP1 : ∀ w ∈ u_ws RX1 TX1 1, w ∈ pm_tbl := fun w h => List.mem_filter.mpr ⟨inX1 w h, List.all_eq_true.mp (show (u_ws RX1 TX1 1).all goodWord = true by decide +kernel) w h⟩
theorem inP2 : ∀ w ∈ u_ws RX2 TX2 3, w ∈ pm_tbl := fun w h => List.mem_filter.mpr ⟨inX2 w h, List.all_eq_true.mp (show (u_ws RX2 TX2 3).all goodWord = true by decide +kernel) w h⟩
theorem inP3 : ∀ w ∈ u_ws RX3 TX3 4, w ∈ pm_tbl := fun w h => List.mem_filter.mpr ⟨inX3 w h, List.all_eq_true.mp (show (u_ws RX3 TX3 4).all goodWord = true by decide +kernel) w h⟩
theorem inP4 : ∀ w ∈ u_ws RX4 TX4 6, w ∈ pm_tbl := fun w h => List.mem_filter.mpr ⟨inX4 w h, List.all_eq_true.mp (show (u_ws RX4 TX4 6).all goodWord = true by decide +kernel) w h⟩
theorem inP5 : ∀ w ∈ u_ws RX5 TX5 6, w ∈ pm_tbl := fun w h => List.mem_filter.mpr ⟨inX5 w h, List.all_eq_true.mp (show (u_ws RX5 TX5 6).all goodWord = true by decide +kernel) w h⟩
theorem inP6 : ∀ w ∈ u_ws RX6 TX6 6, w ∈ pm_tbl := fun w h => List.mem_filter.mpr ⟨inX6 w h, List.all_eq_true.mp (show (u_ws RX6 TX6 6).all goodWord = true by decide +kernel) w h⟩
theorem inP7 : ∀ w ∈ u_ws RX7 TX7 11, w ∈ pm_tbl := fun w h => List.mem_filter.mpr ⟨inX7 w h, List.all_eq_true.mp (show (u_ws RX7 TX7 11).all goodWord = true by decide +kernel) w h⟩
theorem inP8 : ∀ w ∈ u_ws RX8 TX8 43, w ∈ pm_tbl := fun w h => List.mem_filter.mpr ⟨inX8 w h, List.all_eq_true.mp (show (u_ws RX8 TX8 43).all goodWord = true by decide +kernel) w h⟩
theorem lfX1_9 : pm_fl RX1 9 1 0 := ⟨_, _, _, rfl, by decide, pm_in 118 (by decide +kernel) rfl, inP1⟩
theorem lpX1_9 : pm_fp RX1 9 1 0 true (.array .int) := ⟨_, _, _, tyX1, rfl, by decide, pm_in 118 (by decide +kernel) rfl, inP1, tyX1_ok, nmX1, rfl, by decide +kernel, (fun _ => rfl)⟩
theorem lfX6_55 : pm_fl RX6 55 1 0 := ⟨_, _, _, rfl, by decide, pm_in 119 (by decide +kernel) rfl, inP1⟩
theorem lfX0_32 : pm_fl RX0 32 1 0 := ⟨_, _, _, rfl, by decide, pm_in 120 (by decide +kernel) rfl, inP1⟩
theorem lfX4_98 : pm_fl RX4 98 1 0 := ⟨_, _, _, rfl, by decide, pm_in 121 (by decide +kernel) rfl, inP1⟩
theorem lfX5_61 : pm_fl RX5 61 1 0 := ⟨_, _, _, rfl, by decide, pm_in 122 (by decide +kernel) rfl, inP1⟩
theorem lfX7_138 : pm_fl RX7 138 1 0 := ⟨_, _, _, rfl, by decide, pm_in 123 (by decide +kernel) rfl, inP1⟩
theorem lfX5_9 : pm_fl RX5 9 5 0 := ⟨_, _, _, rfl, by decide, pm_in 128 (by decide +kernel) rfl, inP5⟩
theorem lpX5_9 : pm_fp RX5 9 5 0 true (.array .int) := ⟨_, _, _, tyX5, rfl, by decide, pm_in 128 (by decide +kernel) rfl, inP5, tyX5_ok, nmX5, rfl, by decide +kernel, (fun _ => rfl)⟩
theorem lfX6_75 : pm_fl RX6 75 5 0 := ⟨_, _, _, rfl, by decide, pm_in 129 (by decide +kernel) rfl, inP5⟩
theorem lfX7_100 : pm_fl RX7 100 5 0 := ⟨_, _, _, rfl, by decide, pm_in 130 (by decide +kernel) rfl, inP5⟩
theorem lfX4_117 : pm_fl RX4 117 5 0 := ⟨_, _, _, rfl, by decide, pm_in 131 (by decide +kernel) rfl, inP5⟩
theorem lfX5_17 : pm_fl RX5 17 5 1 := ⟨_, _, _, rfl, by decide, pm_in 132 (by decide +kernel) rfl, inP5⟩
theorem lpX5_17 : pm_fp RX5 17 5 1 true (.array (.object "BalloonTown$Balloon")) := ⟨_, _, _, tyX5, rfl, by decide, pm_in 132 (by decide +kernel) rfl, inP5, tyX5_ok, nmX5, rfl, by decide +kernel, (fun _ => rfl)⟩
theorem lfX6_51 : pm_fl RX6 51 5 1 := ⟨_, _, _, rfl, by decide, pm_in 133 (by decide +kernel) rfl, inP5⟩
theorem lfX4_94 : pm_fl RX4 94 5 1 := ⟨_, _, _, rfl, by decide, pm_in 134 (by decide +kernel) rfl, inP5⟩
theorem lfX7_118 : pm_fl RX7 118 5 1 := ⟨_, _, _, rfl, by decide, pm_in 135 (by decide +kernel) rfl, inP5⟩
theorem lfX5_21 : pm_fl RX5 21 5 2 := ⟨_, _, _, rfl, by decide, pm_in 136 (by decide +kernel) rfl, inP5⟩
theorem lpX5_21 : pm_fp RX5 21 5 2 false .int := ⟨_, _, _, tyX5, rfl, by decide, pm_in 136 (by decide +kernel) rfl, inP5, tyX5_ok, nmX5, rfl, by decide +kernel, (fun h => by cases h)⟩
theorem lfX6_48 : pm_fl RX6 48 5 2 := ⟨_, _, _, rfl, by decide, pm_in 137 (by decide +kernel) rfl, inP5⟩
theorem lfX7_93 : pm_fl RX7 93 5 2 := ⟨_, _, _, rfl, by decide, pm_in 138 (by decide +kernel) rfl, inP5⟩
theorem lfX4_74 : pm_fl RX4 74 5 2 := ⟨_, _, _, rfl, by decide, pm_in 139 (by decide +kernel) rfl, inP5⟩
theorem lfX5_25 : pm_fl RX5 25 5 3 := ⟨_, _, _, rfl, by decide, pm_in 140 (by decide +kernel) rfl, inP5⟩
theorem lpX5_25 : pm_fp RX5 25 5 3 false .int := ⟨_, _, _, tyX5, rfl, by decide, pm_in 140 (by decide +kernel) rfl, inP5, tyX5_ok, nmX5, rfl, by decide +kernel, (fun h => by cases h)⟩
theorem lfX6_37 : pm_fl RX6 37 5 3 := ⟨_, _, _, rfl, by decide, pm_in 141 (by decide +kernel) rfl, inP5⟩
theorem lfX7_157 : pm_fl RX7 157 5 3 := ⟨_, _, _, rfl, by decide, pm_in 142 (by decide +kernel) rfl, inP5⟩
theorem lpX7_157 : pm_fp RX7 157 5 3 false .int := ⟨_, _, _, tyX5, rfl, by decide, pm_in 142 (by decide +kernel) rfl, inP5, tyX5_ok, nmX5, rfl, by decide +kernel, (fun h => by cases h)⟩
theorem lfX5_28 : pm_fl RX5 28 5 4 := ⟨_, _, _, rfl, by decide, pm_in 143 (by decide +kernel) rfl, inP5⟩
theorem lpX5_28 : pm_fp RX5 28 5 4 false .int := ⟨_, _, _, tyX5, rfl, by decide, pm_in 143 (by decide +kernel) rfl, inP5, tyX5_ok, nmX5, rfl, by decide +kernel, (fun h => by cases h)⟩
theorem lfX4_65 : pm_fl RX4 65 5 4 := ⟨_, _, _, rfl, by decide, pm_in 144 (by decide +kernel) rfl, inP5⟩
theorem lpX4_65 : pm_fp RX4 65 5 4 false .int := ⟨_, _, _, tyX5, rfl, by decide, pm_in 144 (by decide +kernel) rfl, inP5, tyX5_ok, nmX5, rfl, by decide +kernel, (fun h => by cases h)⟩
theorem lfX7_104 : pm_fl RX7 104 5 4 := ⟨_, _, _, rfl, by decide, pm_in 145 (by decide +kernel) rfl, inP5⟩
theorem lpX7_104 : pm_fp RX7 104 5 4 false .int := ⟨_, _, _, tyX5, rfl, by decide, pm_in 145 (by decide +kernel) rfl, inP5, tyX5_ok, nmX5, rfl, by decide +kernel, (fun h => by cases h)⟩
theorem lfX5_31 : pm_fl RX5 31 5 5 := ⟨_, _, _, rfl, by decide, pm_in 146 (by decide +kernel) rfl, inP5⟩
theorem lpX5_31 : pm_fp RX5 31 5 5 false .int := ⟨_, _, _, tyX5, rfl, by decide, pm_in 146 (by decide +kernel) rfl, inP5, tyX5_ok, nmX5, rfl, by decide +kernel, (fun h => by cases h)⟩
theorem lfX7_87 : pm_fl RX7 87 5 5 := ⟨_, _, _, rfl, by decide, pm_in 147 (by decide +kernel) rfl, inP5⟩
theorem lpX7_87 : pm_fp RX7 87 5 5 false .int := ⟨_, _, _, tyX5, rfl, by decide, pm_in 147 (by decide +kernel) rfl, inP5, tyX5_ok, nmX5, rfl, by decide +kernel, (fun h => by cases h)⟩
theorem lfX4_9 : pm_fl RX4 9 4 0 := ⟨_, _, _, rfl, by decide, pm_in 167 (by decide +kernel) rfl, inP4⟩
theorem lpX4_9 : pm_fp RX4 9 4 0 true (.array .byte) := ⟨_, _, _, tyX4, rfl, by decide, pm_in 167 (by decide +kernel) rfl, inP4, tyX4_ok, nmX4, rfl, by decide +kernel, (fun _ => rfl)⟩
theorem lfX4_15 : pm_fl RX4 15 4 1 := ⟨_, _, _, rfl, by decide, pm_in 168 (by decide +kernel) rfl, inP4⟩
theorem lpX4_15 : pm_fp RX4 15 4 1 false .int := ⟨_, _, _, tyX4, rfl, by decide, pm_in 168 (by decide +kernel) rfl, inP4, tyX4_ok, nmX4, rfl, by decide +kernel, (fun h => by cases h)⟩
theorem lfX7_76 : pm_fl RX7 76 4 1 := ⟨_, _, _, rfl, by decide, pm_in 169 (by decide +kernel) rfl, inP4⟩
theorem lpX7_76 : pm_fp RX7 76 4 1 false .int := ⟨_, _, _, tyX4, rfl, by decide, pm_in 169 (by decide +kernel) rfl, inP4, tyX4_ok, nmX4, rfl, by decide +kernel, (fun h => by cases h)⟩
theorem lfX4_19 : pm_fl RX4 19 4 2 := ⟨_, _, _, rfl, by decide, pm_in 170 (by decide +kernel) rfl, inP4⟩
theorem lpX4_19 : pm_fp RX4 19 4 2 false .int := ⟨_, _, _, tyX4, rfl, by decide, pm_in 170 (by decide +kernel) rfl, inP4, tyX4_ok, nmX4, rfl, by decide +kernel, (fun h => by cases h)⟩
theorem lfX4_22 : pm_fl RX4 22 4 3 := ⟨_, _, _, rfl, by decide, pm_in 171 (by decide +kernel) rfl, inP4⟩
theorem lpX4_22 : pm_fp RX4 22 4 3 false .int := ⟨_, _, _, tyX4, rfl, by decide, pm_in 171 (by decide +kernel) rfl, inP4, tyX4_ok, nmX4, rfl, by decide +kernel, (fun h => by cases h)⟩
theorem lfX4_25 : pm_fl RX4 25 4 4 := ⟨_, _, _, rfl, by decide, pm_in 172 (by decide +kernel) rfl, inP4⟩
theorem lpX4_25 : pm_fp RX4 25 4 4 false .int := ⟨_, _, _, tyX4, rfl, by decide, pm_in 172 (by decide +kernel) rfl, inP4, tyX4_ok, nmX4, rfl, by decide +kernel, (fun h => by cases h)⟩
theorem lfX4_28 : pm_fl RX4 28 4 5 := ⟨_, _, _, rfl, by decide, pm_in 173 (by decide +kernel) rfl, inP4⟩
theorem lpX4_28 : pm_fp RX4 28 4 5 false .int := ⟨_, _, _, tyX4, rfl, by decide, pm_in 173 (by decide +kernel) rfl, inP4, tyX4_ok, nmX4, rfl, by decide +kernel, (fun h => by cases h)⟩
theorem lfX6_33 : pm_fl RX6 33 6 0 := ⟨_, _, _, rfl, by decide, pm_in 198 (by decide +kernel) rfl, inP6⟩
theorem lpX6_33 : pm_fp RX6 33 6 0 true (.object "BalloonTown$Town") := ⟨_, _, _, tyX6, rfl, by decide, pm_in 198 (by decide +kernel) rfl, inP6, tyX6_ok, nmX6, rfl, by decide +kernel, (fun _ => rfl)⟩
theorem lfX6_12 : pm_fl RX6 12 6 1 := ⟨_, _, _, rfl, by decide, pm_in 199 (by decide +kernel) rfl, inP6⟩
theorem lpX6_12 : pm_fp RX6 12 6 1 true (.object "BalloonTown$Balloon") := ⟨_, _, _, tyX6, rfl, by decide, pm_in 199 (by decide +kernel) rfl, inP6, tyX6_ok, nmX6, rfl, by decide +kernel, (fun _ => rfl)⟩
theorem lfX6_20 : pm_fl RX6 20 6 2 := ⟨_, _, _, rfl, by decide, pm_in 200 (by decide +kernel) rfl, inP6⟩
theorem lpX6_20 : pm_fp RX6 20 6 2 true (.array (.array .int)) := ⟨_, _, _, tyX6, rfl, by decide, pm_in 200 (by decide +kernel) rfl, inP6, tyX6_ok, nmX6, rfl, by decide +kernel, (fun _ => rfl)⟩
theorem lfX7_167 : pm_fl RX7 167 6 2 := ⟨_, _, _, rfl, by decide, pm_in 201 (by decide +kernel) rfl, inP6⟩
theorem lfX6_23 : pm_fl RX6 23 6 3 := ⟨_, _, _, rfl, by decide, pm_in 202 (by decide +kernel) rfl, inP6⟩
theorem lpX6_23 : pm_fp RX6 23 6 3 true (.array (.array .int)) := ⟨_, _, _, tyX6, rfl, by decide, pm_in 202 (by decide +kernel) rfl, inP6, tyX6_ok, nmX6, rfl, by decide +kernel, (fun _ => rfl)⟩
theorem lfX6_26 : pm_fl RX6 26 6 4 := ⟨_, _, _, rfl, by decide, pm_in 203 (by decide +kernel) rfl, inP6⟩
theorem lpX6_26 : pm_fp RX6 26 6 4 false .int := ⟨_, _, _, tyX6, rfl, by decide, pm_in 203 (by decide +kernel) rfl, inP6, tyX6_ok, nmX6, rfl, by decide +kernel, (fun h => by cases h)⟩
theorem lfX6_30 : pm_fl RX6 30 6 5 := ⟨_, _, _, rfl, by decide, pm_in 204 (by decide +kernel) rfl, inP6⟩
theorem lpX6_30 : pm_fp RX6 30 6 5 false .int := ⟨_, _, _, tyX6, rfl, by decide, pm_in 204 (by decide +kernel) rfl, inP6, tyX6_ok, nmX6, rfl, by decide +kernel, (fun h => by cases h)⟩
theorem lfX7_170 : pm_fl RX7 170 6 5 := ⟨_, _, _, rfl, by decide, pm_in 205 (by decide +kernel) rfl, inP6⟩
theorem lfX0_9 : pm_fl RX0 9 0 0 := ⟨_, _, _, rfl, by decide, pm_in 230 (by decide +kernel) rfl, inP0⟩
theorem lpX0_9 : pm_fp RX0 9 0 0 true (.array .int) := ⟨_, _, _, tyX0, rfl, by decide, pm_in 230 (by decide +kernel) rfl, inP0, tyX0_ok, nmX0, rfl, by decide +kernel, (fun _ => rfl)⟩
theorem lfX7_263 : pm_fl RX7 263 0 0 := ⟨_, _, _, rfl, by decide, pm_in 231 (by decide +kernel) rfl, inP0⟩
theorem lfX0_15 : pm_fl RX0 15 0 1 := ⟨_, _, _, rfl, by decide, pm_in 232 (by decide +kernel) rfl, inP0⟩
theorem lpX0_15 : pm_fp RX0 15 0 1 false .int := ⟨_, _, _, tyX0, rfl, by decide, pm_in 232 (by decide +kernel) rfl, inP0, tyX0_ok, nmX0, rfl, by decide +kernel, (fun h => by cases h)⟩
theorem lfX7_260 : pm_fl RX7 260 0 1 := ⟨_, _, _, rfl, by decide, pm_in 233 (by decide +kernel) rfl, inP0⟩
theorem lfX0_19 : pm_fl RX0 19 0 2 := ⟨_, _, _, rfl, by decide, pm_in 234 (by decide +kernel) rfl, inP0⟩
theorem lpX0_19 : pm_fp RX0 19 0 2 false .boolean := ⟨_, _, _, tyX0, rfl, by decide, pm_in 234 (by decide +kernel) rfl, inP0, tyX0_ok, nmX0, rfl, by decide +kernel, (fun h => by cases h)⟩
theorem lfX0_23 : pm_fl RX0 23 0 3 := ⟨_, _, _, rfl, by decide, pm_in 235 (by decide +kernel) rfl, inP0⟩
theorem lpX0_23 : pm_fp RX0 23 0 3 false .int := ⟨_, _, _, tyX0, rfl, by decide, pm_in 235 (by decide +kernel) rfl, inP0, tyX0_ok, nmX0, rfl, by decide +kernel, (fun h => by cases h)⟩
theorem lfX0_26 : pm_fl RX0 26 0 4 := ⟨_, _, _, rfl, by decide, pm_in 236 (by decide +kernel) rfl, inP0⟩
theorem lpX0_26 : pm_fp RX0 26 0 4 false .int := ⟨_, _, _, tyX0, rfl, by decide, pm_in 236 (by decide +kernel) rfl, inP0, tyX0_ok, nmX0, rfl, by decide +kernel, (fun h => by cases h)⟩
theorem lfX0_29 : pm_fl RX0 29 0 5 := ⟨_, _, _, rfl, by decide, pm_in 237 (by decide +kernel) rfl, inP0⟩
theorem lpX0_29 : pm_fp RX0 29 0 5 false .int := ⟨_, _, _, tyX0, rfl, by decide, pm_in 237 (by decide +kernel) rfl, inP0, tyX0_ok, nmX0, rfl, by decide +kernel, (fun h => by cases h)⟩
theorem lfX2_9 : pm_fl RX2 9 2 0 := ⟨_, _, _, rfl, by decide, pm_in 256 (by decide +kernel) rfl, inP2⟩
theorem lpX2_9 : pm_fp RX2 9 2 0 true (.array .int) := ⟨_, _, _, tyX2, rfl, by decide, pm_in 256 (by decide +kernel) rfl, inP2, tyX2_ok, nmX2, rfl, by decide +kernel, (fun _ => rfl)⟩
theorem lfX7_215 : pm_fl RX7 215 2 0 := ⟨_, _, _, rfl, by decide, pm_in 257 (by decide +kernel) rfl, inP2⟩
theorem lfX2_15 : pm_fl RX2 15 2 1 := ⟨_, _, _, rfl, by decide, pm_in 258 (by decide +kernel) rfl, inP2⟩
theorem lpX2_15 : pm_fp RX2 15 2 1 false .int := ⟨_, _, _, tyX2, rfl, by decide, pm_in 258 (by decide +kernel) rfl, inP2, tyX2_ok, nmX2, rfl, by decide +kernel, (fun h => by cases h)⟩
theorem lfX3_24 : pm_fl RX3 24 2 1 := ⟨_, _, _, rfl, by decide, pm_in 259 (by decide +kernel) rfl, inP2⟩
theorem lfX7_209 : pm_fl RX7 209 2 1 := ⟨_, _, _, rfl, by decide, pm_in 260 (by decide +kernel) rfl, inP2⟩
theorem lfX2_19 : pm_fl RX2 19 2 2 := ⟨_, _, _, rfl, by decide, pm_in 261 (by decide +kernel) rfl, inP2⟩
theorem lpX2_19 : pm_fp RX2 19 2 2 false .int := ⟨_, _, _, tyX2, rfl, by decide, pm_in 261 (by decide +kernel) rfl, inP2, tyX2_ok, nmX2, rfl, by decide +kernel, (fun h => by cases h)⟩
theorem lfX3_27 : pm_fl RX3 27 2 2 := ⟨_, _, _, rfl, by decide, pm_in 262 (by decide +kernel) rfl, inP2⟩
theorem lfX7_212 : pm_fl RX7 212 2 2 := ⟨_, _, _, rfl, by decide, pm_in 263 (by decide +kernel) rfl, inP2⟩
theorem lfX3_9 : pm_fl RX3 9 3 0 := ⟨_, _, _, rfl, by decide, pm_in 276 (by decide +kernel) rfl, inP3⟩
theorem lpX3_9 : pm_fp RX3 9 3 0 false .int := ⟨_, _, _, tyX3, rfl, by decide, pm_in 276 (by decide +kernel) rfl, inP3, tyX3_ok, nmX3, rfl, by decide +kernel, (fun h => by cases h)⟩
theorem lfX7_238 : pm_fl RX7 238 3 0 := ⟨_, _, _, rfl, by decide, pm_in 277 (by decide +kernel) rfl, inP3⟩
theorem lpX7_238 : pm_fp RX7 238 3 0 false .int := ⟨_, _, _, tyX3, rfl, by decide, pm_in 277 (by decide +kernel) rfl, inP3, tyX3_ok, nmX3, rfl, by decide +kernel, (fun h => by cases h)⟩
theorem lfX3_15 : pm_fl RX3 15 3 1 := ⟨_, _, _, rfl, by decide, pm_in 278 (by decide +kernel) rfl, inP3⟩
theorem lpX3_15 : pm_fp RX3 15 3 1 false .int := ⟨_, _, _, tyX3, rfl, by decide, pm_in 278 (by decide +kernel) rfl, inP3, tyX3_ok, nmX3, rfl, by decide +kernel, (fun h => by cases h)⟩
theorem lfX7_245 : pm_fl RX7 245 3 1 := ⟨_, _, _, rfl, by decide, pm_in 279 (by decide +kernel) rfl, inP3⟩
theorem lfX3_18 : pm_fl RX3 18 3 2 := ⟨_, _, _, rfl, by decide, pm_in 280 (by decide +kernel) rfl, inP3⟩
theorem lpX3_18 : pm_fp RX3 18 3 2 false .int := ⟨_, _, _, tyX3, rfl, by decide, pm_in 280 (by decide +kernel) rfl, inP3, tyX3_ok, nmX3, rfl, by decide +kernel, (fun h => by cases h)⟩
theorem lfX7_251 : pm_fl RX7 251 3 2 := ⟨_, _, _, rfl, by decide, pm_in 281 (by decide +kernel) rfl, inP3⟩
theorem lfX3_21 : pm_fl RX3 21 3 3 := ⟨_, _, _, rfl, by decide, pm_in 282 (by decide +kernel) rfl, inP3⟩
theorem lpX3_21 : pm_fp RX3 21 3 3 false .int := ⟨_, _, _, tyX3, rfl, by decide, pm_in 282 (by decide +kernel) rfl, inP3, tyX3_ok, nmX3, rfl, by decide +kernel, (fun h => by cases h)⟩
theorem lfX7_252 : pm_fl RX7 252 3 3 := ⟨_, _, _, rfl, by decide, pm_in 283 (by decide +kernel) rfl, inP3⟩
theorem lfX7_10 : pm_fl RX7 10 7 0 := ⟨_, _, _, rfl, by decide, pm_in 293 (by decide +kernel) rfl, inP7⟩
theorem lpX7_10 : pm_fp RX7 10 7 0 true (.object "BalloonTown$Town") := ⟨_, _, _, tyX7, rfl, by decide, pm_in 293 (by decide +kernel) rfl, inP7, tyX7_ok, nmX7, rfl, by decide +kernel, (fun _ => rfl)⟩
theorem lfX7_16 : pm_fl RX7 16 7 1 := ⟨_, _, _, rfl, by decide, pm_in 294 (by decide +kernel) rfl, inP7⟩
theorem lpX7_16 : pm_fp RX7 16 7 1 true (.object "BalloonTown$Town") := ⟨_, _, _, tyX7, rfl, by decide, pm_in 294 (by decide +kernel) rfl, inP7, tyX7_ok, nmX7, rfl, by decide +kernel, (fun _ => rfl)⟩
theorem lfX7_19 : pm_fl RX7 19 7 2 := ⟨_, _, _, rfl, by decide, pm_in 295 (by decide +kernel) rfl, inP7⟩
theorem lpX7_19 : pm_fp RX7 19 7 2 false .boolean := ⟨_, _, _, tyX7, rfl, by decide, pm_in 295 (by decide +kernel) rfl, inP7, tyX7_ok, nmX7, rfl, by decide +kernel, (fun h => by cases h)⟩
theorem lfX7_23 : pm_fl RX7 23 7 3 := ⟨_, _, _, rfl, by decide, pm_in 296 (by decide +kernel) rfl, inP7⟩
theorem lpX7_23 : pm_fp RX7 23 7 3 true (.object "BalloonTown$Town") := ⟨_, _, _, tyX7, rfl, by decide, pm_in 296 (by decide +kernel) rfl, inP7, tyX7_ok, nmX7, rfl, by decide +kernel, (fun _ => rfl)⟩
theorem lfX7_29 : pm_fl RX7 29 7 4 := ⟨_, _, _, rfl, by decide, pm_in 297 (by decide +kernel) rfl, inP7⟩
theorem lpX7_29 : pm_fp RX7 29 7 4 true (.object "BalloonTown$Tape") := ⟨_, _, _, tyX7, rfl, by decide, pm_in 297 (by decide +kernel) rfl, inP7, tyX7_ok, nmX7, rfl, by decide +kernel, (fun _ => rfl)⟩
theorem lfX7_38 : pm_fl RX7 38 7 5 := ⟨_, _, _, rfl, by decide, pm_in 298 (by decide +kernel) rfl, inP7⟩
theorem lpX7_38 : pm_fp RX7 38 7 5 true (.object "BalloonTown$Trial") := ⟨_, _, _, tyX7, rfl, by decide, pm_in 298 (by decide +kernel) rfl, inP7, tyX7_ok, nmX7, rfl, by decide +kernel, (fun _ => rfl)⟩
theorem lfX7_44 : pm_fl RX7 44 7 6 := ⟨_, _, _, rfl, by decide, pm_in 299 (by decide +kernel) rfl, inP7⟩
theorem lpX7_44 : pm_fp RX7 44 7 6 true (.array (.array .int)) := ⟨_, _, _, tyX7, rfl, by decide, pm_in 299 (by decide +kernel) rfl, inP7, tyX7_ok, nmX7, rfl, by decide +kernel, (fun _ => rfl)⟩
theorem lfX7_47 : pm_fl RX7 47 7 7 := ⟨_, _, _, rfl, by decide, pm_in 300 (by decide +kernel) rfl, inP7⟩
theorem lpX7_47 : pm_fp RX7 47 7 7 false .int := ⟨_, _, _, tyX7, rfl, by decide, pm_in 300 (by decide +kernel) rfl, inP7, tyX7_ok, nmX7, rfl, by decide +kernel, (fun h => by cases h)⟩
theorem lfX7_53 : pm_fl RX7 53 7 8 := ⟨_, _, _, rfl, by decide, pm_in 301 (by decide +kernel) rfl, inP7⟩
theorem lpX7_53 : pm_fp RX7 53 7 8 true (.array (.object "BalloonTown$Sheet")) := ⟨_, _, _, tyX7, rfl, by decide, pm_in 301 (by decide +kernel) rfl, inP7, tyX7_ok, nmX7, rfl, by decide +kernel, (fun _ => rfl)⟩
theorem lfX7_59 : pm_fl RX7 59 7 9 := ⟨_, _, _, rfl, by decide, pm_in 302 (by decide +kernel) rfl, inP7⟩
theorem lpX7_59 : pm_fp RX7 59 7 9 true (.array (.object "BalloonTown$Shelf")) := ⟨_, _, _, tyX7, rfl, by decide, pm_in 302 (by decide +kernel) rfl, inP7, tyX7_ok, nmX7, rfl, by decide +kernel, (fun _ => rfl)⟩
theorem lfX7_66 : pm_fl RX7 66 7 10 := ⟨_, _, _, rfl, by decide, pm_in 303 (by decide +kernel) rfl, inP7⟩
theorem lpX7_66 : pm_fp RX7 66 7 10 true (.object "BalloonTown$Acts") := ⟨_, _, _, tyX7, rfl, by decide, pm_in 303 (by decide +kernel) rfl, inP7, tyX7_ok, nmX7, rfl, by decide +kernel, (fun _ => rfl)⟩
theorem lsJ0_38 : Cond.fieldLink RJ0 38 "java/lang/String" "COMPACT_STRINGS" "Z" ∈ pm_tbl := pm_in 386 (by decide +kernel) rfl
theorem lsJ0_1053 : Cond.fieldLink RJ0 1053 "jdk/internal/util/Preconditions" "SIOOBE_FORMATTER" "Ljava/util/function/BiFunction;" ∈ pm_tbl := pm_in 402 (by decide +kernel) rfl
theorem lsJ2_44 : Cond.fieldLink RJ2 44 "java/lang/StringUTF16" "$assertionsDisabled" "Z" ∈ pm_tbl := pm_in 420 (by decide +kernel) rfl
theorem lsJ2_59 : Cond.fieldLink RJ2 59 "java/lang/StringUTF16" "HI_BYTE_SHIFT" "I" ∈ pm_tbl := pm_in 422 (by decide +kernel) rfl
theorem lsJ2_63 : Cond.fieldLink RJ2 63 "java/lang/StringUTF16" "LO_BYTE_SHIFT" "I" ∈ pm_tbl := pm_in 424 (by decide +kernel) rfl
theorem lsX7_182 : Cond.fieldLink RX7 182 "BalloonTown" "LEAST" "[I" ∈ pm_tbl := pm_in 512 (by decide +kernel) rfl
theorem lsX7_141 : Cond.fieldLink RX7 141 "BalloonTown" "MOST" "[I" ∈ pm_tbl := pm_in 513 (by decide +kernel) rfl
theorem lcX7_196 : Cond.constant RX7 196 (1103515245) ∈ pm_tbl := pm_in 747 (by decide +kernel) rfl
theorem lsX7_269 : Cond.fieldLink RX7 269 "BalloonTown" "UNDER" "[I" ∈ pm_tbl := pm_in 830 (by decide +kernel) rfl
theorem lcJ6_265 : Cond.constant RJ6 265 (1431655765) ∈ pm_tbl := pm_in 884 (by decide +kernel) rfl
theorem lcJ6_266 : Cond.constant RJ6 266 (858993459) ∈ pm_tbl := pm_in 885 (by decide +kernel) rfl
theorem lcJ6_267 : Cond.constant RJ6 267 (252645135) ∈ pm_tbl := pm_in 886 (by decide +kernel) rfl
theorem lfX8_7 : pm_fl RX8 7 8 0 := ⟨_, _, _, rfl, by decide, pm_in 901 (by decide +kernel) rfl, inP8⟩
theorem lpX8_7 : pm_fp RX8 7 8 0 true (.array .int) := ⟨_, _, _, tyX8, rfl, by decide, pm_in 901 (by decide +kernel) rfl, inP8, tyX8_ok, nmX8, rfl, by decide +kernel, (fun _ => rfl)⟩
theorem lfX8_13 : pm_fl RX8 13 8 1 := ⟨_, _, _, rfl, by decide, pm_in 902 (by decide +kernel) rfl, inP8⟩
theorem lpX8_13 : pm_fp RX8 13 8 1 false .int := ⟨_, _, _, tyX8, rfl, by decide, pm_in 902 (by decide +kernel) rfl, inP8, tyX8_ok, nmX8, rfl, by decide +kernel, (fun h => by cases h)⟩
theorem lfX8_82 : pm_fl RX8 82 8 2 := ⟨_, _, _, rfl, by decide, pm_in 903 (by decide +kernel) rfl, inP8⟩
theorem lpX8_82 : pm_fp RX8 82 8 2 false .int := ⟨_, _, _, tyX8, rfl, by decide, pm_in 903 (by decide +kernel) rfl, inP8, tyX8_ok, nmX8, rfl, by decide +kernel, (fun h => by cases h)⟩
theorem lfX8_17 : pm_fl RX8 17 8 3 := ⟨_, _, _, rfl, by decide, pm_in 904 (by decide +kernel) rfl, inP8⟩
theorem lpX8_17 : pm_fp RX8 17 8 3 true (.array .int) := ⟨_, _, _, tyX8, rfl, by decide, pm_in 904 (by decide +kernel) rfl, inP8, tyX8_ok, nmX8, rfl, by decide +kernel, (fun _ => rfl)⟩
theorem lfX8_20 : pm_fl RX8 20 8 4 := ⟨_, _, _, rfl, by decide, pm_in 905 (by decide +kernel) rfl, inP8⟩
theorem lpX8_20 : pm_fp RX8 20 8 4 true (.array .int) := ⟨_, _, _, tyX8, rfl, by decide, pm_in 905 (by decide +kernel) rfl, inP8, tyX8_ok, nmX8, rfl, by decide +kernel, (fun _ => rfl)⟩
theorem lfX8_23 : pm_fl RX8 23 8 5 := ⟨_, _, _, rfl, by decide, pm_in 906 (by decide +kernel) rfl, inP8⟩
theorem lpX8_23 : pm_fp RX8 23 8 5 true (.array .int) := ⟨_, _, _, tyX8, rfl, by decide, pm_in 906 (by decide +kernel) rfl, inP8, tyX8_ok, nmX8, rfl, by decide +kernel, (fun _ => rfl)⟩
theorem lfX8_85 : pm_fl RX8 85 8 6 := ⟨_, _, _, rfl, by decide, pm_in 907 (by decide +kernel) rfl, inP8⟩
theorem lpX8_85 : pm_fp RX8 85 8 6 false .int := ⟨_, _, _, tyX8, rfl, by decide, pm_in 907 (by decide +kernel) rfl, inP8, tyX8_ok, nmX8, rfl, by decide +kernel, (fun h => by cases h)⟩
theorem lfX8_225 : pm_fl RX8 225 8 7 := ⟨_, _, _, rfl, by decide, pm_in 908 (by decide +kernel) rfl, inP8⟩
theorem lpX8_225 : pm_fp RX8 225 8 7 false .int := ⟨_, _, _, tyX8, rfl, by decide, pm_in 908 (by decide +kernel) rfl, inP8, tyX8_ok, nmX8, rfl, by decide +kernel, (fun h => by cases h)⟩
theorem lfX8_26 : pm_fl RX8 26 8 8 := ⟨_, _, _, rfl, by decide, pm_in 909 (by decide +kernel) rfl, inP8⟩
theorem lpX8_26 : pm_fp RX8 26 8 8 false .int := ⟨_, _, _, tyX8, rfl, by decide, pm_in 909 (by decide +kernel) rfl, inP8, tyX8_ok, nmX8, rfl, by decide +kernel, (fun h => by cases h)⟩
theorem lfX8_29 : pm_fl RX8 29 8 9 := ⟨_, _, _, rfl, by decide, pm_in 910 (by decide +kernel) rfl, inP8⟩
theorem lpX8_29 : pm_fp RX8 29 8 9 true (.array .int) := ⟨_, _, _, tyX8, rfl, by decide, pm_in 910 (by decide +kernel) rfl, inP8, tyX8_ok, nmX8, rfl, by decide +kernel, (fun _ => rfl)⟩
theorem lfX8_88 : pm_fl RX8 88 8 10 := ⟨_, _, _, rfl, by decide, pm_in 911 (by decide +kernel) rfl, inP8⟩
theorem lpX8_88 : pm_fp RX8 88 8 10 false .int := ⟨_, _, _, tyX8, rfl, by decide, pm_in 911 (by decide +kernel) rfl, inP8, tyX8_ok, nmX8, rfl, by decide +kernel, (fun h => by cases h)⟩
theorem lfX8_110 : pm_fl RX8 110 8 11 := ⟨_, _, _, rfl, by decide, pm_in 912 (by decide +kernel) rfl, inP8⟩
theorem lpX8_110 : pm_fp RX8 110 8 11 false .int := ⟨_, _, _, tyX8, rfl, by decide, pm_in 912 (by decide +kernel) rfl, inP8, tyX8_ok, nmX8, rfl, by decide +kernel, (fun h => by cases h)⟩
theorem lfX8_96 : pm_fl RX8 96 8 12 := ⟨_, _, _, rfl, by decide, pm_in 913 (by decide +kernel) rfl, inP8⟩
theorem lpX8_96 : pm_fp RX8 96 8 12 false .int := ⟨_, _, _, tyX8, rfl, by decide, pm_in 913 (by decide +kernel) rfl, inP8, tyX8_ok, nmX8, rfl, by decide +kernel, (fun h => by cases h)⟩
theorem lfX8_93 : pm_fl RX8 93 8 13 := ⟨_, _, _, rfl, by decide, pm_in 914 (by decide +kernel) rfl, inP8⟩
theorem lpX8_93 : pm_fp RX8 93 8 13 false .int := ⟨_, _, _, tyX8, rfl, by decide, pm_in 914 (by decide +kernel) rfl, inP8, tyX8_ok, nmX8, rfl, by decide +kernel, (fun h => by cases h)⟩
theorem lfX8_113 : pm_fl RX8 113 8 14 := ⟨_, _, _, rfl, by decide, pm_in 915 (by decide +kernel) rfl, inP8⟩
theorem lpX8_113 : pm_fp RX8 113 8 14 false .long := ⟨_, _, _, tyX8, rfl, by decide, pm_in 915 (by decide +kernel) rfl, inP8, tyX8_ok, nmX8, rfl, by decide +kernel, (fun h => by cases h)⟩
theorem lfX8_117 : pm_fl RX8 117 8 15 := ⟨_, _, _, rfl, by decide, pm_in 916 (by decide +kernel) rfl, inP8⟩
theorem lpX8_117 : pm_fp RX8 117 8 15 false .int := ⟨_, _, _, tyX8, rfl, by decide, pm_in 916 (by decide +kernel) rfl, inP8, tyX8_ok, nmX8, rfl, by decide +kernel, (fun h => by cases h)⟩
theorem lfX8_142 : pm_fl RX8 142 8 16 := ⟨_, _, _, rfl, by decide, pm_in 917 (by decide +kernel) rfl, inP8⟩
theorem lpX8_142 : pm_fp RX8 142 8 16 false .boolean := ⟨_, _, _, tyX8, rfl, by decide, pm_in 917 (by decide +kernel) rfl, inP8, tyX8_ok, nmX8, rfl, by decide +kernel, (fun h => by cases h)⟩
theorem lfX8_156 : pm_fl RX8 156 8 17 := ⟨_, _, _, rfl, by decide, pm_in 918 (by decide +kernel) rfl, inP8⟩
theorem lpX8_156 : pm_fp RX8 156 8 17 false .int := ⟨_, _, _, tyX8, rfl, by decide, pm_in 918 (by decide +kernel) rfl, inP8, tyX8_ok, nmX8, rfl, by decide +kernel, (fun h => by cases h)⟩
theorem lfX8_196 : pm_fl RX8 196 8 18 := ⟨_, _, _, rfl, by decide, pm_in 919 (by decide +kernel) rfl, inP8⟩
theorem lpX8_196 : pm_fp RX8 196 8 18 false .int := ⟨_, _, _, tyX8, rfl, by decide, pm_in 919 (by decide +kernel) rfl, inP8, tyX8_ok, nmX8, rfl, by decide +kernel, (fun h => by cases h)⟩
theorem lfX8_32 : pm_fl RX8 32 8 19 := ⟨_, _, _, rfl, by decide, pm_in 920 (by decide +kernel) rfl, inP8⟩
theorem lpX8_32 : pm_fp RX8 32 8 19 true (.array .int) := ⟨_, _, _, tyX8, rfl, by decide, pm_in 920 (by decide +kernel) rfl, inP8, tyX8_ok, nmX8, rfl, by decide +kernel, (fun _ => rfl)⟩
theorem lfX8_35 : pm_fl RX8 35 8 20 := ⟨_, _, _, rfl, by decide, pm_in 921 (by decide +kernel) rfl, inP8⟩
theorem lpX8_35 : pm_fp RX8 35 8 20 true (.array .int) := ⟨_, _, _, tyX8, rfl, by decide, pm_in 921 (by decide +kernel) rfl, inP8, tyX8_ok, nmX8, rfl, by decide +kernel, (fun _ => rfl)⟩
theorem lfX8_38 : pm_fl RX8 38 8 21 := ⟨_, _, _, rfl, by decide, pm_in 922 (by decide +kernel) rfl, inP8⟩
theorem lpX8_38 : pm_fp RX8 38 8 21 true (.array .int) := ⟨_, _, _, tyX8, rfl, by decide, pm_in 922 (by decide +kernel) rfl, inP8, tyX8_ok, nmX8, rfl, by decide +kernel, (fun _ => rfl)⟩
theorem lfX8_41 : pm_fl RX8 41 8 22 := ⟨_, _, _, rfl, by decide, pm_in 923 (by decide +kernel) rfl, inP8⟩
theorem lpX8_41 : pm_fp RX8 41 8 22 true (.array .int) := ⟨_, _, _, tyX8, rfl, by decide, pm_in 923 (by decide +kernel) rfl, inP8, tyX8_ok, nmX8, rfl, by decide +kernel, (fun _ => rfl)⟩
theorem lfX8_44 : pm_fl RX8 44 8 23 := ⟨_, _, _, rfl, by decide, pm_in 924 (by decide +kernel) rfl, inP8⟩
theorem lpX8_44 : pm_fp RX8 44 8 23 true (.array .int) := ⟨_, _, _, tyX8, rfl, by decide, pm_in 924 (by decide +kernel) rfl, inP8, tyX8_ok, nmX8, rfl, by decide +kernel, (fun _ => rfl)⟩
theorem lfX8_47 : pm_fl RX8 47 8 24 := ⟨_, _, _, rfl, by decide, pm_in 925 (by decide +kernel) rfl, inP8⟩
theorem lpX8_47 : pm_fp RX8 47 8 24 true (.array .int) := ⟨_, _, _, tyX8, rfl, by decide, pm_in 925 (by decide +kernel) rfl, inP8, tyX8_ok, nmX8, rfl, by decide +kernel, (fun _ => rfl)⟩
theorem lfX8_202 : pm_fl RX8 202 8 25 := ⟨_, _, _, rfl, by decide, pm_in 926 (by decide +kernel) rfl, inP8⟩
theorem lpX8_202 : pm_fp RX8 202 8 25 false .int := ⟨_, _, _, tyX8, rfl, by decide, pm_in 926 (by decide +kernel) rfl, inP8, tyX8_ok, nmX8, rfl, by decide +kernel, (fun h => by cases h)⟩
theorem lfX8_314 : pm_fl RX8 314 8 26 := ⟨_, _, _, rfl, by decide, pm_in 927 (by decide +kernel) rfl, inP8⟩
theorem lpX8_314 : pm_fp RX8 314 8 26 false .int := ⟨_, _, _, tyX8, rfl, by decide, pm_in 927 (by decide +kernel) rfl, inP8, tyX8_ok, nmX8, rfl, by decide +kernel, (fun h => by cases h)⟩
theorem lfX8_50 : pm_fl RX8 50 8 27 := ⟨_, _, _, rfl, by decide, pm_in 928 (by decide +kernel) rfl, inP8⟩
theorem lpX8_50 : pm_fp RX8 50 8 27 true (.array .int) := ⟨_, _, _, tyX8, rfl, by decide, pm_in 928 (by decide +kernel) rfl, inP8, tyX8_ok, nmX8, rfl, by decide +kernel, (fun _ => rfl)⟩
theorem lfX8_53 : pm_fl RX8 53 8 28 := ⟨_, _, _, rfl, by decide, pm_in 929 (by decide +kernel) rfl, inP8⟩
theorem lpX8_53 : pm_fp RX8 53 8 28 true (.array .int) := ⟨_, _, _, tyX8, rfl, by decide, pm_in 929 (by decide +kernel) rfl, inP8, tyX8_ok, nmX8, rfl, by decide +kernel, (fun _ => rfl)⟩
theorem lfX8_56 : pm_fl RX8 56 8 29 := ⟨_, _, _, rfl, by decide, pm_in 930 (by decide +kernel) rfl, inP8⟩
theorem lpX8_56 : pm_fp RX8 56 8 29 true (.array .long) := ⟨_, _, _, tyX8, rfl, by decide, pm_in 930 (by decide +kernel) rfl, inP8, tyX8_ok, nmX8, rfl, by decide +kernel, (fun _ => rfl)⟩
theorem lfX8_60 : pm_fl RX8 60 8 30 := ⟨_, _, _, rfl, by decide, pm_in 931 (by decide +kernel) rfl, inP8⟩
theorem lpX8_60 : pm_fp RX8 60 8 30 true (.array .int) := ⟨_, _, _, tyX8, rfl, by decide, pm_in 931 (by decide +kernel) rfl, inP8, tyX8_ok, nmX8, rfl, by decide +kernel, (fun _ => rfl)⟩
theorem lfX8_63 : pm_fl RX8 63 8 31 := ⟨_, _, _, rfl, by decide, pm_in 932 (by decide +kernel) rfl, inP8⟩
theorem lpX8_63 : pm_fp RX8 63 8 31 true (.array .int) := ⟨_, _, _, tyX8, rfl, by decide, pm_in 932 (by decide +kernel) rfl, inP8, tyX8_ok, nmX8, rfl, by decide +kernel, (fun _ => rfl)⟩
theorem lfX8_66 : pm_fl RX8 66 8 32 := ⟨_, _, _, rfl, by decide, pm_in 933 (by decide +kernel) rfl, inP8⟩
theorem lpX8_66 : pm_fp RX8 66 8 32 true (.array .int) := ⟨_, _, _, tyX8, rfl, by decide, pm_in 933 (by decide +kernel) rfl, inP8, tyX8_ok, nmX8, rfl, by decide +kernel, (fun _ => rfl)⟩
theorem lfX8_355 : pm_fl RX8 355 8 33 := ⟨_, _, _, rfl, by decide, pm_in 934 (by decide +kernel) rfl, inP8⟩
theorem lpX8_355 : pm_fp RX8 355 8 33 false .int := ⟨_, _, _, tyX8, rfl, by decide, pm_in 934 (by decide +kernel) rfl, inP8, tyX8_ok, nmX8, rfl, by decide +kernel, (fun h => by cases h)⟩
theorem lfX8_349 : pm_fl RX8 349 8 34 := ⟨_, _, _, rfl, by decide, pm_in 935 (by decide +kernel) rfl, inP8⟩
theorem lpX8_349 : pm_fp RX8 349 8 34 false .int := ⟨_, _, _, tyX8, rfl, by decide, pm_in 935 (by decide +kernel) rfl, inP8, tyX8_ok, nmX8, rfl, by decide +kernel, (fun h => by cases h)⟩
theorem lfX8_367 : pm_fl RX8 367 8 35 := ⟨_, _, _, rfl, by decide, pm_in 936 (by decide +kernel) rfl, inP8⟩
theorem lpX8_367 : pm_fp RX8 367 8 35 false .int := ⟨_, _, _, tyX8, rfl, by decide, pm_in 936 (by decide +kernel) rfl, inP8, tyX8_ok, nmX8, rfl, by decide +kernel, (fun h => by cases h)⟩
theorem lfX8_69 : pm_fl RX8 69 8 36 := ⟨_, _, _, rfl, by decide, pm_in 937 (by decide +kernel) rfl, inP8⟩
theorem lpX8_69 : pm_fp RX8 69 8 36 true (.array .int) := ⟨_, _, _, tyX8, rfl, by decide, pm_in 937 (by decide +kernel) rfl, inP8, tyX8_ok, nmX8, rfl, by decide +kernel, (fun _ => rfl)⟩
theorem lfX8_343 : pm_fl RX8 343 8 37 := ⟨_, _, _, rfl, by decide, pm_in 938 (by decide +kernel) rfl, inP8⟩
theorem lpX8_343 : pm_fp RX8 343 8 37 false .int := ⟨_, _, _, tyX8, rfl, by decide, pm_in 938 (by decide +kernel) rfl, inP8, tyX8_ok, nmX8, rfl, by decide +kernel, (fun h => by cases h)⟩
theorem lfX8_370 : pm_fl RX8 370 8 38 := ⟨_, _, _, rfl, by decide, pm_in 939 (by decide +kernel) rfl, inP8⟩
theorem lpX8_370 : pm_fp RX8 370 8 38 false .boolean := ⟨_, _, _, tyX8, rfl, by decide, pm_in 939 (by decide +kernel) rfl, inP8, tyX8_ok, nmX8, rfl, by decide +kernel, (fun h => by cases h)⟩
theorem lfX8_398 : pm_fl RX8 398 8 39 := ⟨_, _, _, rfl, by decide, pm_in 940 (by decide +kernel) rfl, inP8⟩
theorem lpX8_398 : pm_fp RX8 398 8 39 false .boolean := ⟨_, _, _, tyX8, rfl, by decide, pm_in 940 (by decide +kernel) rfl, inP8, tyX8_ok, nmX8, rfl, by decide +kernel, (fun h => by cases h)⟩
theorem lfX8_72 : pm_fl RX8 72 8 40 := ⟨_, _, _, rfl, by decide, pm_in 941 (by decide +kernel) rfl, inP8⟩
theorem lpX8_72 : pm_fp RX8 72 8 40 true (.array .int) := ⟨_, _, _, tyX8, rfl, by decide, pm_in 941 (by decide +kernel) rfl, inP8, tyX8_ok, nmX8, rfl, by decide +kernel, (fun _ => rfl)⟩
theorem lfX8_388 : pm_fl RX8 388 8 41 := ⟨_, _, _, rfl, by decide, pm_in 942 (by decide +kernel) rfl, inP8⟩
theorem lpX8_388 : pm_fp RX8 388 8 41 false .int := ⟨_, _, _, tyX8, rfl, by decide, pm_in 942 (by decide +kernel) rfl, inP8, tyX8_ok, nmX8, rfl, by decide +kernel, (fun h => by cases h)⟩
theorem lfX8_75 : pm_fl RX8 75 8 42 := ⟨_, _, _, rfl, by decide, pm_in 943 (by decide +kernel) rfl, inP8⟩
theorem lpX8_75 : pm_fp RX8 75 8 42 true (.array .int) := ⟨_, _, _, tyX8, rfl, by decide, pm_in 943 (by decide +kernel) rfl, inP8, tyX8_ok, nmX8, rfl, by decide +kernel, (fun _ => rfl)⟩
theorem lcX8_91 : Cond.constantLong RX8 91 (255) ∈ pm_tbl := pm_in 1039 (by decide +kernel) rfl
theorem lcX8_120 : Cond.constantLong RX8 120 (27) ∈ pm_tbl := pm_in 1058 (by decide +kernel) rfl
theorem lcX8_122 : Cond.constantLong RX8 122 (96) ∈ pm_tbl := pm_in 1059 (by decide +kernel) rfl
theorem lcX8_124 : Cond.constantLong RX8 124 (-1) ∈ pm_tbl := pm_in 1060 (by decide +kernel) rfl
theorem lcX8_126 : Cond.constantLong RX8 126 (795814727) ∈ pm_tbl := pm_in 1069 (by decide +kernel) rfl
theorem lcX8_132 : Cond.constantLong RX8 132 (380873) ∈ pm_tbl := pm_in 1074 (by decide +kernel) rfl
theorem lcX8_134 : Cond.constantLong RX8 134 (6476758) ∈ pm_tbl := pm_in 1075 (by decide +kernel) rfl
theorem lcX8_136 : Cond.constantLong RX8 136 (6223770571) ∈ pm_tbl := pm_in 1076 (by decide +kernel) rfl
theorem lcX8_138 : Cond.constantLong RX8 138 (47329743) ∈ pm_tbl := pm_in 1077 (by decide +kernel) rfl
theorem lcX8_140 : Cond.constantLong RX8 140 (1095881) ∈ pm_tbl := pm_in 1078 (by decide +kernel) rfl
theorem lcX8_159 : Cond.constantLong RX8 159 (257) ∈ pm_tbl := pm_in 1087 (by decide +kernel) rfl
theorem lcX8_161 : Cond.constantLong RX8 161 (5149) ∈ pm_tbl := pm_in 1088 (by decide +kernel) rfl
theorem lcX8_167 : Cond.constantLong RX8 167 (375088) ∈ pm_tbl := pm_in 1093 (by decide +kernel) rfl
theorem lcX8_169 : Cond.constantLong RX8 169 (365666) ∈ pm_tbl := pm_in 1094 (by decide +kernel) rfl
theorem lcX8_171 : Cond.constantLong RX8 171 (1420852) ∈ pm_tbl := pm_in 1095 (by decide +kernel) rfl
theorem lcX8_173 : Cond.constantLong RX8 173 (194935564) ∈ pm_tbl := pm_in 1096 (by decide +kernel) rfl
theorem lcX8_186 : Cond.constantLong RX8 186 (453937) ∈ pm_tbl := pm_in 1105 (by decide +kernel) rfl
theorem lcX8_188 : Cond.constantLong RX8 188 (70312) ∈ pm_tbl := pm_in 1106 (by decide +kernel) rfl
theorem lcX8_194 : Cond.constantLong RX8 194 (5146) ∈ pm_tbl := pm_in 1111 (by decide +kernel) rfl
theorem lcX8_313 : Cond.constant RX8 313 (1103515245) ∈ pm_tbl := pm_in 1340 (by decide +kernel) rfl
theorem lcX8_330 : Cond.constantLong RX8 330 (-20) ∈ pm_tbl := pm_in 1376 (by decide +kernel) rfl
theorem lcX8_332 : Cond.constantLong RX8 332 (40) ∈ pm_tbl := pm_in 1377 (by decide +kernel) rfl
theorem lcL_13 : Cond.constantLong RL 13 (4294967295) ∈ pm_tbl := pm_in 1477 (by decide +kernel) rfl
theorem lsJ0_9 : Cond.fieldLink RJ0 9 "java/lang/String" "value" "[B" ∈ pm_tbl := pm_in 1478 (by decide +kernel) rfl
theorem lsJ0_15 : Cond.fieldLink RJ0 15 "java/lang/String" "coder" "B" ∈ pm_tbl := pm_in 1479 (by decide +kernel) rfl
theorem kcX7_init : Cond.code yX7_init cX7_init 2 (none : Option Jvm.ClassFile.FieldType) ∈ pm_tbl := pm_in 101 (by decide +kernel) rfl
theorem kcO : Cond.code Lib.objectInit ⟨#[0xb1]⟩ 1 none ∈ pm_tbl := pm_in 104 (by decide +kernel) rfl
theorem kcX5_init : Cond.code yX5_init cX5_init 2 (none : Option Jvm.ClassFile.FieldType) ∈ pm_tbl := pm_in 109 (by decide +kernel) rfl
theorem kcX1_init : Cond.code yX1_init cX1_init 1 (none : Option Jvm.ClassFile.FieldType) ∈ pm_tbl := pm_in 116 (by decide +kernel) rfl
theorem kcX4_init : Cond.code yX4_init cX4_init 1 (none : Option Jvm.ClassFile.FieldType) ∈ pm_tbl := pm_in 165 (by decide +kernel) rfl
theorem kcX6_init : Cond.code yX6_init cX6_init 2 (none : Option Jvm.ClassFile.FieldType) ∈ pm_tbl := pm_in 192 (by decide +kernel) rfl
theorem kcX0_init : Cond.code yX0_init cX0_init 1 (none : Option Jvm.ClassFile.FieldType) ∈ pm_tbl := pm_in 228 (by decide +kernel) rfl
theorem kcX2_init : Cond.code yX2_init cX2_init 1 (none : Option Jvm.ClassFile.FieldType) ∈ pm_tbl := pm_in 254 (by decide +kernel) rfl
theorem kcX3_init : Cond.code yX3_init cX3_init 1 (none : Option Jvm.ClassFile.FieldType) ∈ pm_tbl := pm_in 274 (by decide +kernel) rfl
theorem kcX7_feed : Cond.code yX7_feed cX7_feed 4 (some .int) ∈ pm_tbl := pm_in 330 (by decide +kernel) rfl
theorem kcX7_within : Cond.code yX7_within cX7_within 3 (some .boolean) ∈ pm_tbl := pm_in 333 (by decide +kernel) rfl
theorem kcX4_take : Cond.code yX4_take cX4_take 5 (none : Option Jvm.ClassFile.FieldType) ∈ pm_tbl := pm_in 337 (by decide +kernel) rfl
theorem kcX7_town : Cond.code yX7_town cX7_town 2 (some .int) ∈ pm_tbl := pm_in 341 (by decide +kernel) rfl
theorem kcX4_readInto : Cond.code yX4_readInto cX4_readInto 4 (some .int) ∈ pm_tbl := pm_in 345 (by decide +kernel) rfl
theorem kcX5_becomeEmpty : Cond.code yX5_becomeEmpty cX5_becomeEmpty 2 (none : Option Jvm.ClassFile.FieldType) ∈ pm_tbl := pm_in 349 (by decide +kernel) rfl
theorem kcX4_advance : Cond.code yX4_advance cX4_advance 1 (none : Option Jvm.ClassFile.FieldType) ∈ pm_tbl := pm_in 353 (by decide +kernel) rfl
theorem kcX4_sortAt : Cond.code yX4_sortAt cX4_sortAt 3 (some .int) ∈ pm_tbl := pm_in 357 (by decide +kernel) rfl
theorem kcM_min : Cond.code Lib.Math.min.name Lib.Math.min.code 2 (some .int) ∈ pm_tbl := pm_in 360 (by decide +kernel) rfl
theorem kcX4_kindHere : Cond.code yX4_kindHere cX4_kindHere 2 (some .int) ∈ pm_tbl := pm_in 364 (by decide +kernel) rfl
theorem kcX4_nameOf : Cond.code yX4_nameOf cX4_nameOf 1 (some (.object "java/lang/String")) ∈ pm_tbl := pm_in 367 (by decide +kernel) rfl
theorem kcX4_isName : Cond.code yX4_isName cX4_isName 3 (some .boolean) ∈ pm_tbl := pm_in 377 (by decide +kernel) rfl
theorem kcJ0_length_8abf5 : Cond.code yJ0_length_8abf5 cJ0_length_8abf5 1 (some .int) ∈ pm_tbl := pm_in 381 (by decide +kernel) rfl
theorem kcJ0_coder_7d493 : Cond.code yJ0_coder_7d493 cJ0_coder_7d493 1 (some .byte) ∈ pm_tbl := pm_in 385 (by decide +kernel) rfl
theorem kcJ0_charAt_5068e : Cond.code yJ0_charAt_5068e cJ0_charAt_5068e 2 (some .char) ∈ pm_tbl := pm_in 391 (by decide +kernel) rfl
theorem kcJ0_isLatin1_aae02 : Cond.code yJ0_isLatin1_aae02 cJ0_isLatin1_aae02 1 (some .boolean) ∈ pm_tbl := pm_in 395 (by decide +kernel) rfl
theorem kcJ1_charAt_3b067 : Cond.code yJ1_charAt_3b067 cJ1_charAt_3b067 2 (some .char) ∈ pm_tbl := pm_in 398 (by decide +kernel) rfl
theorem kcJ0_checkIndex_df160 : Cond.code yJ0_checkIndex_df160 cJ0_checkIndex_df160 2 (none : Option Jvm.ClassFile.FieldType) ∈ pm_tbl := pm_in 401 (by decide +kernel) rfl
theorem kcJ3_checkIndex_8e157 : Cond.code yJ3_checkIndex_8e157 cJ3_checkIndex_8e157 3 (some .int) ∈ pm_tbl := pm_in 406 (by decide +kernel) rfl
theorem kcJ2_charAt_3b067 : Cond.code yJ2_charAt_3b067 cJ2_charAt_3b067 2 (some .char) ∈ pm_tbl := pm_in 409 (by decide +kernel) rfl
theorem kcJ2_checkIndex_2214a : Cond.code yJ2_checkIndex_2214a cJ2_checkIndex_2214a 2 (none : Option Jvm.ClassFile.FieldType) ∈ pm_tbl := pm_in 412 (by decide +kernel) rfl
theorem kcJ2_length_9d52b : Cond.code yJ2_length_9d52b cJ2_length_9d52b 1 (some .int) ∈ pm_tbl := pm_in 415 (by decide +kernel) rfl
theorem kcJ2_getChar_3b067 : Cond.code yJ2_getChar_3b067 cJ2_getChar_3b067 2 (some .char) ∈ pm_tbl := pm_in 419 (by decide +kernel) rfl
theorem kcX4_readBalloon : Cond.code yX4_readBalloon cX4_readBalloon 5 (none : Option Jvm.ClassFile.FieldType) ∈ pm_tbl := pm_in 429 (by decide +kernel) rfl
theorem kcX4_fail : Cond.code yX4_fail cX4_fail 1 (none : Option Jvm.ClassFile.FieldType) ∈ pm_tbl := pm_in 433 (by decide +kernel) rfl
theorem kcX4_number : Cond.code yX4_number cX4_number 5 (some .int) ∈ pm_tbl := pm_in 441 (by decide +kernel) rfl
theorem kcX4_passName : Cond.code yX4_passName cX4_passName 2 (none : Option Jvm.ClassFile.FieldType) ∈ pm_tbl := pm_in 447 (by decide +kernel) rfl
theorem kcX5_add : Cond.code yX5_add cX5_add 4 (none : Option Jvm.ClassFile.FieldType) ∈ pm_tbl := pm_in 451 (by decide +kernel) rfl
theorem kcX1_begin : Cond.code yX1_begin cX1_begin 4 (none : Option Jvm.ClassFile.FieldType) ∈ pm_tbl := pm_in 455 (by decide +kernel) rfl
theorem kcX4_readPart : Cond.code yX4_readPart cX4_readPart 4 (none : Option Jvm.ClassFile.FieldType) ∈ pm_tbl := pm_in 465 (by decide +kernel) rfl
theorem kcX4_readWarmth : Cond.code yX4_readWarmth cX4_readWarmth 6 (none : Option Jvm.ClassFile.FieldType) ∈ pm_tbl := pm_in 474 (by decide +kernel) rfl
theorem kcX4_passSign : Cond.code yX4_passSign cX4_passSign 2 (none : Option Jvm.ClassFile.FieldType) ∈ pm_tbl := pm_in 480 (by decide +kernel) rfl
theorem kcX5_copyFrom : Cond.code yX5_copyFrom cX5_copyFrom 3 (none : Option Jvm.ClassFile.FieldType) ∈ pm_tbl := pm_in 484 (by decide +kernel) rfl
theorem kcX1_copyFrom : Cond.code yX1_copyFrom cX1_copyFrom 2 (none : Option Jvm.ClassFile.FieldType) ∈ pm_tbl := pm_in 489 (by decide +kernel) rfl
theorem kcX7_warm : Cond.code yX7_warm cX7_warm 4 (some .int) ∈ pm_tbl := pm_in 493 (by decide +kernel) rfl
theorem kcX7_isHour : Cond.code yX7_isHour cX7_isHour 1 (some .boolean) ∈ pm_tbl := pm_in 496 (by decide +kernel) rfl
theorem kcX7_warmth : Cond.code yX7_warmth cX7_warmth 2 (some .int) ∈ pm_tbl := pm_in 500 (by decide +kernel) rfl
theorem kcX7_gap : Cond.code yX7_gap cX7_gap 3 (some .int) ∈ pm_tbl := pm_in 504 (by decide +kernel) rfl
theorem kcX7_balloon : Cond.code yX7_balloon cX7_balloon 4 (some .int) ∈ pm_tbl := pm_in 508 (by decide +kernel) rfl
theorem kcX7_fits : Cond.code yX7_fits cX7_fits 2 (some .boolean) ∈ pm_tbl := pm_in 511 (by decide +kernel) rfl
theorem kcX7_balloonOf : Cond.code yX7_balloonOf cX7_balloonOf 4 (some .int) ∈ pm_tbl := pm_in 518 (by decide +kernel) rfl
theorem kcX5_has : Cond.code yX5_has cX5_has 2 (some .boolean) ∈ pm_tbl := pm_in 522 (by decide +kernel) rfl
theorem kcX1_weight : Cond.code yX1_weight cX1_weight 1 (some .int) ∈ pm_tbl := pm_in 527 (by decide +kernel) rfl
theorem kcX5_hourNow : Cond.code yX5_hourNow cX5_hourNow 1 (some .int) ∈ pm_tbl := pm_in 531 (by decide +kernel) rfl
theorem kcX1_target : Cond.code yX1_target cX1_target 3 (some .int) ∈ pm_tbl := pm_in 535 (by decide +kernel) rfl
theorem kcX1_lift : Cond.code yX1_lift cX1_lift 3 (some .int) ∈ pm_tbl := pm_in 539 (by decide +kernel) rfl
theorem kcX7_held : Cond.code yX7_held cX7_held 3 (some .int) ∈ pm_tbl := pm_in 543 (by decide +kernel) rfl
theorem kcX1_leaks : Cond.code yX1_leaks cX1_leaks 2 (some .int) ∈ pm_tbl := pm_in 547 (by decide +kernel) rfl
theorem kcX7_becomes : Cond.code yX7_becomes cX7_becomes 6 (some .int) ∈ pm_tbl := pm_in 551 (by decide +kernel) rfl
theorem kcX7_mind : Cond.code yX7_mind cX7_mind 6 (some .int) ∈ pm_tbl := pm_in 555 (by decide +kernel) rfl
theorem kcX7_pour : Cond.code yX7_pour cX7_pour 4 (some .int) ∈ pm_tbl := pm_in 559 (by decide +kernel) rfl
theorem kcX7_give : Cond.code yX7_give cX7_give 6 (some .int) ∈ pm_tbl := pm_in 563 (by decide +kernel) rfl
theorem kcX5_canGive : Cond.code yX5_canGive cX5_canGive 5 (some .boolean) ∈ pm_tbl := pm_in 567 (by decide +kernel) rfl
theorem kcX5_reachedBy : Cond.code yX5_reachedBy cX5_reachedBy 2 (some .int) ∈ pm_tbl := pm_in 571 (by decide +kernel) rfl
theorem kcX5_nextAbove : Cond.code yX5_nextAbove cX5_nextAbove 4 (some .int) ∈ pm_tbl := pm_in 575 (by decide +kernel) rfl
theorem kcX5_shareColumn : Cond.code yX5_shareColumn cX5_shareColumn 3 (some .boolean) ∈ pm_tbl := pm_in 579 (by decide +kernel) rfl
theorem kcX5_hangsAbove : Cond.code yX5_hangsAbove cX5_hangsAbove 3 (some .boolean) ∈ pm_tbl := pm_in 583 (by decide +kernel) rfl
theorem kcX5_heightOf : Cond.code yX5_heightOf cX5_heightOf 2 (some .int) ∈ pm_tbl := pm_in 587 (by decide +kernel) rfl
theorem kcX5_inReach : Cond.code yX5_inReach cX5_inReach 3 (some .int) ∈ pm_tbl := pm_in 591 (by decide +kernel) rfl
theorem kcM_abs : Cond.code Lib.Math.abs.name Lib.Math.abs.code 1 (some .int) ∈ pm_tbl := pm_in 594 (by decide +kernel) rfl
theorem kcX5_nextBelow : Cond.code yX5_nextBelow cX5_nextBelow 4 (some .int) ∈ pm_tbl := pm_in 598 (by decide +kernel) rfl
theorem kcX7_touches : Cond.code yX7_touches cX7_touches 2 (some .int) ∈ pm_tbl := pm_in 603 (by decide +kernel) rfl
theorem kcX5_touchedBy : Cond.code yX5_touchedBy cX5_touchedBy 4 (some .int) ∈ pm_tbl := pm_in 607 (by decide +kernel) rfl
theorem kcX5_tooNear : Cond.code yX5_tooNear cX5_tooNear 3 (some .boolean) ∈ pm_tbl := pm_in 611 (by decide +kernel) rfl
theorem kcX7_above : Cond.code yX7_above cX7_above 3 (some .int) ∈ pm_tbl := pm_in 615 (by decide +kernel) rfl
theorem kcX7_hours : Cond.code yX7_hours cX7_hours 3 (some .int) ∈ pm_tbl := pm_in 621 (by decide +kernel) rfl
theorem kcX5_passHour : Cond.code yX5_passHour cX5_passHour 3 (none : Option Jvm.ClassFile.FieldType) ∈ pm_tbl := pm_in 625 (by decide +kernel) rfl
theorem kcX1_passHour : Cond.code yX1_passHour cX1_passHour 3 (none : Option Jvm.ClassFile.FieldType) ∈ pm_tbl := pm_in 630 (by decide +kernel) rfl
theorem kcM_max : Cond.code Lib.Math.max.name Lib.Math.max.code 2 (some .int) ∈ pm_tbl := pm_in 635 (by decide +kernel) rfl
theorem kcX7_clock : Cond.code yX7_clock cX7_clock 3 (some .int) ∈ pm_tbl := pm_in 639 (by decide +kernel) rfl
theorem kcX7_height : Cond.code yX7_height cX7_height 3 (some .int) ∈ pm_tbl := pm_in 643 (by decide +kernel) rfl
theorem kcX6_run : Cond.code yX6_run cX6_run 4 (none : Option Jvm.ClassFile.FieldType) ∈ pm_tbl := pm_in 647 (by decide +kernel) rfl
theorem kcX6_followWith : Cond.code yX6_followWith cX6_followWith 5 (none : Option Jvm.ClassFile.FieldType) ∈ pm_tbl := pm_in 652 (by decide +kernel) rfl
theorem kcX6_note : Cond.code yX6_note cX6_note 3 (none : Option Jvm.ClassFile.FieldType) ∈ pm_tbl := pm_in 657 (by decide +kernel) rfl
theorem kcX6_step : Cond.code yX6_step cX6_step 3 (none : Option Jvm.ClassFile.FieldType) ∈ pm_tbl := pm_in 661 (by decide +kernel) rfl
theorem kcX7_first : Cond.code yX7_first cX7_first 4 (some .int) ∈ pm_tbl := pm_in 666 (by decide +kernel) rfl
theorem kcX6_leastPair : Cond.code yX6_leastPair cX6_leastPair 4 (some .int) ∈ pm_tbl := pm_in 670 (by decide +kernel) rfl
theorem kcX6_near : Cond.code yX6_near cX6_near 4 (some .boolean) ∈ pm_tbl := pm_in 675 (by decide +kernel) rfl
theorem kcX7_clear : Cond.code yX7_clear cX7_clear 3 (some .int) ∈ pm_tbl := pm_in 680 (by decide +kernel) rfl
theorem kcX6_isClearIn : Cond.code yX6_isClearIn cX6_isClearIn 4 (some .boolean) ∈ pm_tbl := pm_in 684 (by decide +kernel) rfl
theorem kcX6_touchedIn : Cond.code yX6_touchedIn cX6_touchedIn 6 (some .int) ∈ pm_tbl := pm_in 688 (by decide +kernel) rfl
theorem kcX7_leastSand : Cond.code yX7_leastSand cX7_leastSand 5 (some .int) ∈ pm_tbl := pm_in 692 (by decide +kernel) rfl
theorem kcX6_isClearWith : Cond.code yX6_isClearWith cX6_isClearWith 6 (some .boolean) ∈ pm_tbl := pm_in 696 (by decide +kernel) rfl
theorem kcX7_ropeFor : Cond.code yX7_ropeFor cX7_ropeFor 4 (some .int) ∈ pm_tbl := pm_in 700 (by decide +kernel) rfl
theorem kcX7_columnFor : Cond.code yX7_columnFor cX7_columnFor 4 (some .int) ∈ pm_tbl := pm_in 704 (by decide +kernel) rfl
theorem kcX7_lasts : Cond.code yX7_lasts cX7_lasts 4 (some .int) ∈ pm_tbl := pm_in 708 (by decide +kernel) rfl
theorem kcX7_reached : Cond.code yX7_reached cX7_reached 2 (some .int) ∈ pm_tbl := pm_in 712 (by decide +kernel) rfl
theorem kcX7_help : Cond.code yX7_help cX7_help 7 (some .int) ∈ pm_tbl := pm_in 717 (by decide +kernel) rfl
theorem kcX6_pairsWithGift : Cond.code yX6_pairsWithGift cX6_pairsWithGift 7 (some .int) ∈ pm_tbl := pm_in 721 (by decide +kernel) rfl
theorem kcX6_pairsToCome : Cond.code yX6_pairsToCome cX6_pairsToCome 4 (some .int) ∈ pm_tbl := pm_in 725 (by decide +kernel) rfl
theorem kcX7_cold : Cond.code yX7_cold cX7_cold 2 (some .int) ∈ pm_tbl := pm_in 729 (by decide +kernel) rfl
theorem kcX6_isClearForAll : Cond.code yX6_isClearForAll cX6_isClearForAll 2 (some .boolean) ∈ pm_tbl := pm_in 733 (by decide +kernel) rfl
theorem kcX7_highest : Cond.code yX7_highest cX7_highest 4 (some .int) ∈ pm_tbl := pm_in 738 (by decide +kernel) rfl
theorem kcX7_seed : Cond.code yX7_seed cX7_seed 3 (some .int) ∈ pm_tbl := pm_in 742 (by decide +kernel) rfl
theorem kcX7_draw : Cond.code yX7_draw cX7_draw 2 (some .int) ∈ pm_tbl := pm_in 746 (by decide +kernel) rfl
theorem kcX7_prove : Cond.code yX7_prove cX7_prove 5 (some .int) ∈ pm_tbl := pm_in 751 (by decide +kernel) rfl
theorem kcX6_rowPart : Cond.code yX6_rowPart cX6_rowPart 4 (some .int) ∈ pm_tbl := pm_in 755 (by decide +kernel) rfl
theorem kcX7_row : Cond.code yX7_row cX7_row 3 (some .int) ∈ pm_tbl := pm_in 759 (by decide +kernel) rfl
theorem kcX7_isRowPart : Cond.code yX7_isRowPart cX7_isRowPart 3 (some .boolean) ∈ pm_tbl := pm_in 763 (by decide +kernel) rfl
theorem kcX7_alterRow : Cond.code yX7_alterRow cX7_alterRow 5 (some .int) ∈ pm_tbl := pm_in 767 (by decide +kernel) rfl
theorem kcX7_judge : Cond.code yX7_judge cX7_judge 3 (some .int) ∈ pm_tbl := pm_in 771 (by decide +kernel) rfl
theorem kcX7_isRowRight : Cond.code yX7_isRowRight cX7_isRowRight 4 (some .boolean) ∈ pm_tbl := pm_in 775 (by decide +kernel) rfl
theorem kcX7_warms : Cond.code yX7_warms cX7_warms 7 (some .int) ∈ pm_tbl := pm_in 779 (by decide +kernel) rfl
theorem kcX7_isSheet : Cond.code yX7_isSheet cX7_isSheet 1 (some .boolean) ∈ pm_tbl := pm_in 782 (by decide +kernel) rfl
theorem kcX7_sheet : Cond.code yX7_sheet cX7_sheet 4 (some .int) ∈ pm_tbl := pm_in 787 (by decide +kernel) rfl
theorem kcX2_becomeRow : Cond.code yX2_becomeRow cX2_becomeRow 4 (none : Option Jvm.ClassFile.FieldType) ∈ pm_tbl := pm_in 791 (by decide +kernel) rfl
theorem kcX7_put : Cond.code yX7_put cX7_put 5 (some .int) ∈ pm_tbl := pm_in 795 (by decide +kernel) rfl
theorem kcX2_narrowed : Cond.code yX2_narrowed cX2_narrowed 2 (some .int) ∈ pm_tbl := pm_in 799 (by decide +kernel) rfl
theorem kcX7_item : Cond.code yX7_item cX7_item 5 (some .int) ∈ pm_tbl := pm_in 803 (by decide +kernel) rfl
theorem kcX7_shelf : Cond.code yX7_shelf cX7_shelf 4 (some .int) ∈ pm_tbl := pm_in 807 (by decide +kernel) rfl
theorem kcX7_isShelf : Cond.code yX7_isShelf cX7_isShelf 1 (some .boolean) ∈ pm_tbl := pm_in 810 (by decide +kernel) rfl
theorem kcX3_holdBalloon : Cond.code yX3_holdBalloon cX3_holdBalloon 2 (none : Option Jvm.ClassFile.FieldType) ∈ pm_tbl := pm_in 814 (by decide +kernel) rfl
theorem kcX3_holdRow : Cond.code yX3_holdRow cX3_holdRow 2 (none : Option Jvm.ClassFile.FieldType) ∈ pm_tbl := pm_in 818 (by decide +kernel) rfl
theorem kcX7_taken : Cond.code yX7_taken cX7_taken 7 (some .int) ∈ pm_tbl := pm_in 822 (by decide +kernel) rfl
theorem kcX7_holdsBalloon : Cond.code yX7_holdsBalloon cX7_holdsBalloon 2 (some .boolean) ∈ pm_tbl := pm_in 826 (by decide +kernel) rfl
theorem kcX7_isUnder : Cond.code yX7_isUnder cX7_isUnder 4 (some .boolean) ∈ pm_tbl := pm_in 829 (by decide +kernel) rfl
theorem kcX7_act : Cond.code yX7_act cX7_act 5 (some .int) ∈ pm_tbl := pm_in 835 (by decide +kernel) rfl
theorem kcX0_forget : Cond.code yX0_forget cX0_forget 1 (none : Option Jvm.ClassFile.FieldType) ∈ pm_tbl := pm_in 839 (by decide +kernel) rfl
theorem kcX0_answer : Cond.code yX0_answer cX0_answer 6 (some .int) ∈ pm_tbl := pm_in 843 (by decide +kernel) rfl
theorem kcX0_lifts : Cond.code yX0_lifts cX0_lifts 2 (some .int) ∈ pm_tbl := pm_in 847 (by decide +kernel) rfl
theorem kcX0_begin : Cond.code yX0_begin cX0_begin 2 (none : Option Jvm.ClassFile.FieldType) ∈ pm_tbl := pm_in 851 (by decide +kernel) rfl
theorem kcX0_sinks : Cond.code yX0_sinks cX0_sinks 2 (some .int) ∈ pm_tbl := pm_in 855 (by decide +kernel) rfl
theorem kcX0_shares : Cond.code yX0_shares cX0_shares 2 (some .int) ∈ pm_tbl := pm_in 859 (by decide +kernel) rfl
theorem kcX0_parted : Cond.code yX0_parted cX0_parted 2 (some .int) ∈ pm_tbl := pm_in 863 (by decide +kernel) rfl
theorem kcX0_tells : Cond.code yX0_tells cX0_tells 2 (some .int) ∈ pm_tbl := pm_in 867 (by decide +kernel) rfl
theorem kcX7_trace : Cond.code yX7_trace cX7_trace 2 (some .int) ∈ pm_tbl := pm_in 871 (by decide +kernel) rfl
theorem kcX7_many : Cond.code yX7_many cX7_many 2 (some .int) ∈ pm_tbl := pm_in 875 (by decide +kernel) rfl
theorem kcX5_touchingPairs : Cond.code yX5_touchingPairs cX5_touchingPairs 3 (some .int) ∈ pm_tbl := pm_in 879 (by decide +kernel) rfl
theorem kcJ6_bitCount_0f7a4 : Cond.code yJ6_bitCount_0f7a4 cJ6_bitCount_0f7a4 1 (some .int) ∈ pm_tbl := pm_in 883 (by decide +kernel) rfl
theorem kcX7_keep : Cond.code yX7_keep cX7_keep 1 (some .int) ∈ pm_tbl := pm_in 890 (by decide +kernel) rfl
theorem kcX7_again : Cond.code yX7_again cX7_again 1 (some .int) ∈ pm_tbl := pm_in 894 (by decide +kernel) rfl
theorem kcX8_init : Cond.code yX8_init cX8_init 1 (none : Option Jvm.ClassFile.FieldType) ∈ pm_tbl := pm_in 899 (by decide +kernel) rfl
theorem kcX8_feed : Cond.code yX8_feed cX8_feed 5 (some .int) ∈ pm_tbl := pm_in 1035 (by decide +kernel) rfl
theorem kcX8_in : Cond.code yX8_in cX8_in 3 (some .boolean) ∈ pm_tbl := pm_in 1038 (by decide +kernel) rfl
theorem kcX8_town : Cond.code yX8_town cX8_town 2 (some .int) ∈ pm_tbl := pm_in 1043 (by decide +kernel) rfl
theorem kcX8_advance : Cond.code yX8_advance cX8_advance 2 (none : Option Jvm.ClassFile.FieldType) ∈ pm_tbl := pm_in 1047 (by decide +kernel) rfl
theorem kcX8_byteAt : Cond.code yX8_byteAt cX8_byteAt 2 (some .int) ∈ pm_tbl := pm_in 1051 (by decide +kernel) rfl
theorem kcX8_isLetter : Cond.code yX8_isLetter cX8_isLetter 1 (some .boolean) ∈ pm_tbl := pm_in 1054 (by decide +kernel) rfl
theorem kcX8_isDigit : Cond.code yX8_isDigit cX8_isDigit 1 (some .boolean) ∈ pm_tbl := pm_in 1057 (by decide +kernel) rfl
theorem kcX8_wantClause : Cond.code yX8_wantClause cX8_wantClause 1 (none : Option Jvm.ClassFile.FieldType) ∈ pm_tbl := pm_in 1064 (by decide +kernel) rfl
theorem kcX8_kindHere : Cond.code yX8_kindHere cX8_kindHere 1 (some .int) ∈ pm_tbl := pm_in 1068 (by decide +kernel) rfl
theorem kcX8_isWord : Cond.code yX8_isWord cX8_isWord 3 (some .boolean) ∈ pm_tbl := pm_in 1073 (by decide +kernel) rfl
theorem kcX8_wantBalloon : Cond.code yX8_wantBalloon cX8_wantBalloon 10 (none : Option Jvm.ClassFile.FieldType) ∈ pm_tbl := pm_in 1082 (by decide +kernel) rfl
theorem kcX8_wantNumber : Cond.code yX8_wantNumber cX8_wantNumber 4 (some .int) ∈ pm_tbl := pm_in 1086 (by decide +kernel) rfl
theorem kcX8_mayWant : Cond.code yX8_mayWant cX8_mayWant 6 (some .int) ∈ pm_tbl := pm_in 1092 (by decide +kernel) rfl
theorem kcX8_wantEnd : Cond.code yX8_wantEnd cX8_wantEnd 1 (none : Option Jvm.ClassFile.FieldType) ∈ pm_tbl := pm_in 1100 (by decide +kernel) rfl
theorem kcX8_isMark : Cond.code yX8_isMark cX8_isMark 2 (some .boolean) ∈ pm_tbl := pm_in 1104 (by decide +kernel) rfl
theorem kcX8_wantWarmth : Cond.code yX8_wantWarmth cX8_wantWarmth 4 (none : Option Jvm.ClassFile.FieldType) ∈ pm_tbl := pm_in 1110 (by decide +kernel) rfl
theorem kcX8_warmth : Cond.code yX8_warmth cX8_warmth 2 (some .int) ∈ pm_tbl := pm_in 1115 (by decide +kernel) rfl
theorem kcX8_isHour : Cond.code yX8_isHour cX8_isHour 1 (some .boolean) ∈ pm_tbl := pm_in 1118 (by decide +kernel) rfl
theorem kcX8_warm : Cond.code yX8_warm cX8_warm 4 (some .int) ∈ pm_tbl := pm_in 1122 (by decide +kernel) rfl
theorem kcX8_isWarmth : Cond.code yX8_isWarmth cX8_isWarmth 1 (some .boolean) ∈ pm_tbl := pm_in 1125 (by decide +kernel) rfl
theorem kcX8_gap : Cond.code yX8_gap cX8_gap 3 (some .int) ∈ pm_tbl := pm_in 1129 (by decide +kernel) rfl
theorem kcX8_balloon : Cond.code yX8_balloon cX8_balloon 5 (some .int) ∈ pm_tbl := pm_in 1133 (by decide +kernel) rfl
theorem kcX8_isKind : Cond.code yX8_isKind cX8_isKind 2 (some .boolean) ∈ pm_tbl := pm_in 1136 (by decide +kernel) rfl
theorem kcX8_sets : Cond.code yX8_sets cX8_sets 4 (none : Option Jvm.ClassFile.FieldType) ∈ pm_tbl := pm_in 1140 (by decide +kernel) rfl
theorem kcX8_balloonOf : Cond.code yX8_balloonOf cX8_balloonOf 3 (some .int) ∈ pm_tbl := pm_in 1144 (by decide +kernel) rfl
theorem kcX8_isBalloon : Cond.code yX8_isBalloon cX8_isBalloon 2 (some .boolean) ∈ pm_tbl := pm_in 1148 (by decide +kernel) rfl
theorem kcX8_weight : Cond.code yX8_weight cX8_weight 2 (some .int) ∈ pm_tbl := pm_in 1152 (by decide +kernel) rfl
theorem kcX8_its : Cond.code yX8_its cX8_its 3 (some .int) ∈ pm_tbl := pm_in 1156 (by decide +kernel) rfl
theorem kcX8_target : Cond.code yX8_target cX8_target 3 (some .int) ∈ pm_tbl := pm_in 1160 (by decide +kernel) rfl
theorem kcX8_lift : Cond.code yX8_lift cX8_lift 5 (some .int) ∈ pm_tbl := pm_in 1164 (by decide +kernel) rfl
theorem kcX8_hourNow : Cond.code yX8_hourNow cX8_hourNow 1 (some .int) ∈ pm_tbl := pm_in 1168 (by decide +kernel) rfl
theorem kcX8_leaks : Cond.code yX8_leaks cX8_leaks 2 (some .int) ∈ pm_tbl := pm_in 1172 (by decide +kernel) rfl
theorem kcX8_becomes : Cond.code yX8_becomes cX8_becomes 5 (some .int) ∈ pm_tbl := pm_in 1176 (by decide +kernel) rfl
theorem kcX8_isPart : Cond.code yX8_isPart cX8_isPart 2 (some .boolean) ∈ pm_tbl := pm_in 1179 (by decide +kernel) rfl
theorem kcX8_mind : Cond.code yX8_mind cX8_mind 5 (some .int) ∈ pm_tbl := pm_in 1183 (by decide +kernel) rfl
theorem kcX8_pour : Cond.code yX8_pour cX8_pour 3 (some .int) ∈ pm_tbl := pm_in 1187 (by decide +kernel) rfl
theorem kcX8_above : Cond.code yX8_above cX8_above 3 (some .int) ∈ pm_tbl := pm_in 1191 (by decide +kernel) rfl
theorem kcX8_nextTo : Cond.code yX8_nextTo cX8_nextTo 6 (some .int) ∈ pm_tbl := pm_in 1195 (by decide +kernel) rfl
theorem kcX8_isOver : Cond.code yX8_isOver cX8_isOver 5 (some .boolean) ∈ pm_tbl := pm_in 1199 (by decide +kernel) rfl
theorem kcX8_reached : Cond.code yX8_reached cX8_reached 2 (some .int) ∈ pm_tbl := pm_in 1203 (by decide +kernel) rfl
theorem kcX8_reach : Cond.code yX8_reach cX8_reach 5 (some .int) ∈ pm_tbl := pm_in 1207 (by decide +kernel) rfl
theorem kcX8_apart : Cond.code yX8_apart cX8_apart 4 (some .int) ∈ pm_tbl := pm_in 1211 (by decide +kernel) rfl
theorem kcX8_give : Cond.code yX8_give cX8_give 6 (some .int) ∈ pm_tbl := pm_in 1215 (by decide +kernel) rfl
theorem kcX8_canGive : Cond.code yX8_canGive cX8_canGive 5 (some .boolean) ∈ pm_tbl := pm_in 1219 (by decide +kernel) rfl
theorem kcX8_gives : Cond.code yX8_gives cX8_gives 5 (none : Option Jvm.ClassFile.FieldType) ∈ pm_tbl := pm_in 1223 (by decide +kernel) rfl
theorem kcX8_touches : Cond.code yX8_touches cX8_touches 2 (some .int) ∈ pm_tbl := pm_in 1227 (by decide +kernel) rfl
theorem kcX8_touchSet : Cond.code yX8_touchSet cX8_touchSet 4 (some .int) ∈ pm_tbl := pm_in 1231 (by decide +kernel) rfl
theorem kcX8_isTouch : Cond.code yX8_isTouch cX8_isTouch 3 (some .boolean) ∈ pm_tbl := pm_in 1235 (by decide +kernel) rfl
theorem kcX8_hours : Cond.code yX8_hours cX8_hours 2 (some .int) ∈ pm_tbl := pm_in 1239 (by decide +kernel) rfl
theorem kcX8_isTrial : Cond.code yX8_isTrial cX8_isTrial 1 (some .boolean) ∈ pm_tbl := pm_in 1242 (by decide +kernel) rfl
theorem kcX8_go : Cond.code yX8_go cX8_go 3 (none : Option Jvm.ClassFile.FieldType) ∈ pm_tbl := pm_in 1246 (by decide +kernel) rfl
theorem kcX8_goesOn : Cond.code yX8_goesOn cX8_goesOn 2 (some .boolean) ∈ pm_tbl := pm_in 1250 (by decide +kernel) rfl
theorem kcX8_hourGoes : Cond.code yX8_hourGoes cX8_hourGoes 4 (none : Option Jvm.ClassFile.FieldType) ∈ pm_tbl := pm_in 1254 (by decide +kernel) rfl
theorem kcX8_nearer : Cond.code yX8_nearer cX8_nearer 2 (some .int) ∈ pm_tbl := pm_in 1257 (by decide +kernel) rfl
theorem kcX8_clock : Cond.code yX8_clock cX8_clock 3 (some .int) ∈ pm_tbl := pm_in 1261 (by decide +kernel) rfl
theorem kcX8_height : Cond.code yX8_height cX8_height 4 (some .int) ∈ pm_tbl := pm_in 1265 (by decide +kernel) rfl
theorem kcX8_lends : Cond.code yX8_lends cX8_lends 2 (none : Option Jvm.ClassFile.FieldType) ∈ pm_tbl := pm_in 1269 (by decide +kernel) rfl
theorem kcX8_first : Cond.code yX8_first cX8_first 4 (some .int) ∈ pm_tbl := pm_in 1273 (by decide +kernel) rfl
theorem kcX8_firstPair : Cond.code yX8_firstPair cX8_firstPair 3 (some .int) ∈ pm_tbl := pm_in 1277 (by decide +kernel) rfl
theorem kcX8_clear : Cond.code yX8_clear cX8_clear 3 (some .int) ∈ pm_tbl := pm_in 1281 (by decide +kernel) rfl
theorem kcX8_isClearWith : Cond.code yX8_isClearWith cX8_isClearWith 6 (some .boolean) ∈ pm_tbl := pm_in 1285 (by decide +kernel) rfl
theorem kcX8_isClear : Cond.code yX8_isClear cX8_isClear 5 (some .boolean) ∈ pm_tbl := pm_in 1289 (by decide +kernel) rfl
theorem kcX8_leastSand : Cond.code yX8_leastSand cX8_leastSand 5 (some .int) ∈ pm_tbl := pm_in 1293 (by decide +kernel) rfl
theorem kcX8_isSoon : Cond.code yX8_isSoon cX8_isSoon 1 (some .boolean) ∈ pm_tbl := pm_in 1296 (by decide +kernel) rfl
theorem kcX8_ropeFor : Cond.code yX8_ropeFor cX8_ropeFor 4 (some .int) ∈ pm_tbl := pm_in 1300 (by decide +kernel) rfl
theorem kcX8_columnFor : Cond.code yX8_columnFor cX8_columnFor 4 (some .int) ∈ pm_tbl := pm_in 1304 (by decide +kernel) rfl
theorem kcX8_lasts : Cond.code yX8_lasts cX8_lasts 4 (some .int) ∈ pm_tbl := pm_in 1308 (by decide +kernel) rfl
theorem kcX8_help : Cond.code yX8_help cX8_help 8 (some .int) ∈ pm_tbl := pm_in 1312 (by decide +kernel) rfl
theorem kcX8_pairsBehind : Cond.code yX8_pairsBehind cX8_pairsBehind 4 (some .int) ∈ pm_tbl := pm_in 1316 (by decide +kernel) rfl
theorem kcX8_pairs : Cond.code yX8_pairs cX8_pairs 3 (some .int) ∈ pm_tbl := pm_in 1320 (by decide +kernel) rfl
theorem kcX8_ones : Cond.code yX8_ones cX8_ones 3 (some .int) ∈ pm_tbl := pm_in 1323 (by decide +kernel) rfl
theorem kcX8_cold : Cond.code yX8_cold cX8_cold 3 (some .int) ∈ pm_tbl := pm_in 1327 (by decide +kernel) rfl
theorem kcX8_highest : Cond.code yX8_highest cX8_highest 4 (some .int) ∈ pm_tbl := pm_in 1331 (by decide +kernel) rfl
theorem kcX8_seed : Cond.code yX8_seed cX8_seed 3 (some .int) ∈ pm_tbl := pm_in 1335 (by decide +kernel) rfl
theorem kcX8_draw : Cond.code yX8_draw cX8_draw 2 (some .int) ∈ pm_tbl := pm_in 1339 (by decide +kernel) rfl
theorem kcX8_prove : Cond.code yX8_prove cX8_prove 4 (some .int) ∈ pm_tbl := pm_in 1344 (by decide +kernel) rfl
theorem kcX8_findRows : Cond.code yX8_findRows cX8_findRows 3 (none : Option Jvm.ClassFile.FieldType) ∈ pm_tbl := pm_in 1348 (by decide +kernel) rfl
theorem kcX8_row : Cond.code yX8_row cX8_row 3 (some .int) ∈ pm_tbl := pm_in 1352 (by decide +kernel) rfl
theorem kcX8_isRow : Cond.code yX8_isRow cX8_isRow 3 (some .boolean) ∈ pm_tbl := pm_in 1356 (by decide +kernel) rfl
theorem kcX8_alterRow : Cond.code yX8_alterRow cX8_alterRow 5 (some .int) ∈ pm_tbl := pm_in 1360 (by decide +kernel) rfl
theorem kcX8_judge : Cond.code yX8_judge cX8_judge 5 (some .int) ∈ pm_tbl := pm_in 1364 (by decide +kernel) rfl
theorem kcX8_warms : Cond.code yX8_warms cX8_warms 9 (some .int) ∈ pm_tbl := pm_in 1368 (by decide +kernel) rfl
theorem kcX8_isShelf : Cond.code yX8_isShelf cX8_isShelf 1 (some .boolean) ∈ pm_tbl := pm_in 1371 (by decide +kernel) rfl
theorem kcX8_lacksSort : Cond.code yX8_lacksSort cX8_lacksSort 3 (some .int) ∈ pm_tbl := pm_in 1375 (by decide +kernel) rfl
theorem kcX8_sheet : Cond.code yX8_sheet cX8_sheet 5 (some .int) ∈ pm_tbl := pm_in 1381 (by decide +kernel) rfl
theorem kcX8_put : Cond.code yX8_put cX8_put 4 (some .int) ∈ pm_tbl := pm_in 1385 (by decide +kernel) rfl
theorem kcX8_item : Cond.code yX8_item cX8_item 5 (some .int) ∈ pm_tbl := pm_in 1389 (by decide +kernel) rfl
theorem kcX8_shelf : Cond.code yX8_shelf cX8_shelf 4 (some .int) ∈ pm_tbl := pm_in 1393 (by decide +kernel) rfl
theorem kcX8_isHeld : Cond.code yX8_isHeld cX8_isHeld 3 (some .boolean) ∈ pm_tbl := pm_in 1397 (by decide +kernel) rfl
theorem kcX8_taken : Cond.code yX8_taken cX8_taken 4 (some .int) ∈ pm_tbl := pm_in 1401 (by decide +kernel) rfl
theorem kcX8_kindOn : Cond.code yX8_kindOn cX8_kindOn 2 (some .int) ∈ pm_tbl := pm_in 1405 (by decide +kernel) rfl
theorem kcX8_isUnder : Cond.code yX8_isUnder cX8_isUnder 2 (some .boolean) ∈ pm_tbl := pm_in 1408 (by decide +kernel) rfl
theorem kcX8_act : Cond.code yX8_act cX8_act 6 (some .int) ∈ pm_tbl := pm_in 1412 (by decide +kernel) rfl
theorem kcX8_liftsIt : Cond.code yX8_liftsIt cX8_liftsIt 2 (some .int) ∈ pm_tbl := pm_in 1416 (by decide +kernel) rfl
theorem kcX8_leakyLifts : Cond.code yX8_leakyLifts cX8_leakyLifts 2 (some .int) ∈ pm_tbl := pm_in 1420 (by decide +kernel) rfl
theorem kcX8_ran : Cond.code yX8_ran cX8_ran 2 (none : Option Jvm.ClassFile.FieldType) ∈ pm_tbl := pm_in 1424 (by decide +kernel) rfl
theorem kcX8_plainLifts : Cond.code yX8_plainLifts cX8_plainLifts 2 (some .int) ∈ pm_tbl := pm_in 1428 (by decide +kernel) rfl
theorem kcX8_sinksIt : Cond.code yX8_sinksIt cX8_sinksIt 3 (some .int) ∈ pm_tbl := pm_in 1432 (by decide +kernel) rfl
theorem kcX8_plainSinks : Cond.code yX8_plainSinks cX8_plainSinks 2 (some .int) ∈ pm_tbl := pm_in 1436 (by decide +kernel) rfl
theorem kcX8_sharesIt : Cond.code yX8_sharesIt cX8_sharesIt 3 (some .int) ∈ pm_tbl := pm_in 1440 (by decide +kernel) rfl
theorem kcX8_plainShares : Cond.code yX8_plainShares cX8_plainShares 2 (some .int) ∈ pm_tbl := pm_in 1444 (by decide +kernel) rfl
theorem kcX8_tellsIt : Cond.code yX8_tellsIt cX8_tellsIt 3 (some .int) ∈ pm_tbl := pm_in 1448 (by decide +kernel) rfl
theorem kcX8_plainTells : Cond.code yX8_plainTells cX8_plainTells 2 (some .int) ∈ pm_tbl := pm_in 1452 (by decide +kernel) rfl
theorem kcX8_trace : Cond.code yX8_trace cX8_trace 2 (some .int) ∈ pm_tbl := pm_in 1456 (by decide +kernel) rfl
theorem kcX8_many : Cond.code yX8_many cX8_many 2 (some .int) ∈ pm_tbl := pm_in 1460 (by decide +kernel) rfl
theorem kcX8_keep : Cond.code yX8_keep cX8_keep 1 (some .int) ∈ pm_tbl := pm_in 1464 (by decide +kernel) rfl
theorem kcX8_moveAll : Cond.code yX8_moveAll cX8_moveAll 2 (none : Option Jvm.ClassFile.FieldType) ∈ pm_tbl := pm_in 1468 (by decide +kernel) rfl
theorem kcX8_moveRow : Cond.code yX8_moveRow cX8_moveRow 5 (none : Option Jvm.ClassFile.FieldType) ∈ pm_tbl := pm_in 1472 (by decide +kernel) rfl
theorem kcX8_again : Cond.code yX8_again cX8_again 1 (some .int) ∈ pm_tbl := pm_in 1476 (by decide +kernel) rfl
theorem lmL_9 : pm_lI RL 9 yX7_init 0 := ⟨⟨rfl, by decide, by decide, by decide +kernel⟩, Or.inl (pm_in 99 (by decide +kernel) rfl), pm_in 100 (by decide +kernel) rfl, pm_in 81 (by decide +kernel) rfl⟩
theorem loX7_1 : Cond.methodLink RX7 1 Lib.objectInit ∈ pm_tbl := pm_in 102 (by decide +kernel) rfl
theorem lmX7_9 : pm_lI RX7 9 yX5_init 0 := ⟨⟨rfl, by decide, by decide, by decide +kernel⟩, Or.inl (pm_in 107 (by decide +kernel) rfl), pm_in 108 (by decide +kernel) rfl, pm_in 82 (by decide +kernel) rfl⟩
theorem loX5_3 : Cond.methodLink RX5 3 Lib.objectInit ∈ pm_tbl := pm_in 110 (by decide +kernel) rfl
theorem lmX5_34 : pm_lI RX5 34 yX1_init 0 := ⟨⟨rfl, by decide, by decide, by decide +kernel⟩, Or.inr (by decide +kernel), pm_in 115 (by decide +kernel) rfl, pm_in 83 (by decide +kernel) rfl⟩
theorem loX1_3 : Cond.methodLink RX1 3 Lib.objectInit ∈ pm_tbl := pm_in 117 (by decide +kernel) rfl
theorem lmX7_28 : pm_lI RX7 28 yX4_init 0 := ⟨⟨rfl, by decide, by decide, by decide +kernel⟩, Or.inr (by decide +kernel), pm_in 164 (by decide +kernel) rfl, pm_in 84 (by decide +kernel) rfl⟩
theorem loX4_3 : Cond.methodLink RX4 3 Lib.objectInit ∈ pm_tbl := pm_in 166 (by decide +kernel) rfl
theorem lmX7_35 : pm_lI RX7 35 yX6_init 1 := ⟨⟨rfl, by decide, by decide, by decide +kernel⟩, Or.inl (pm_in 190 (by decide +kernel) rfl), pm_in 191 (by decide +kernel) rfl, pm_in 85 (by decide +kernel) rfl⟩
theorem loX6_3 : Cond.methodLink RX6 3 Lib.objectInit ∈ pm_tbl := pm_in 193 (by decide +kernel) rfl
theorem lmX6_11 : pm_lI RX6 11 yX1_init 0 := ⟨⟨rfl, by decide, by decide, by decide +kernel⟩, Or.inr (by decide +kernel), pm_in 115 (by decide +kernel) rfl, pm_in 83 (by decide +kernel) rfl⟩
theorem lmX7_65 : pm_lI RX7 65 yX0_init 0 := ⟨⟨rfl, by decide, by decide, by decide +kernel⟩, Or.inr (by decide +kernel), pm_in 227 (by decide +kernel) rfl, pm_in 86 (by decide +kernel) rfl⟩
theorem loX0_3 : Cond.methodLink RX0 3 Lib.objectInit ∈ pm_tbl := pm_in 229 (by decide +kernel) rfl
theorem lmX7_70 : pm_lI RX7 70 yX2_init 0 := ⟨⟨rfl, by decide, by decide, by decide +kernel⟩, Or.inr (by decide +kernel), pm_in 253 (by decide +kernel) rfl, pm_in 87 (by decide +kernel) rfl⟩
theorem loX2_3 : Cond.methodLink RX2 3 Lib.objectInit ∈ pm_tbl := pm_in 255 (by decide +kernel) rfl
theorem lmX7_71 : pm_lI RX7 71 yX3_init 0 := ⟨⟨rfl, by decide, by decide, by decide +kernel⟩, Or.inr (by decide +kernel), pm_in 273 (by decide +kernel) rfl, pm_in 88 (by decide +kernel) rfl⟩
theorem loX3_3 : Cond.methodLink RX3 3 Lib.objectInit ∈ pm_tbl := pm_in 275 (by decide +kernel) rfl
theorem lmL_15 : pm_lV RL 15 yX7_feed 7 2 := ⟨_, _, _, rfl, ⟨rfl, by decide, by decide, by decide +kernel⟩, pm_in 327 (by decide +kernel) rfl, pm_in 328 (by decide +kernel) rfl, pm_in 329 (by decide +kernel) rfl, pm_in 81 (by decide +kernel) rfl⟩
theorem lmX7_72 : pm_lS RX7 72 yX7_within 3 := ⟨⟨by decide, by decide, by decide +kernel⟩, pm_in 331 (by decide +kernel) rfl, pm_in 332 (by decide +kernel) rfl, pm_in 81 (by decide +kernel) rfl⟩
theorem lmX7_79 : pm_lV RX7 79 yX4_take 4 2 := ⟨_, _, _, rfl, ⟨rfl, by decide, by decide, by decide +kernel⟩, pm_in 334 (by decide +kernel) rfl, pm_in 335 (by decide +kernel) rfl, pm_in 336 (by decide +kernel) rfl, pm_in 84 (by decide +kernel) rfl⟩
theorem lmL_20 : pm_lV RL 20 yX7_town 7 0 := ⟨_, _, _, rfl, ⟨rfl, by decide, by decide, by decide +kernel⟩, pm_in 338 (by decide +kernel) rfl, pm_in 339 (by decide +kernel) rfl, pm_in 340 (by decide +kernel) rfl, pm_in 81 (by decide +kernel) rfl⟩
theorem lmX7_83 : pm_lV RX7 83 yX4_readInto 4 1 := ⟨_, _, _, rfl, ⟨rfl, by decide, by decide, by decide +kernel⟩, pm_in 342 (by decide +kernel) rfl, pm_in 343 (by decide +kernel) rfl, pm_in 344 (by decide +kernel) rfl, pm_in 84 (by decide +kernel) rfl⟩
theorem lmX4_31 : pm_lV RX4 31 yX5_becomeEmpty 5 0 := ⟨_, _, _, rfl, ⟨rfl, by decide, by decide, by decide +kernel⟩, pm_in 346 (by decide +kernel) rfl, pm_in 347 (by decide +kernel) rfl, pm_in 348 (by decide +kernel) rfl, pm_in 82 (by decide +kernel) rfl⟩
theorem lmX4_36 : pm_lV RX4 36 yX4_advance 4 0 := ⟨_, _, _, rfl, ⟨rfl, by decide, by decide, by decide +kernel⟩, pm_in 350 (by decide +kernel) rfl, pm_in 352 (by decide +kernel) rfl, pm_in 0 (by decide +kernel) rfl, pm_in 84 (by decide +kernel) rfl⟩
theorem lmX4_149 : pm_lV RX4 149 yX4_sortAt 4 1 := ⟨_, _, _, rfl, ⟨rfl, by decide, by decide, by decide +kernel⟩, pm_in 354 (by decide +kernel) rfl, pm_in 356 (by decide +kernel) rfl, pm_in 1 (by decide +kernel) rfl, pm_in 84 (by decide +kernel) rfl⟩
theorem ljX4_153 : Cond.methodLink RX4 153 Lib.Math.min.name ∈ pm_tbl := pm_in 358 (by decide +kernel) rfl
theorem lmX4_39 : pm_lV RX4 39 yX4_kindHere 4 0 := ⟨_, _, _, rfl, ⟨rfl, by decide, by decide, by decide +kernel⟩, pm_in 361 (by decide +kernel) rfl, pm_in 363 (by decide +kernel) rfl, pm_in 2 (by decide +kernel) rfl, pm_in 84 (by decide +kernel) rfl⟩
theorem lmX4_120 : pm_lS RX4 120 yX4_nameOf 1 := ⟨⟨by decide, by decide, by decide +kernel⟩, pm_in 365 (by decide +kernel) rfl, pm_in 366 (by decide +kernel) rfl, pm_in 84 (by decide +kernel) rfl⟩
theorem lmX4_49 : pm_lV RX4 49 yX4_isName 4 1 := ⟨_, _, _, rfl, ⟨rfl, by decide, by decide, by decide +kernel⟩, pm_in 374 (by decide +kernel) rfl, pm_in 376 (by decide +kernel) rfl, pm_in 3 (by decide +kernel) rfl, pm_in 84 (by decide +kernel) rfl⟩
theorem lmJ0_495 : pm_lS RJ0 495 yJ1_charAt_3b067 2 := ⟨⟨by decide, by decide, by decide +kernel⟩, pm_in 396 (by decide +kernel) rfl, pm_in 397 (by decide +kernel) rfl, pm_in 92 (by decide +kernel) rfl⟩
theorem lmJ1_9 : pm_lS RJ1 9 yJ0_checkIndex_df160 2 := ⟨⟨by decide, by decide, by decide +kernel⟩, pm_in 399 (by decide +kernel) rfl, pm_in 400 (by decide +kernel) rfl, pm_in 91 (by decide +kernel) rfl⟩
theorem lmJ0_1059 : pm_lS RJ0 1059 yJ3_checkIndex_8e157 3 := ⟨⟨by decide, by decide, by decide +kernel⟩, pm_in 404 (by decide +kernel) rfl, pm_in 405 (by decide +kernel) rfl, pm_in 93 (by decide +kernel) rfl⟩
theorem lmJ0_498 : pm_lS RJ0 498 yJ2_charAt_3b067 2 := ⟨⟨by decide, by decide, by decide +kernel⟩, pm_in 407 (by decide +kernel) rfl, pm_in 408 (by decide +kernel) rfl, pm_in 94 (by decide +kernel) rfl⟩
theorem lmJ2_67 : pm_lS RJ2 67 yJ2_checkIndex_2214a 2 := ⟨⟨by decide, by decide, by decide +kernel⟩, pm_in 410 (by decide +kernel) rfl, pm_in 411 (by decide +kernel) rfl, pm_in 94 (by decide +kernel) rfl⟩
theorem lmJ2_48 : pm_lS RJ2 48 yJ2_length_9d52b 1 := ⟨⟨by decide, by decide, by decide +kernel⟩, pm_in 413 (by decide +kernel) rfl, pm_in 414 (by decide +kernel) rfl, pm_in 94 (by decide +kernel) rfl⟩
theorem lmJ2_414 : pm_lS RJ2 414 yJ0_checkIndex_df160 2 := ⟨⟨by decide, by decide, by decide +kernel⟩, pm_in 416 (by decide +kernel) rfl, pm_in 400 (by decide +kernel) rfl, pm_in 91 (by decide +kernel) rfl⟩
theorem lmJ2_71 : pm_lS RJ2 71 yJ2_getChar_3b067 2 := ⟨⟨by decide, by decide, by decide +kernel⟩, pm_in 417 (by decide +kernel) rfl, pm_in 418 (by decide +kernel) rfl, pm_in 94 (by decide +kernel) rfl⟩
theorem lmX4_43 : pm_lV RX4 43 yX4_readBalloon 4 2 := ⟨_, _, _, rfl, ⟨rfl, by decide, by decide, by decide +kernel⟩, pm_in 426 (by decide +kernel) rfl, pm_in 428 (by decide +kernel) rfl, pm_in 4 (by decide +kernel) rfl, pm_in 84 (by decide +kernel) rfl⟩
theorem lmX4_67 : pm_lV RX4 67 yX4_fail 4 0 := ⟨_, _, _, rfl, ⟨rfl, by decide, by decide, by decide +kernel⟩, pm_in 430 (by decide +kernel) rfl, pm_in 432 (by decide +kernel) rfl, pm_in 5 (by decide +kernel) rfl, pm_in 84 (by decide +kernel) rfl⟩
theorem lmX4_61 : pm_lV RX4 61 yX4_number 4 2 := ⟨_, _, _, rfl, ⟨rfl, by decide, by decide, by decide +kernel⟩, pm_in 438 (by decide +kernel) rfl, pm_in 440 (by decide +kernel) rfl, pm_in 6 (by decide +kernel) rfl, pm_in 84 (by decide +kernel) rfl⟩
theorem lmX4_145 : pm_lN RX4 145 yX7_within 3 := ⟨⟨by decide, by decide, by decide +kernel⟩, by decide +kernel, pm_in 332 (by decide +kernel) rfl, pm_in 81 (by decide +kernel) rfl⟩
theorem lmX4_86 : pm_lV RX4 86 yX4_passName 4 1 := ⟨_, _, _, rfl, ⟨rfl, by decide, by decide, by decide +kernel⟩, pm_in 444 (by decide +kernel) rfl, pm_in 446 (by decide +kernel) rfl, pm_in 7 (by decide +kernel) rfl, pm_in 84 (by decide +kernel) rfl⟩
theorem lmX4_90 : pm_lV RX4 90 yX5_add 5 3 := ⟨_, _, _, rfl, ⟨rfl, by decide, by decide, by decide +kernel⟩, pm_in 448 (by decide +kernel) rfl, pm_in 449 (by decide +kernel) rfl, pm_in 450 (by decide +kernel) rfl, pm_in 82 (by decide +kernel) rfl⟩
theorem lmX5_49 : pm_lV RX5 49 yX1_begin 1 3 := ⟨_, _, _, rfl, ⟨rfl, by decide, by decide, by decide +kernel⟩, pm_in 452 (by decide +kernel) rfl, pm_in 453 (by decide +kernel) rfl, pm_in 454 (by decide +kernel) rfl, pm_in 83 (by decide +kernel) rfl⟩
theorem ljX1_18 : Cond.methodLink RX1 18 arraycopyName ∈ pm_tbl := pm_in 458 (by decide +kernel) rfl
theorem lmX4_105 : pm_lV RX4 105 yX4_readPart 4 3 := ⟨_, _, _, rfl, ⟨rfl, by decide, by decide, by decide +kernel⟩, pm_in 462 (by decide +kernel) rfl, pm_in 464 (by decide +kernel) rfl, pm_in 8 (by decide +kernel) rfl, pm_in 84 (by decide +kernel) rfl⟩
theorem lmX4_53 : pm_lV RX4 53 yX4_readWarmth 4 3 := ⟨_, _, _, rfl, ⟨rfl, by decide, by decide, by decide +kernel⟩, pm_in 471 (by decide +kernel) rfl, pm_in 473 (by decide +kernel) rfl, pm_in 9 (by decide +kernel) rfl, pm_in 84 (by decide +kernel) rfl⟩
theorem lmX4_70 : pm_lV RX4 70 yX4_passSign 4 1 := ⟨_, _, _, rfl, ⟨rfl, by decide, by decide, by decide +kernel⟩, pm_in 477 (by decide +kernel) rfl, pm_in 479 (by decide +kernel) rfl, pm_in 10 (by decide +kernel) rfl, pm_in 84 (by decide +kernel) rfl⟩
theorem lmX7_90 : pm_lV RX7 90 yX5_copyFrom 5 1 := ⟨_, _, _, rfl, ⟨rfl, by decide, by decide, by decide +kernel⟩, pm_in 481 (by decide +kernel) rfl, pm_in 482 (by decide +kernel) rfl, pm_in 483 (by decide +kernel) rfl, pm_in 82 (by decide +kernel) rfl⟩
theorem ljX5_35 : Cond.methodLink RX5 35 arraycopyName ∈ pm_tbl := pm_in 485 (by decide +kernel) rfl
theorem lmX5_41 : pm_lV RX5 41 yX1_copyFrom 1 1 := ⟨_, _, _, rfl, ⟨rfl, by decide, by decide, by decide +kernel⟩, pm_in 486 (by decide +kernel) rfl, pm_in 487 (by decide +kernel) rfl, pm_in 488 (by decide +kernel) rfl, pm_in 83 (by decide +kernel) rfl⟩
theorem lmL_25 : pm_lV RL 25 yX7_warm 7 2 := ⟨_, _, _, rfl, ⟨rfl, by decide, by decide, by decide +kernel⟩, pm_in 490 (by decide +kernel) rfl, pm_in 491 (by decide +kernel) rfl, pm_in 492 (by decide +kernel) rfl, pm_in 81 (by decide +kernel) rfl⟩
theorem lmX7_96 : pm_lS RX7 96 yX7_isHour 1 := ⟨⟨by decide, by decide, by decide +kernel⟩, pm_in 494 (by decide +kernel) rfl, pm_in 495 (by decide +kernel) rfl, pm_in 81 (by decide +kernel) rfl⟩
theorem lmL_30 : pm_lV RL 30 yX7_warmth 7 1 := ⟨_, _, _, rfl, ⟨rfl, by decide, by decide, by decide +kernel⟩, pm_in 497 (by decide +kernel) rfl, pm_in 498 (by decide +kernel) rfl, pm_in 499 (by decide +kernel) rfl, pm_in 81 (by decide +kernel) rfl⟩
theorem lmL_35 : pm_lV RL 35 yX7_gap 7 1 := ⟨_, _, _, rfl, ⟨rfl, by decide, by decide, by decide +kernel⟩, pm_in 501 (by decide +kernel) rfl, pm_in 502 (by decide +kernel) rfl, pm_in 503 (by decide +kernel) rfl, pm_in 81 (by decide +kernel) rfl⟩
theorem lmL_39 : pm_lV RL 39 yX7_balloon 7 3 := ⟨_, _, _, rfl, ⟨rfl, by decide, by decide, by decide +kernel⟩, pm_in 505 (by decide +kernel) rfl, pm_in 506 (by decide +kernel) rfl, pm_in 507 (by decide +kernel) rfl, pm_in 81 (by decide +kernel) rfl⟩
theorem lmX7_107 : pm_lS RX7 107 yX7_fits 2 := ⟨⟨by decide, by decide, by decide +kernel⟩, pm_in 509 (by decide +kernel) rfl, pm_in 510 (by decide +kernel) rfl, pm_in 81 (by decide +kernel) rfl⟩
theorem lmX7_111 : pm_lV RX7 111 yX5_add 5 3 := ⟨_, _, _, rfl, ⟨rfl, by decide, by decide, by decide +kernel⟩, pm_in 514 (by decide +kernel) rfl, pm_in 449 (by decide +kernel) rfl, pm_in 450 (by decide +kernel) rfl, pm_in 82 (by decide +kernel) rfl⟩
theorem lmL_44 : pm_lV RL 44 yX7_balloonOf 7 2 := ⟨_, _, _, rfl, ⟨rfl, by decide, by decide, by decide +kernel⟩, pm_in 515 (by decide +kernel) rfl, pm_in 516 (by decide +kernel) rfl, pm_in 517 (by decide +kernel) rfl, pm_in 81 (by decide +kernel) rfl⟩
theorem lmX7_115 : pm_lV RX7 115 yX5_has 5 1 := ⟨_, _, _, rfl, ⟨rfl, by decide, by decide, by decide +kernel⟩, pm_in 519 (by decide +kernel) rfl, pm_in 520 (by decide +kernel) rfl, pm_in 521 (by decide +kernel) rfl, pm_in 82 (by decide +kernel) rfl⟩
theorem lmX5_45 : pm_lN RX5 45 yX7_within 3 := ⟨⟨by decide, by decide, by decide +kernel⟩, by decide +kernel, pm_in 332 (by decide +kernel) rfl, pm_in 81 (by decide +kernel) rfl⟩
theorem lmX7_122 : pm_lV RX7 122 yX1_weight 1 0 := ⟨_, _, _, rfl, ⟨rfl, by decide, by decide, by decide +kernel⟩, pm_in 524 (by decide +kernel) rfl, pm_in 525 (by decide +kernel) rfl, pm_in 526 (by decide +kernel) rfl, pm_in 83 (by decide +kernel) rfl⟩
theorem lmX7_128 : pm_lV RX7 128 yX5_hourNow 5 0 := ⟨_, _, _, rfl, ⟨rfl, by decide, by decide, by decide +kernel⟩, pm_in 528 (by decide +kernel) rfl, pm_in 529 (by decide +kernel) rfl, pm_in 530 (by decide +kernel) rfl, pm_in 82 (by decide +kernel) rfl⟩
theorem lmX7_131 : pm_lV RX7 131 yX1_target 1 1 := ⟨_, _, _, rfl, ⟨rfl, by decide, by decide, by decide +kernel⟩, pm_in 532 (by decide +kernel) rfl, pm_in 533 (by decide +kernel) rfl, pm_in 534 (by decide +kernel) rfl, pm_in 83 (by decide +kernel) rfl⟩
theorem lmX1_24 : pm_lV RX1 24 yX1_lift 1 1 := ⟨_, _, _, rfl, ⟨rfl, by decide, by decide, by decide +kernel⟩, pm_in 536 (by decide +kernel) rfl, pm_in 537 (by decide +kernel) rfl, pm_in 538 (by decide +kernel) rfl, pm_in 83 (by decide +kernel) rfl⟩
theorem lmX1_28 : pm_lV RX1 28 yX1_weight 1 0 := ⟨_, _, _, rfl, ⟨rfl, by decide, by decide, by decide +kernel⟩, pm_in 540 (by decide +kernel) rfl, pm_in 525 (by decide +kernel) rfl, pm_in 526 (by decide +kernel) rfl, pm_in 83 (by decide +kernel) rfl⟩
theorem lmX1_32 : pm_lN RX1 32 yX7_held 3 := ⟨⟨by decide, by decide, by decide +kernel⟩, by decide +kernel, pm_in 542 (by decide +kernel) rfl, pm_in 81 (by decide +kernel) rfl⟩
theorem lmX7_135 : pm_lV RX7 135 yX1_leaks 1 1 := ⟨_, _, _, rfl, ⟨rfl, by decide, by decide, by decide +kernel⟩, pm_in 544 (by decide +kernel) rfl, pm_in 545 (by decide +kernel) rfl, pm_in 546 (by decide +kernel) rfl, pm_in 83 (by decide +kernel) rfl⟩
theorem lmL_48 : pm_lV RL 48 yX7_becomes 7 3 := ⟨_, _, _, rfl, ⟨rfl, by decide, by decide, by decide +kernel⟩, pm_in 548 (by decide +kernel) rfl, pm_in 549 (by decide +kernel) rfl, pm_in 550 (by decide +kernel) rfl, pm_in 81 (by decide +kernel) rfl⟩
theorem lmL_52 : pm_lV RL 52 yX7_mind 7 3 := ⟨_, _, _, rfl, ⟨rfl, by decide, by decide, by decide +kernel⟩, pm_in 552 (by decide +kernel) rfl, pm_in 553 (by decide +kernel) rfl, pm_in 554 (by decide +kernel) rfl, pm_in 81 (by decide +kernel) rfl⟩
theorem lmL_56 : pm_lV RL 56 yX7_pour 7 2 := ⟨_, _, _, rfl, ⟨rfl, by decide, by decide, by decide +kernel⟩, pm_in 556 (by decide +kernel) rfl, pm_in 557 (by decide +kernel) rfl, pm_in 558 (by decide +kernel) rfl, pm_in 81 (by decide +kernel) rfl⟩
theorem lmL_60 : pm_lV RL 60 yX7_give 7 4 := ⟨_, _, _, rfl, ⟨rfl, by decide, by decide, by decide +kernel⟩, pm_in 560 (by decide +kernel) rfl, pm_in 561 (by decide +kernel) rfl, pm_in 562 (by decide +kernel) rfl, pm_in 81 (by decide +kernel) rfl⟩
theorem lmX7_144 : pm_lV RX7 144 yX5_canGive 5 4 := ⟨_, _, _, rfl, ⟨rfl, by decide, by decide, by decide +kernel⟩, pm_in 564 (by decide +kernel) rfl, pm_in 565 (by decide +kernel) rfl, pm_in 566 (by decide +kernel) rfl, pm_in 82 (by decide +kernel) rfl⟩
theorem lmX5_101 : pm_lV RX5 101 yX5_reachedBy 5 1 := ⟨_, _, _, rfl, ⟨rfl, by decide, by decide, by decide +kernel⟩, pm_in 568 (by decide +kernel) rfl, pm_in 569 (by decide +kernel) rfl, pm_in 570 (by decide +kernel) rfl, pm_in 82 (by decide +kernel) rfl⟩
theorem lmX5_91 : pm_lV RX5 91 yX5_nextAbove 5 1 := ⟨_, _, _, rfl, ⟨rfl, by decide, by decide, by decide +kernel⟩, pm_in 572 (by decide +kernel) rfl, pm_in 573 (by decide +kernel) rfl, pm_in 574 (by decide +kernel) rfl, pm_in 82 (by decide +kernel) rfl⟩
theorem lmX5_70 : pm_lV RX5 70 yX5_shareColumn 5 2 := ⟨_, _, _, rfl, ⟨rfl, by decide, by decide, by decide +kernel⟩, pm_in 576 (by decide +kernel) rfl, pm_in 577 (by decide +kernel) rfl, pm_in 578 (by decide +kernel) rfl, pm_in 82 (by decide +kernel) rfl⟩
theorem lmX5_88 : pm_lV RX5 88 yX5_hangsAbove 5 2 := ⟨_, _, _, rfl, ⟨rfl, by decide, by decide, by decide +kernel⟩, pm_in 580 (by decide +kernel) rfl, pm_in 581 (by decide +kernel) rfl, pm_in 582 (by decide +kernel) rfl, pm_in 82 (by decide +kernel) rfl⟩
theorem lmX5_74 : pm_lV RX5 74 yX5_heightOf 5 1 := ⟨_, _, _, rfl, ⟨rfl, by decide, by decide, by decide +kernel⟩, pm_in 584 (by decide +kernel) rfl, pm_in 585 (by decide +kernel) rfl, pm_in 586 (by decide +kernel) rfl, pm_in 82 (by decide +kernel) rfl⟩
theorem lmX5_94 : pm_lV RX5 94 yX5_inReach 5 2 := ⟨_, _, _, rfl, ⟨rfl, by decide, by decide, by decide +kernel⟩, pm_in 588 (by decide +kernel) rfl, pm_in 590 (by decide +kernel) rfl, pm_in 11 (by decide +kernel) rfl, pm_in 82 (by decide +kernel) rfl⟩
theorem ljX5_64 : Cond.methodLink RX5 64 Lib.Math.abs.name ∈ pm_tbl := pm_in 592 (by decide +kernel) rfl
theorem lmX5_98 : pm_lV RX5 98 yX5_nextBelow 5 1 := ⟨_, _, _, rfl, ⟨rfl, by decide, by decide, by decide +kernel⟩, pm_in 595 (by decide +kernel) rfl, pm_in 596 (by decide +kernel) rfl, pm_in 597 (by decide +kernel) rfl, pm_in 82 (by decide +kernel) rfl⟩
theorem lmL_65 : pm_lV RL 65 yX7_touches 7 1 := ⟨_, _, _, rfl, ⟨rfl, by decide, by decide, by decide +kernel⟩, pm_in 600 (by decide +kernel) rfl, pm_in 601 (by decide +kernel) rfl, pm_in 602 (by decide +kernel) rfl, pm_in 81 (by decide +kernel) rfl⟩
theorem lmX7_148 : pm_lV RX7 148 yX5_touchedBy 5 1 := ⟨_, _, _, rfl, ⟨rfl, by decide, by decide, by decide +kernel⟩, pm_in 604 (by decide +kernel) rfl, pm_in 605 (by decide +kernel) rfl, pm_in 606 (by decide +kernel) rfl, pm_in 82 (by decide +kernel) rfl⟩
theorem lmX5_77 : pm_lV RX5 77 yX5_tooNear 5 2 := ⟨_, _, _, rfl, ⟨rfl, by decide, by decide, by decide +kernel⟩, pm_in 608 (by decide +kernel) rfl, pm_in 609 (by decide +kernel) rfl, pm_in 610 (by decide +kernel) rfl, pm_in 82 (by decide +kernel) rfl⟩
theorem lmL_69 : pm_lV RL 69 yX7_above 7 2 := ⟨_, _, _, rfl, ⟨rfl, by decide, by decide, by decide +kernel⟩, pm_in 612 (by decide +kernel) rfl, pm_in 613 (by decide +kernel) rfl, pm_in 614 (by decide +kernel) rfl, pm_in 81 (by decide +kernel) rfl⟩
theorem lmX7_151 : pm_lV RX7 151 yX5_nextAbove 5 1 := ⟨_, _, _, rfl, ⟨rfl, by decide, by decide, by decide +kernel⟩, pm_in 616 (by decide +kernel) rfl, pm_in 573 (by decide +kernel) rfl, pm_in 574 (by decide +kernel) rfl, pm_in 82 (by decide +kernel) rfl⟩
theorem lmX7_154 : pm_lV RX7 154 yX5_nextBelow 5 1 := ⟨_, _, _, rfl, ⟨rfl, by decide, by decide, by decide +kernel⟩, pm_in 617 (by decide +kernel) rfl, pm_in 596 (by decide +kernel) rfl, pm_in 597 (by decide +kernel) rfl, pm_in 82 (by decide +kernel) rfl⟩
theorem lmL_73 : pm_lV RL 73 yX7_hours 7 1 := ⟨_, _, _, rfl, ⟨rfl, by decide, by decide, by decide +kernel⟩, pm_in 618 (by decide +kernel) rfl, pm_in 619 (by decide +kernel) rfl, pm_in 620 (by decide +kernel) rfl, pm_in 81 (by decide +kernel) rfl⟩
theorem lmX7_160 : pm_lV RX7 160 yX5_passHour 5 0 := ⟨_, _, _, rfl, ⟨rfl, by decide, by decide, by decide +kernel⟩, pm_in 622 (by decide +kernel) rfl, pm_in 623 (by decide +kernel) rfl, pm_in 624 (by decide +kernel) rfl, pm_in 82 (by decide +kernel) rfl⟩
theorem lmX5_53 : pm_lV RX5 53 yX5_hourNow 5 0 := ⟨_, _, _, rfl, ⟨rfl, by decide, by decide, by decide +kernel⟩, pm_in 626 (by decide +kernel) rfl, pm_in 529 (by decide +kernel) rfl, pm_in 530 (by decide +kernel) rfl, pm_in 82 (by decide +kernel) rfl⟩
theorem lmX5_57 : pm_lV RX5 57 yX1_passHour 1 2 := ⟨_, _, _, rfl, ⟨rfl, by decide, by decide, by decide +kernel⟩, pm_in 627 (by decide +kernel) rfl, pm_in 628 (by decide +kernel) rfl, pm_in 629 (by decide +kernel) rfl, pm_in 83 (by decide +kernel) rfl⟩
theorem lmX1_36 : pm_lV RX1 36 yX1_target 1 1 := ⟨_, _, _, rfl, ⟨rfl, by decide, by decide, by decide +kernel⟩, pm_in 631 (by decide +kernel) rfl, pm_in 533 (by decide +kernel) rfl, pm_in 534 (by decide +kernel) rfl, pm_in 83 (by decide +kernel) rfl⟩
theorem lmX1_39 : pm_lV RX1 39 yX1_leaks 1 1 := ⟨_, _, _, rfl, ⟨rfl, by decide, by decide, by decide +kernel⟩, pm_in 632 (by decide +kernel) rfl, pm_in 545 (by decide +kernel) rfl, pm_in 546 (by decide +kernel) rfl, pm_in 83 (by decide +kernel) rfl⟩
theorem ljX1_42 : Cond.methodLink RX1 42 Lib.Math.max.name ∈ pm_tbl := pm_in 633 (by decide +kernel) rfl
theorem lmL_77 : pm_lV RL 77 yX7_clock 7 1 := ⟨_, _, _, rfl, ⟨rfl, by decide, by decide, by decide +kernel⟩, pm_in 636 (by decide +kernel) rfl, pm_in 637 (by decide +kernel) rfl, pm_in 638 (by decide +kernel) rfl, pm_in 81 (by decide +kernel) rfl⟩
theorem lmL_81 : pm_lV RL 81 yX7_height 7 2 := ⟨_, _, _, rfl, ⟨rfl, by decide, by decide, by decide +kernel⟩, pm_in 640 (by decide +kernel) rfl, pm_in 641 (by decide +kernel) rfl, pm_in 642 (by decide +kernel) rfl, pm_in 81 (by decide +kernel) rfl⟩
theorem lmX7_163 : pm_lV RX7 163 yX6_run 6 2 := ⟨_, _, _, rfl, ⟨rfl, by decide, by decide, by decide +kernel⟩, pm_in 644 (by decide +kernel) rfl, pm_in 645 (by decide +kernel) rfl, pm_in 646 (by decide +kernel) rfl, pm_in 85 (by decide +kernel) rfl⟩
theorem ljX6_42 : Cond.methodLink RX6 42 Lib.Math.min.name ∈ pm_tbl := pm_in 648 (by decide +kernel) rfl
theorem lmX6_59 : pm_lV RX6 59 yX6_followWith 6 3 := ⟨_, _, _, rfl, ⟨rfl, by decide, by decide, by decide +kernel⟩, pm_in 649 (by decide +kernel) rfl, pm_in 651 (by decide +kernel) rfl, pm_in 12 (by decide +kernel) rfl, pm_in 85 (by decide +kernel) rfl⟩
theorem lmX6_63 : pm_lV RX6 63 yX1_copyFrom 1 1 := ⟨_, _, _, rfl, ⟨rfl, by decide, by decide, by decide +kernel⟩, pm_in 653 (by decide +kernel) rfl, pm_in 487 (by decide +kernel) rfl, pm_in 488 (by decide +kernel) rfl, pm_in 83 (by decide +kernel) rfl⟩
theorem lmX6_67 : pm_lV RX6 67 yX6_note 6 2 := ⟨_, _, _, rfl, ⟨rfl, by decide, by decide, by decide +kernel⟩, pm_in 654 (by decide +kernel) rfl, pm_in 656 (by decide +kernel) rfl, pm_in 13 (by decide +kernel) rfl, pm_in 85 (by decide +kernel) rfl⟩
theorem lmX6_71 : pm_lV RX6 71 yX6_step 6 1 := ⟨_, _, _, rfl, ⟨rfl, by decide, by decide, by decide +kernel⟩, pm_in 658 (by decide +kernel) rfl, pm_in 660 (by decide +kernel) rfl, pm_in 14 (by decide +kernel) rfl, pm_in 85 (by decide +kernel) rfl⟩
theorem lmX6_78 : pm_lV RX6 78 yX1_passHour 1 2 := ⟨_, _, _, rfl, ⟨rfl, by decide, by decide, by decide +kernel⟩, pm_in 662 (by decide +kernel) rfl, pm_in 628 (by decide +kernel) rfl, pm_in 629 (by decide +kernel) rfl, pm_in 83 (by decide +kernel) rfl⟩
theorem lmL_85 : pm_lV RL 85 yX7_first 7 1 := ⟨_, _, _, rfl, ⟨rfl, by decide, by decide, by decide +kernel⟩, pm_in 663 (by decide +kernel) rfl, pm_in 664 (by decide +kernel) rfl, pm_in 665 (by decide +kernel) rfl, pm_in 81 (by decide +kernel) rfl⟩
theorem lmX7_173 : pm_lV RX7 173 yX6_leastPair 6 1 := ⟨_, _, _, rfl, ⟨rfl, by decide, by decide, by decide +kernel⟩, pm_in 667 (by decide +kernel) rfl, pm_in 668 (by decide +kernel) rfl, pm_in 669 (by decide +kernel) rfl, pm_in 85 (by decide +kernel) rfl⟩
theorem lmX6_93 : pm_lV RX6 93 yX5_shareColumn 5 2 := ⟨_, _, _, rfl, ⟨rfl, by decide, by decide, by decide +kernel⟩, pm_in 671 (by decide +kernel) rfl, pm_in 577 (by decide +kernel) rfl, pm_in 578 (by decide +kernel) rfl, pm_in 82 (by decide +kernel) rfl⟩
theorem lmX6_85 : pm_lV RX6 85 yX6_near 6 3 := ⟨_, _, _, rfl, ⟨rfl, by decide, by decide, by decide +kernel⟩, pm_in 672 (by decide +kernel) rfl, pm_in 674 (by decide +kernel) rfl, pm_in 15 (by decide +kernel) rfl, pm_in 85 (by decide +kernel) rfl⟩
theorem lmX6_81 : pm_lV RX6 81 yX5_tooNear 5 2 := ⟨_, _, _, rfl, ⟨rfl, by decide, by decide, by decide +kernel⟩, pm_in 676 (by decide +kernel) rfl, pm_in 609 (by decide +kernel) rfl, pm_in 610 (by decide +kernel) rfl, pm_in 82 (by decide +kernel) rfl⟩
theorem lmL_89 : pm_lV RL 89 yX7_clear 7 2 := ⟨_, _, _, rfl, ⟨rfl, by decide, by decide, by decide +kernel⟩, pm_in 677 (by decide +kernel) rfl, pm_in 678 (by decide +kernel) rfl, pm_in 679 (by decide +kernel) rfl, pm_in 81 (by decide +kernel) rfl⟩
theorem lmX7_176 : pm_lV RX7 176 yX6_isClearIn 6 2 := ⟨_, _, _, rfl, ⟨rfl, by decide, by decide, by decide +kernel⟩, pm_in 681 (by decide +kernel) rfl, pm_in 682 (by decide +kernel) rfl, pm_in 683 (by decide +kernel) rfl, pm_in 85 (by decide +kernel) rfl⟩
theorem lmX6_89 : pm_lV RX6 89 yX6_touchedIn 6 3 := ⟨_, _, _, rfl, ⟨rfl, by decide, by decide, by decide +kernel⟩, pm_in 685 (by decide +kernel) rfl, pm_in 687 (by decide +kernel) rfl, pm_in 16 (by decide +kernel) rfl, pm_in 85 (by decide +kernel) rfl⟩
theorem lmL_93 : pm_lV RL 93 yX7_leastSand 7 2 := ⟨_, _, _, rfl, ⟨rfl, by decide, by decide, by decide +kernel⟩, pm_in 689 (by decide +kernel) rfl, pm_in 690 (by decide +kernel) rfl, pm_in 691 (by decide +kernel) rfl, pm_in 81 (by decide +kernel) rfl⟩
theorem lmX7_179 : pm_lV RX7 179 yX6_isClearWith 6 3 := ⟨_, _, _, rfl, ⟨rfl, by decide, by decide, by decide +kernel⟩, pm_in 693 (by decide +kernel) rfl, pm_in 694 (by decide +kernel) rfl, pm_in 695 (by decide +kernel) rfl, pm_in 85 (by decide +kernel) rfl⟩
theorem lmL_97 : pm_lV RL 97 yX7_ropeFor 7 2 := ⟨_, _, _, rfl, ⟨rfl, by decide, by decide, by decide +kernel⟩, pm_in 697 (by decide +kernel) rfl, pm_in 698 (by decide +kernel) rfl, pm_in 699 (by decide +kernel) rfl, pm_in 81 (by decide +kernel) rfl⟩
theorem lmL_101 : pm_lV RL 101 yX7_columnFor 7 2 := ⟨_, _, _, rfl, ⟨rfl, by decide, by decide, by decide +kernel⟩, pm_in 701 (by decide +kernel) rfl, pm_in 702 (by decide +kernel) rfl, pm_in 703 (by decide +kernel) rfl, pm_in 81 (by decide +kernel) rfl⟩
theorem lmL_105 : pm_lV RL 105 yX7_lasts 7 1 := ⟨_, _, _, rfl, ⟨rfl, by decide, by decide, by decide +kernel⟩, pm_in 705 (by decide +kernel) rfl, pm_in 706 (by decide +kernel) rfl, pm_in 707 (by decide +kernel) rfl, pm_in 81 (by decide +kernel) rfl⟩
theorem lmL_109 : pm_lV RL 109 yX7_reached 7 1 := ⟨_, _, _, rfl, ⟨rfl, by decide, by decide, by decide +kernel⟩, pm_in 709 (by decide +kernel) rfl, pm_in 710 (by decide +kernel) rfl, pm_in 711 (by decide +kernel) rfl, pm_in 81 (by decide +kernel) rfl⟩
theorem lmX7_185 : pm_lV RX7 185 yX5_reachedBy 5 1 := ⟨_, _, _, rfl, ⟨rfl, by decide, by decide, by decide +kernel⟩, pm_in 713 (by decide +kernel) rfl, pm_in 569 (by decide +kernel) rfl, pm_in 570 (by decide +kernel) rfl, pm_in 82 (by decide +kernel) rfl⟩
theorem lmL_113 : pm_lV RL 113 yX7_help 7 1 := ⟨_, _, _, rfl, ⟨rfl, by decide, by decide, by decide +kernel⟩, pm_in 714 (by decide +kernel) rfl, pm_in 715 (by decide +kernel) rfl, pm_in 716 (by decide +kernel) rfl, pm_in 81 (by decide +kernel) rfl⟩
theorem lmX7_188 : pm_lV RX7 188 yX6_pairsWithGift 6 3 := ⟨_, _, _, rfl, ⟨rfl, by decide, by decide, by decide +kernel⟩, pm_in 718 (by decide +kernel) rfl, pm_in 719 (by decide +kernel) rfl, pm_in 720 (by decide +kernel) rfl, pm_in 85 (by decide +kernel) rfl⟩
theorem lmX6_100 : pm_lV RX6 100 yX6_pairsToCome 6 0 := ⟨_, _, _, rfl, ⟨rfl, by decide, by decide, by decide +kernel⟩, pm_in 722 (by decide +kernel) rfl, pm_in 724 (by decide +kernel) rfl, pm_in 17 (by decide +kernel) rfl, pm_in 85 (by decide +kernel) rfl⟩
theorem lmL_117 : pm_lV RL 117 yX7_cold 7 0 := ⟨_, _, _, rfl, ⟨rfl, by decide, by decide, by decide +kernel⟩, pm_in 726 (by decide +kernel) rfl, pm_in 727 (by decide +kernel) rfl, pm_in 728 (by decide +kernel) rfl, pm_in 81 (by decide +kernel) rfl⟩
theorem lmX7_192 : pm_lV RX7 192 yX6_isClearForAll 6 0 := ⟨_, _, _, rfl, ⟨rfl, by decide, by decide, by decide +kernel⟩, pm_in 730 (by decide +kernel) rfl, pm_in 731 (by decide +kernel) rfl, pm_in 732 (by decide +kernel) rfl, pm_in 85 (by decide +kernel) rfl⟩
theorem lmX6_96 : pm_lV RX6 96 yX6_leastPair 6 1 := ⟨_, _, _, rfl, ⟨rfl, by decide, by decide, by decide +kernel⟩, pm_in 734 (by decide +kernel) rfl, pm_in 668 (by decide +kernel) rfl, pm_in 669 (by decide +kernel) rfl, pm_in 85 (by decide +kernel) rfl⟩
theorem lmL_121 : pm_lV RL 121 yX7_highest 7 1 := ⟨_, _, _, rfl, ⟨rfl, by decide, by decide, by decide +kernel⟩, pm_in 735 (by decide +kernel) rfl, pm_in 736 (by decide +kernel) rfl, pm_in 737 (by decide +kernel) rfl, pm_in 81 (by decide +kernel) rfl⟩
theorem lmL_125 : pm_lV RL 125 yX7_seed 7 1 := ⟨_, _, _, rfl, ⟨rfl, by decide, by decide, by decide +kernel⟩, pm_in 739 (by decide +kernel) rfl, pm_in 740 (by decide +kernel) rfl, pm_in 741 (by decide +kernel) rfl, pm_in 81 (by decide +kernel) rfl⟩
theorem lmL_129 : pm_lV RL 129 yX7_draw 7 1 := ⟨_, _, _, rfl, ⟨rfl, by decide, by decide, by decide +kernel⟩, pm_in 743 (by decide +kernel) rfl, pm_in 744 (by decide +kernel) rfl, pm_in 745 (by decide +kernel) rfl, pm_in 81 (by decide +kernel) rfl⟩
theorem lmL_133 : pm_lV RL 133 yX7_prove 7 2 := ⟨_, _, _, rfl, ⟨rfl, by decide, by decide, by decide +kernel⟩, pm_in 748 (by decide +kernel) rfl, pm_in 749 (by decide +kernel) rfl, pm_in 750 (by decide +kernel) rfl, pm_in 81 (by decide +kernel) rfl⟩
theorem lmX7_197 : pm_lV RX7 197 yX6_rowPart 6 3 := ⟨_, _, _, rfl, ⟨rfl, by decide, by decide, by decide +kernel⟩, pm_in 752 (by decide +kernel) rfl, pm_in 753 (by decide +kernel) rfl, pm_in 754 (by decide +kernel) rfl, pm_in 85 (by decide +kernel) rfl⟩
theorem lmL_137 : pm_lV RL 137 yX7_row 7 2 := ⟨_, _, _, rfl, ⟨rfl, by decide, by decide, by decide +kernel⟩, pm_in 756 (by decide +kernel) rfl, pm_in 757 (by decide +kernel) rfl, pm_in 758 (by decide +kernel) rfl, pm_in 81 (by decide +kernel) rfl⟩
theorem lmX7_200 : pm_lV RX7 200 yX7_isRowPart 7 2 := ⟨_, _, _, rfl, ⟨rfl, by decide, by decide, by decide +kernel⟩, pm_in 760 (by decide +kernel) rfl, pm_in 762 (by decide +kernel) rfl, pm_in 18 (by decide +kernel) rfl, pm_in 81 (by decide +kernel) rfl⟩
theorem lmL_141 : pm_lV RL 141 yX7_alterRow 7 3 := ⟨_, _, _, rfl, ⟨rfl, by decide, by decide, by decide +kernel⟩, pm_in 764 (by decide +kernel) rfl, pm_in 765 (by decide +kernel) rfl, pm_in 766 (by decide +kernel) rfl, pm_in 81 (by decide +kernel) rfl⟩
theorem lmL_145 : pm_lV RL 145 yX7_judge 7 1 := ⟨_, _, _, rfl, ⟨rfl, by decide, by decide, by decide +kernel⟩, pm_in 768 (by decide +kernel) rfl, pm_in 769 (by decide +kernel) rfl, pm_in 770 (by decide +kernel) rfl, pm_in 81 (by decide +kernel) rfl⟩
theorem lmX7_203 : pm_lV RX7 203 yX7_isRowRight 7 2 := ⟨_, _, _, rfl, ⟨rfl, by decide, by decide, by decide +kernel⟩, pm_in 772 (by decide +kernel) rfl, pm_in 774 (by decide +kernel) rfl, pm_in 19 (by decide +kernel) rfl, pm_in 81 (by decide +kernel) rfl⟩
theorem lmL_149 : pm_lV RL 149 yX7_warms 7 4 := ⟨_, _, _, rfl, ⟨rfl, by decide, by decide, by decide +kernel⟩, pm_in 776 (by decide +kernel) rfl, pm_in 777 (by decide +kernel) rfl, pm_in 778 (by decide +kernel) rfl, pm_in 81 (by decide +kernel) rfl⟩
theorem lmX7_206 : pm_lS RX7 206 yX7_isSheet 1 := ⟨⟨by decide, by decide, by decide +kernel⟩, pm_in 780 (by decide +kernel) rfl, pm_in 781 (by decide +kernel) rfl, pm_in 81 (by decide +kernel) rfl⟩
theorem lmX7_218 : pm_lS RX7 218 yX7_held 3 := ⟨⟨by decide, by decide, by decide +kernel⟩, pm_in 783 (by decide +kernel) rfl, pm_in 542 (by decide +kernel) rfl, pm_in 81 (by decide +kernel) rfl⟩
theorem lmL_153 : pm_lV RL 153 yX7_sheet 7 3 := ⟨_, _, _, rfl, ⟨rfl, by decide, by decide, by decide +kernel⟩, pm_in 784 (by decide +kernel) rfl, pm_in 785 (by decide +kernel) rfl, pm_in 786 (by decide +kernel) rfl, pm_in 81 (by decide +kernel) rfl⟩
theorem lmX7_221 : pm_lV RX7 221 yX2_becomeRow 2 2 := ⟨_, _, _, rfl, ⟨rfl, by decide, by decide, by decide +kernel⟩, pm_in 788 (by decide +kernel) rfl, pm_in 789 (by decide +kernel) rfl, pm_in 790 (by decide +kernel) rfl, pm_in 87 (by decide +kernel) rfl⟩
theorem lmL_157 : pm_lV RL 157 yX7_put 7 3 := ⟨_, _, _, rfl, ⟨rfl, by decide, by decide, by decide +kernel⟩, pm_in 792 (by decide +kernel) rfl, pm_in 793 (by decide +kernel) rfl, pm_in 794 (by decide +kernel) rfl, pm_in 81 (by decide +kernel) rfl⟩
theorem lmX7_224 : pm_lV RX7 224 yX2_narrowed 2 1 := ⟨_, _, _, rfl, ⟨rfl, by decide, by decide, by decide +kernel⟩, pm_in 796 (by decide +kernel) rfl, pm_in 797 (by decide +kernel) rfl, pm_in 798 (by decide +kernel) rfl, pm_in 87 (by decide +kernel) rfl⟩
theorem lmL_161 : pm_lV RL 161 yX7_item 7 3 := ⟨_, _, _, rfl, ⟨rfl, by decide, by decide, by decide +kernel⟩, pm_in 800 (by decide +kernel) rfl, pm_in 801 (by decide +kernel) rfl, pm_in 802 (by decide +kernel) rfl, pm_in 81 (by decide +kernel) rfl⟩
theorem lmL_165 : pm_lV RL 165 yX7_shelf 7 3 := ⟨_, _, _, rfl, ⟨rfl, by decide, by decide, by decide +kernel⟩, pm_in 804 (by decide +kernel) rfl, pm_in 805 (by decide +kernel) rfl, pm_in 806 (by decide +kernel) rfl, pm_in 81 (by decide +kernel) rfl⟩
theorem lmX7_227 : pm_lS RX7 227 yX7_isShelf 1 := ⟨⟨by decide, by decide, by decide +kernel⟩, pm_in 808 (by decide +kernel) rfl, pm_in 809 (by decide +kernel) rfl, pm_in 81 (by decide +kernel) rfl⟩
theorem lmX7_230 : pm_lV RX7 230 yX3_holdBalloon 3 1 := ⟨_, _, _, rfl, ⟨rfl, by decide, by decide, by decide +kernel⟩, pm_in 811 (by decide +kernel) rfl, pm_in 812 (by decide +kernel) rfl, pm_in 813 (by decide +kernel) rfl, pm_in 88 (by decide +kernel) rfl⟩
theorem lmX7_234 : pm_lV RX7 234 yX3_holdRow 3 1 := ⟨_, _, _, rfl, ⟨rfl, by decide, by decide, by decide +kernel⟩, pm_in 815 (by decide +kernel) rfl, pm_in 816 (by decide +kernel) rfl, pm_in 817 (by decide +kernel) rfl, pm_in 88 (by decide +kernel) rfl⟩
theorem lmL_169 : pm_lV RL 169 yX7_taken 7 2 := ⟨_, _, _, rfl, ⟨rfl, by decide, by decide, by decide +kernel⟩, pm_in 819 (by decide +kernel) rfl, pm_in 820 (by decide +kernel) rfl, pm_in 821 (by decide +kernel) rfl, pm_in 81 (by decide +kernel) rfl⟩
theorem lmX7_241 : pm_lV RX7 241 yX7_holdsBalloon 7 1 := ⟨_, _, _, rfl, ⟨rfl, by decide, by decide, by decide +kernel⟩, pm_in 823 (by decide +kernel) rfl, pm_in 825 (by decide +kernel) rfl, pm_in 20 (by decide +kernel) rfl, pm_in 81 (by decide +kernel) rfl⟩
theorem lmX7_248 : pm_lS RX7 248 yX7_isUnder 2 := ⟨⟨by decide, by decide, by decide +kernel⟩, pm_in 827 (by decide +kernel) rfl, pm_in 828 (by decide +kernel) rfl, pm_in 81 (by decide +kernel) rfl⟩
theorem lmL_173 : pm_lV RL 173 yX7_act 7 3 := ⟨_, _, _, rfl, ⟨rfl, by decide, by decide, by decide +kernel⟩, pm_in 832 (by decide +kernel) rfl, pm_in 833 (by decide +kernel) rfl, pm_in 834 (by decide +kernel) rfl, pm_in 81 (by decide +kernel) rfl⟩
theorem lmX7_253 : pm_lV RX7 253 yX0_forget 0 0 := ⟨_, _, _, rfl, ⟨rfl, by decide, by decide, by decide +kernel⟩, pm_in 836 (by decide +kernel) rfl, pm_in 837 (by decide +kernel) rfl, pm_in 838 (by decide +kernel) rfl, pm_in 86 (by decide +kernel) rfl⟩
theorem lmX7_256 : pm_lV RX7 256 yX0_answer 0 4 := ⟨_, _, _, rfl, ⟨rfl, by decide, by decide, by decide +kernel⟩, pm_in 840 (by decide +kernel) rfl, pm_in 841 (by decide +kernel) rfl, pm_in 842 (by decide +kernel) rfl, pm_in 86 (by decide +kernel) rfl⟩
theorem lmX0_37 : pm_lV RX0 37 yX0_lifts 0 1 := ⟨_, _, _, rfl, ⟨rfl, by decide, by decide, by decide +kernel⟩, pm_in 844 (by decide +kernel) rfl, pm_in 846 (by decide +kernel) rfl, pm_in 21 (by decide +kernel) rfl, pm_in 86 (by decide +kernel) rfl⟩
theorem lmX0_50 : pm_lV RX0 50 yX0_begin 0 1 := ⟨_, _, _, rfl, ⟨rfl, by decide, by decide, by decide +kernel⟩, pm_in 848 (by decide +kernel) rfl, pm_in 850 (by decide +kernel) rfl, pm_in 22 (by decide +kernel) rfl, pm_in 86 (by decide +kernel) rfl⟩
theorem lmX0_41 : pm_lV RX0 41 yX0_sinks 0 1 := ⟨_, _, _, rfl, ⟨rfl, by decide, by decide, by decide +kernel⟩, pm_in 852 (by decide +kernel) rfl, pm_in 854 (by decide +kernel) rfl, pm_in 23 (by decide +kernel) rfl, pm_in 86 (by decide +kernel) rfl⟩
theorem lmX0_44 : pm_lV RX0 44 yX0_shares 0 1 := ⟨_, _, _, rfl, ⟨rfl, by decide, by decide, by decide +kernel⟩, pm_in 856 (by decide +kernel) rfl, pm_in 858 (by decide +kernel) rfl, pm_in 24 (by decide +kernel) rfl, pm_in 86 (by decide +kernel) rfl⟩
theorem lmX0_54 : pm_lV RX0 54 yX0_parted 0 1 := ⟨_, _, _, rfl, ⟨rfl, by decide, by decide, by decide +kernel⟩, pm_in 860 (by decide +kernel) rfl, pm_in 862 (by decide +kernel) rfl, pm_in 25 (by decide +kernel) rfl, pm_in 86 (by decide +kernel) rfl⟩
theorem lmX0_47 : pm_lV RX0 47 yX0_tells 0 1 := ⟨_, _, _, rfl, ⟨rfl, by decide, by decide, by decide +kernel⟩, pm_in 864 (by decide +kernel) rfl, pm_in 866 (by decide +kernel) rfl, pm_in 26 (by decide +kernel) rfl, pm_in 86 (by decide +kernel) rfl⟩
theorem lmL_177 : pm_lV RL 177 yX7_trace 7 1 := ⟨_, _, _, rfl, ⟨rfl, by decide, by decide, by decide +kernel⟩, pm_in 868 (by decide +kernel) rfl, pm_in 869 (by decide +kernel) rfl, pm_in 870 (by decide +kernel) rfl, pm_in 81 (by decide +kernel) rfl⟩
theorem lmL_181 : pm_lV RL 181 yX7_many 7 1 := ⟨_, _, _, rfl, ⟨rfl, by decide, by decide, by decide +kernel⟩, pm_in 872 (by decide +kernel) rfl, pm_in 873 (by decide +kernel) rfl, pm_in 874 (by decide +kernel) rfl, pm_in 81 (by decide +kernel) rfl⟩
theorem lmX7_266 : pm_lV RX7 266 yX5_touchingPairs 5 0 := ⟨_, _, _, rfl, ⟨rfl, by decide, by decide, by decide +kernel⟩, pm_in 876 (by decide +kernel) rfl, pm_in 877 (by decide +kernel) rfl, pm_in 878 (by decide +kernel) rfl, pm_in 82 (by decide +kernel) rfl⟩
theorem lmX5_80 : pm_lV RX5 80 yX5_touchedBy 5 1 := ⟨_, _, _, rfl, ⟨rfl, by decide, by decide, by decide +kernel⟩, pm_in 880 (by decide +kernel) rfl, pm_in 605 (by decide +kernel) rfl, pm_in 606 (by decide +kernel) rfl, pm_in 82 (by decide +kernel) rfl⟩
theorem lmX5_83 : pm_lS RX5 83 yJ6_bitCount_0f7a4 1 := ⟨⟨by decide, by decide, by decide +kernel⟩, pm_in 881 (by decide +kernel) rfl, pm_in 882 (by decide +kernel) rfl, pm_in 96 (by decide +kernel) rfl⟩
theorem lmL_185 : pm_lV RL 185 yX7_keep 7 0 := ⟨_, _, _, rfl, ⟨rfl, by decide, by decide, by decide +kernel⟩, pm_in 887 (by decide +kernel) rfl, pm_in 888 (by decide +kernel) rfl, pm_in 889 (by decide +kernel) rfl, pm_in 81 (by decide +kernel) rfl⟩
theorem lmL_189 : pm_lV RL 189 yX7_again 7 0 := ⟨_, _, _, rfl, ⟨rfl, by decide, by decide, by decide +kernel⟩, pm_in 891 (by decide +kernel) rfl, pm_in 892 (by decide +kernel) rfl, pm_in 893 (by decide +kernel) rfl, pm_in 81 (by decide +kernel) rfl⟩
theorem lmL_12 : pm_lI RL 12 yX8_init 0 := ⟨⟨rfl, by decide, by decide, by decide +kernel⟩, Or.inl (pm_in 897 (by decide +kernel) rfl), pm_in 898 (by decide +kernel) rfl, pm_in 89 (by decide +kernel) rfl⟩
theorem loX8_1 : Cond.methodLink RX8 1 Lib.objectInit ∈ pm_tbl := pm_in 900 (by decide +kernel) rfl
theorem lmL_19 : pm_lV RL 19 yX8_feed 8 2 := ⟨_, _, _, rfl, ⟨rfl, by decide, by decide, by decide +kernel⟩, pm_in 1032 (by decide +kernel) rfl, pm_in 1033 (by decide +kernel) rfl, pm_in 1034 (by decide +kernel) rfl, pm_in 89 (by decide +kernel) rfl⟩
theorem lmX8_78 : pm_lS RX8 78 yX8_in 3 := ⟨⟨by decide, by decide, by decide +kernel⟩, pm_in 1036 (by decide +kernel) rfl, pm_in 1037 (by decide +kernel) rfl, pm_in 89 (by decide +kernel) rfl⟩
theorem lmL_24 : pm_lV RL 24 yX8_town 8 0 := ⟨_, _, _, rfl, ⟨rfl, by decide, by decide, by decide +kernel⟩, pm_in 1040 (by decide +kernel) rfl, pm_in 1041 (by decide +kernel) rfl, pm_in 1042 (by decide +kernel) rfl, pm_in 89 (by decide +kernel) rfl⟩
theorem lmX8_146 : pm_lV RX8 146 yX8_advance 8 0 := ⟨_, _, _, rfl, ⟨rfl, by decide, by decide, by decide +kernel⟩, pm_in 1044 (by decide +kernel) rfl, pm_in 1046 (by decide +kernel) rfl, pm_in 27 (by decide +kernel) rfl, pm_in 89 (by decide +kernel) rfl⟩
theorem lmX8_99 : pm_lV RX8 99 yX8_byteAt 8 1 := ⟨_, _, _, rfl, ⟨rfl, by decide, by decide, by decide +kernel⟩, pm_in 1048 (by decide +kernel) rfl, pm_in 1050 (by decide +kernel) rfl, pm_in 28 (by decide +kernel) rfl, pm_in 89 (by decide +kernel) rfl⟩
theorem lmX8_103 : pm_lS RX8 103 yX8_isLetter 1 := ⟨⟨by decide, by decide, by decide +kernel⟩, pm_in 1052 (by decide +kernel) rfl, pm_in 1053 (by decide +kernel) rfl, pm_in 89 (by decide +kernel) rfl⟩
theorem lmX8_107 : pm_lS RX8 107 yX8_isDigit 1 := ⟨⟨by decide, by decide, by decide +kernel⟩, pm_in 1055 (by decide +kernel) rfl, pm_in 1056 (by decide +kernel) rfl, pm_in 89 (by decide +kernel) rfl⟩
theorem lmX8_199 : pm_lV RX8 199 yX8_wantClause 8 0 := ⟨_, _, _, rfl, ⟨rfl, by decide, by decide, by decide +kernel⟩, pm_in 1061 (by decide +kernel) rfl, pm_in 1063 (by decide +kernel) rfl, pm_in 29 (by decide +kernel) rfl, pm_in 89 (by decide +kernel) rfl⟩
theorem lmX8_178 : pm_lV RX8 178 yX8_kindHere 8 0 := ⟨_, _, _, rfl, ⟨rfl, by decide, by decide, by decide +kernel⟩, pm_in 1065 (by decide +kernel) rfl, pm_in 1067 (by decide +kernel) rfl, pm_in 30 (by decide +kernel) rfl, pm_in 89 (by decide +kernel) rfl⟩
theorem lmX8_128 : pm_lV RX8 128 yX8_isWord 8 1 := ⟨_, _, _, rfl, ⟨rfl, by decide, by decide, by decide +kernel⟩, pm_in 1070 (by decide +kernel) rfl, pm_in 1072 (by decide +kernel) rfl, pm_in 31 (by decide +kernel) rfl, pm_in 89 (by decide +kernel) rfl⟩
theorem lmX8_182 : pm_lV RX8 182 yX8_wantBalloon 8 1 := ⟨_, _, _, rfl, ⟨rfl, by decide, by decide, by decide +kernel⟩, pm_in 1079 (by decide +kernel) rfl, pm_in 1081 (by decide +kernel) rfl, pm_in 32 (by decide +kernel) rfl, pm_in 89 (by decide +kernel) rfl⟩
theorem lmX8_152 : pm_lV RX8 152 yX8_wantNumber 8 2 := ⟨_, _, _, rfl, ⟨rfl, by decide, by decide, by decide +kernel⟩, pm_in 1083 (by decide +kernel) rfl, pm_in 1085 (by decide +kernel) rfl, pm_in 33 (by decide +kernel) rfl, pm_in 89 (by decide +kernel) rfl⟩
theorem lmX8_163 : pm_lV RX8 163 yX8_mayWant 8 4 := ⟨_, _, _, rfl, ⟨rfl, by decide, by decide, by decide +kernel⟩, pm_in 1089 (by decide +kernel) rfl, pm_in 1091 (by decide +kernel) rfl, pm_in 34 (by decide +kernel) rfl, pm_in 89 (by decide +kernel) rfl⟩
theorem lmX8_175 : pm_lV RX8 175 yX8_wantEnd 8 0 := ⟨_, _, _, rfl, ⟨rfl, by decide, by decide, by decide +kernel⟩, pm_in 1097 (by decide +kernel) rfl, pm_in 1099 (by decide +kernel) rfl, pm_in 35 (by decide +kernel) rfl, pm_in 89 (by decide +kernel) rfl⟩
theorem lmX8_149 : pm_lV RX8 149 yX8_isMark 8 1 := ⟨_, _, _, rfl, ⟨rfl, by decide, by decide, by decide +kernel⟩, pm_in 1101 (by decide +kernel) rfl, pm_in 1103 (by decide +kernel) rfl, pm_in 36 (by decide +kernel) rfl, pm_in 89 (by decide +kernel) rfl⟩
theorem lmX8_190 : pm_lV RX8 190 yX8_wantWarmth 8 1 := ⟨_, _, _, rfl, ⟨rfl, by decide, by decide, by decide +kernel⟩, pm_in 1107 (by decide +kernel) rfl, pm_in 1109 (by decide +kernel) rfl, pm_in 37 (by decide +kernel) rfl, pm_in 89 (by decide +kernel) rfl⟩
theorem lmL_34 : pm_lV RL 34 yX8_warmth 8 1 := ⟨_, _, _, rfl, ⟨rfl, by decide, by decide, by decide +kernel⟩, pm_in 1112 (by decide +kernel) rfl, pm_in 1113 (by decide +kernel) rfl, pm_in 1114 (by decide +kernel) rfl, pm_in 89 (by decide +kernel) rfl⟩
theorem lmX8_205 : pm_lS RX8 205 yX8_isHour 1 := ⟨⟨by decide, by decide, by decide +kernel⟩, pm_in 1116 (by decide +kernel) rfl, pm_in 1117 (by decide +kernel) rfl, pm_in 89 (by decide +kernel) rfl⟩
theorem lmL_29 : pm_lV RL 29 yX8_warm 8 2 := ⟨_, _, _, rfl, ⟨rfl, by decide, by decide, by decide +kernel⟩, pm_in 1119 (by decide +kernel) rfl, pm_in 1120 (by decide +kernel) rfl, pm_in 1121 (by decide +kernel) rfl, pm_in 89 (by decide +kernel) rfl⟩
theorem lmX8_208 : pm_lS RX8 208 yX8_isWarmth 1 := ⟨⟨by decide, by decide, by decide +kernel⟩, pm_in 1123 (by decide +kernel) rfl, pm_in 1124 (by decide +kernel) rfl, pm_in 89 (by decide +kernel) rfl⟩
theorem lmL_38 : pm_lV RL 38 yX8_gap 8 1 := ⟨_, _, _, rfl, ⟨rfl, by decide, by decide, by decide +kernel⟩, pm_in 1126 (by decide +kernel) rfl, pm_in 1127 (by decide +kernel) rfl, pm_in 1128 (by decide +kernel) rfl, pm_in 89 (by decide +kernel) rfl⟩
theorem lmL_43 : pm_lV RL 43 yX8_balloon 8 3 := ⟨_, _, _, rfl, ⟨rfl, by decide, by decide, by decide +kernel⟩, pm_in 1130 (by decide +kernel) rfl, pm_in 1131 (by decide +kernel) rfl, pm_in 1132 (by decide +kernel) rfl, pm_in 89 (by decide +kernel) rfl⟩
theorem lmX8_211 : pm_lS RX8 211 yX8_isKind 2 := ⟨⟨by decide, by decide, by decide +kernel⟩, pm_in 1134 (by decide +kernel) rfl, pm_in 1135 (by decide +kernel) rfl, pm_in 89 (by decide +kernel) rfl⟩
theorem lmX8_215 : pm_lV RX8 215 yX8_sets 8 3 := ⟨_, _, _, rfl, ⟨rfl, by decide, by decide, by decide +kernel⟩, pm_in 1137 (by decide +kernel) rfl, pm_in 1139 (by decide +kernel) rfl, pm_in 38 (by decide +kernel) rfl, pm_in 89 (by decide +kernel) rfl⟩
theorem lmL_47 : pm_lV RL 47 yX8_balloonOf 8 2 := ⟨_, _, _, rfl, ⟨rfl, by decide, by decide, by decide +kernel⟩, pm_in 1141 (by decide +kernel) rfl, pm_in 1142 (by decide +kernel) rfl, pm_in 1143 (by decide +kernel) rfl, pm_in 89 (by decide +kernel) rfl⟩
theorem lmX8_234 : pm_lV RX8 234 yX8_isBalloon 8 1 := ⟨_, _, _, rfl, ⟨rfl, by decide, by decide, by decide +kernel⟩, pm_in 1145 (by decide +kernel) rfl, pm_in 1147 (by decide +kernel) rfl, pm_in 39 (by decide +kernel) rfl, pm_in 89 (by decide +kernel) rfl⟩
theorem lmX8_231 : pm_lV RX8 231 yX8_weight 8 1 := ⟨_, _, _, rfl, ⟨rfl, by decide, by decide, by decide +kernel⟩, pm_in 1149 (by decide +kernel) rfl, pm_in 1151 (by decide +kernel) rfl, pm_in 40 (by decide +kernel) rfl, pm_in 89 (by decide +kernel) rfl⟩
theorem lmX8_219 : pm_lV RX8 219 yX8_its 8 2 := ⟨_, _, _, rfl, ⟨rfl, by decide, by decide, by decide +kernel⟩, pm_in 1153 (by decide +kernel) rfl, pm_in 1155 (by decide +kernel) rfl, pm_in 41 (by decide +kernel) rfl, pm_in 89 (by decide +kernel) rfl⟩
theorem lmX8_237 : pm_lV RX8 237 yX8_target 8 1 := ⟨_, _, _, rfl, ⟨rfl, by decide, by decide, by decide +kernel⟩, pm_in 1157 (by decide +kernel) rfl, pm_in 1159 (by decide +kernel) rfl, pm_in 42 (by decide +kernel) rfl, pm_in 89 (by decide +kernel) rfl⟩
theorem lmX8_228 : pm_lV RX8 228 yX8_lift 8 1 := ⟨_, _, _, rfl, ⟨rfl, by decide, by decide, by decide +kernel⟩, pm_in 1161 (by decide +kernel) rfl, pm_in 1163 (by decide +kernel) rfl, pm_in 43 (by decide +kernel) rfl, pm_in 89 (by decide +kernel) rfl⟩
theorem lmX8_222 : pm_lV RX8 222 yX8_hourNow 8 0 := ⟨_, _, _, rfl, ⟨rfl, by decide, by decide, by decide +kernel⟩, pm_in 1165 (by decide +kernel) rfl, pm_in 1167 (by decide +kernel) rfl, pm_in 44 (by decide +kernel) rfl, pm_in 89 (by decide +kernel) rfl⟩
theorem lmX8_240 : pm_lV RX8 240 yX8_leaks 8 1 := ⟨_, _, _, rfl, ⟨rfl, by decide, by decide, by decide +kernel⟩, pm_in 1169 (by decide +kernel) rfl, pm_in 1171 (by decide +kernel) rfl, pm_in 45 (by decide +kernel) rfl, pm_in 89 (by decide +kernel) rfl⟩
theorem lmL_51 : pm_lV RL 51 yX8_becomes 8 3 := ⟨_, _, _, rfl, ⟨rfl, by decide, by decide, by decide +kernel⟩, pm_in 1173 (by decide +kernel) rfl, pm_in 1174 (by decide +kernel) rfl, pm_in 1175 (by decide +kernel) rfl, pm_in 89 (by decide +kernel) rfl⟩
theorem lmX8_243 : pm_lS RX8 243 yX8_isPart 2 := ⟨⟨by decide, by decide, by decide +kernel⟩, pm_in 1177 (by decide +kernel) rfl, pm_in 1178 (by decide +kernel) rfl, pm_in 89 (by decide +kernel) rfl⟩
theorem lmL_55 : pm_lV RL 55 yX8_mind 8 3 := ⟨_, _, _, rfl, ⟨rfl, by decide, by decide, by decide +kernel⟩, pm_in 1180 (by decide +kernel) rfl, pm_in 1181 (by decide +kernel) rfl, pm_in 1182 (by decide +kernel) rfl, pm_in 89 (by decide +kernel) rfl⟩
theorem lmL_59 : pm_lV RL 59 yX8_pour 8 2 := ⟨_, _, _, rfl, ⟨rfl, by decide, by decide, by decide +kernel⟩, pm_in 1184 (by decide +kernel) rfl, pm_in 1185 (by decide +kernel) rfl, pm_in 1186 (by decide +kernel) rfl, pm_in 89 (by decide +kernel) rfl⟩
theorem lmL_72 : pm_lV RL 72 yX8_above 8 2 := ⟨_, _, _, rfl, ⟨rfl, by decide, by decide, by decide +kernel⟩, pm_in 1188 (by decide +kernel) rfl, pm_in 1189 (by decide +kernel) rfl, pm_in 1190 (by decide +kernel) rfl, pm_in 89 (by decide +kernel) rfl⟩
theorem lmX8_249 : pm_lV RX8 249 yX8_nextTo 8 2 := ⟨_, _, _, rfl, ⟨rfl, by decide, by decide, by decide +kernel⟩, pm_in 1192 (by decide +kernel) rfl, pm_in 1194 (by decide +kernel) rfl, pm_in 46 (by decide +kernel) rfl, pm_in 89 (by decide +kernel) rfl⟩
theorem lmX8_246 : pm_lV RX8 246 yX8_isOver 8 2 := ⟨_, _, _, rfl, ⟨rfl, by decide, by decide, by decide +kernel⟩, pm_in 1196 (by decide +kernel) rfl, pm_in 1198 (by decide +kernel) rfl, pm_in 47 (by decide +kernel) rfl, pm_in 89 (by decide +kernel) rfl⟩
theorem lmL_112 : pm_lV RL 112 yX8_reached 8 1 := ⟨_, _, _, rfl, ⟨rfl, by decide, by decide, by decide +kernel⟩, pm_in 1200 (by decide +kernel) rfl, pm_in 1201 (by decide +kernel) rfl, pm_in 1202 (by decide +kernel) rfl, pm_in 89 (by decide +kernel) rfl⟩
theorem lmX8_256 : pm_lV RX8 256 yX8_reach 8 1 := ⟨_, _, _, rfl, ⟨rfl, by decide, by decide, by decide +kernel⟩, pm_in 1204 (by decide +kernel) rfl, pm_in 1206 (by decide +kernel) rfl, pm_in 48 (by decide +kernel) rfl, pm_in 89 (by decide +kernel) rfl⟩
theorem lmX8_253 : pm_lV RX8 253 yX8_apart 8 2 := ⟨_, _, _, rfl, ⟨rfl, by decide, by decide, by decide +kernel⟩, pm_in 1208 (by decide +kernel) rfl, pm_in 1210 (by decide +kernel) rfl, pm_in 49 (by decide +kernel) rfl, pm_in 89 (by decide +kernel) rfl⟩
theorem lmL_64 : pm_lV RL 64 yX8_give 8 4 := ⟨_, _, _, rfl, ⟨rfl, by decide, by decide, by decide +kernel⟩, pm_in 1212 (by decide +kernel) rfl, pm_in 1213 (by decide +kernel) rfl, pm_in 1214 (by decide +kernel) rfl, pm_in 89 (by decide +kernel) rfl⟩
theorem lmX8_259 : pm_lV RX8 259 yX8_canGive 8 4 := ⟨_, _, _, rfl, ⟨rfl, by decide, by decide, by decide +kernel⟩, pm_in 1216 (by decide +kernel) rfl, pm_in 1218 (by decide +kernel) rfl, pm_in 50 (by decide +kernel) rfl, pm_in 89 (by decide +kernel) rfl⟩
theorem lmX8_263 : pm_lV RX8 263 yX8_gives 8 4 := ⟨_, _, _, rfl, ⟨rfl, by decide, by decide, by decide +kernel⟩, pm_in 1220 (by decide +kernel) rfl, pm_in 1222 (by decide +kernel) rfl, pm_in 51 (by decide +kernel) rfl, pm_in 89 (by decide +kernel) rfl⟩
theorem lmL_68 : pm_lV RL 68 yX8_touches 8 1 := ⟨_, _, _, rfl, ⟨rfl, by decide, by decide, by decide +kernel⟩, pm_in 1224 (by decide +kernel) rfl, pm_in 1225 (by decide +kernel) rfl, pm_in 1226 (by decide +kernel) rfl, pm_in 89 (by decide +kernel) rfl⟩
theorem lmX8_270 : pm_lV RX8 270 yX8_touchSet 8 1 := ⟨_, _, _, rfl, ⟨rfl, by decide, by decide, by decide +kernel⟩, pm_in 1228 (by decide +kernel) rfl, pm_in 1230 (by decide +kernel) rfl, pm_in 52 (by decide +kernel) rfl, pm_in 89 (by decide +kernel) rfl⟩
theorem lmX8_267 : pm_lV RX8 267 yX8_isTouch 8 2 := ⟨_, _, _, rfl, ⟨rfl, by decide, by decide, by decide +kernel⟩, pm_in 1232 (by decide +kernel) rfl, pm_in 1234 (by decide +kernel) rfl, pm_in 53 (by decide +kernel) rfl, pm_in 89 (by decide +kernel) rfl⟩
theorem lmL_76 : pm_lV RL 76 yX8_hours 8 1 := ⟨_, _, _, rfl, ⟨rfl, by decide, by decide, by decide +kernel⟩, pm_in 1236 (by decide +kernel) rfl, pm_in 1237 (by decide +kernel) rfl, pm_in 1238 (by decide +kernel) rfl, pm_in 89 (by decide +kernel) rfl⟩
theorem lmX8_286 : pm_lS RX8 286 yX8_isTrial 1 := ⟨⟨by decide, by decide, by decide +kernel⟩, pm_in 1240 (by decide +kernel) rfl, pm_in 1241 (by decide +kernel) rfl, pm_in 89 (by decide +kernel) rfl⟩
theorem lmX8_289 : pm_lV RX8 289 yX8_go 8 1 := ⟨_, _, _, rfl, ⟨rfl, by decide, by decide, by decide +kernel⟩, pm_in 1243 (by decide +kernel) rfl, pm_in 1245 (by decide +kernel) rfl, pm_in 54 (by decide +kernel) rfl, pm_in 89 (by decide +kernel) rfl⟩
theorem lmX8_282 : pm_lV RX8 282 yX8_goesOn 8 0 := ⟨_, _, _, rfl, ⟨rfl, by decide, by decide, by decide +kernel⟩, pm_in 1247 (by decide +kernel) rfl, pm_in 1249 (by decide +kernel) rfl, pm_in 55 (by decide +kernel) rfl, pm_in 89 (by decide +kernel) rfl⟩
theorem lmX8_279 : pm_lV RX8 279 yX8_hourGoes 8 0 := ⟨_, _, _, rfl, ⟨rfl, by decide, by decide, by decide +kernel⟩, pm_in 1251 (by decide +kernel) rfl, pm_in 1253 (by decide +kernel) rfl, pm_in 56 (by decide +kernel) rfl, pm_in 89 (by decide +kernel) rfl⟩
theorem lmX8_276 : pm_lS RX8 276 yX8_nearer 2 := ⟨⟨by decide, by decide, by decide +kernel⟩, pm_in 1255 (by decide +kernel) rfl, pm_in 1256 (by decide +kernel) rfl, pm_in 89 (by decide +kernel) rfl⟩
theorem lmL_80 : pm_lV RL 80 yX8_clock 8 1 := ⟨_, _, _, rfl, ⟨rfl, by decide, by decide, by decide +kernel⟩, pm_in 1258 (by decide +kernel) rfl, pm_in 1259 (by decide +kernel) rfl, pm_in 1260 (by decide +kernel) rfl, pm_in 89 (by decide +kernel) rfl⟩
theorem lmL_84 : pm_lV RL 84 yX8_height 8 2 := ⟨_, _, _, rfl, ⟨rfl, by decide, by decide, by decide +kernel⟩, pm_in 1262 (by decide +kernel) rfl, pm_in 1263 (by decide +kernel) rfl, pm_in 1264 (by decide +kernel) rfl, pm_in 89 (by decide +kernel) rfl⟩
theorem lmX8_292 : pm_lV RX8 292 yX8_lends 8 0 := ⟨_, _, _, rfl, ⟨rfl, by decide, by decide, by decide +kernel⟩, pm_in 1266 (by decide +kernel) rfl, pm_in 1268 (by decide +kernel) rfl, pm_in 57 (by decide +kernel) rfl, pm_in 89 (by decide +kernel) rfl⟩
theorem lmL_88 : pm_lV RL 88 yX8_first 8 1 := ⟨_, _, _, rfl, ⟨rfl, by decide, by decide, by decide +kernel⟩, pm_in 1270 (by decide +kernel) rfl, pm_in 1271 (by decide +kernel) rfl, pm_in 1272 (by decide +kernel) rfl, pm_in 89 (by decide +kernel) rfl⟩
theorem lmX8_295 : pm_lV RX8 295 yX8_firstPair 8 0 := ⟨_, _, _, rfl, ⟨rfl, by decide, by decide, by decide +kernel⟩, pm_in 1274 (by decide +kernel) rfl, pm_in 1276 (by decide +kernel) rfl, pm_in 58 (by decide +kernel) rfl, pm_in 89 (by decide +kernel) rfl⟩
theorem lmL_92 : pm_lV RL 92 yX8_clear 8 2 := ⟨_, _, _, rfl, ⟨rfl, by decide, by decide, by decide +kernel⟩, pm_in 1278 (by decide +kernel) rfl, pm_in 1279 (by decide +kernel) rfl, pm_in 1280 (by decide +kernel) rfl, pm_in 89 (by decide +kernel) rfl⟩
theorem lmX8_301 : pm_lV RX8 301 yX8_isClearWith 8 4 := ⟨_, _, _, rfl, ⟨rfl, by decide, by decide, by decide +kernel⟩, pm_in 1282 (by decide +kernel) rfl, pm_in 1284 (by decide +kernel) rfl, pm_in 59 (by decide +kernel) rfl, pm_in 89 (by decide +kernel) rfl⟩
theorem lmX8_298 : pm_lV RX8 298 yX8_isClear 8 2 := ⟨_, _, _, rfl, ⟨rfl, by decide, by decide, by decide +kernel⟩, pm_in 1286 (by decide +kernel) rfl, pm_in 1288 (by decide +kernel) rfl, pm_in 60 (by decide +kernel) rfl, pm_in 89 (by decide +kernel) rfl⟩
theorem lmL_96 : pm_lV RL 96 yX8_leastSand 8 2 := ⟨_, _, _, rfl, ⟨rfl, by decide, by decide, by decide +kernel⟩, pm_in 1290 (by decide +kernel) rfl, pm_in 1291 (by decide +kernel) rfl, pm_in 1292 (by decide +kernel) rfl, pm_in 89 (by decide +kernel) rfl⟩
theorem lmX8_304 : pm_lS RX8 304 yX8_isSoon 1 := ⟨⟨by decide, by decide, by decide +kernel⟩, pm_in 1294 (by decide +kernel) rfl, pm_in 1295 (by decide +kernel) rfl, pm_in 89 (by decide +kernel) rfl⟩
theorem lmL_100 : pm_lV RL 100 yX8_ropeFor 8 2 := ⟨_, _, _, rfl, ⟨rfl, by decide, by decide, by decide +kernel⟩, pm_in 1297 (by decide +kernel) rfl, pm_in 1298 (by decide +kernel) rfl, pm_in 1299 (by decide +kernel) rfl, pm_in 89 (by decide +kernel) rfl⟩
theorem lmL_104 : pm_lV RL 104 yX8_columnFor 8 2 := ⟨_, _, _, rfl, ⟨rfl, by decide, by decide, by decide +kernel⟩, pm_in 1301 (by decide +kernel) rfl, pm_in 1302 (by decide +kernel) rfl, pm_in 1303 (by decide +kernel) rfl, pm_in 89 (by decide +kernel) rfl⟩
theorem lmL_108 : pm_lV RL 108 yX8_lasts 8 1 := ⟨_, _, _, rfl, ⟨rfl, by decide, by decide, by decide +kernel⟩, pm_in 1305 (by decide +kernel) rfl, pm_in 1306 (by decide +kernel) rfl, pm_in 1307 (by decide +kernel) rfl, pm_in 89 (by decide +kernel) rfl⟩
theorem lmL_116 : pm_lV RL 116 yX8_help 8 1 := ⟨_, _, _, rfl, ⟨rfl, by decide, by decide, by decide +kernel⟩, pm_in 1309 (by decide +kernel) rfl, pm_in 1310 (by decide +kernel) rfl, pm_in 1311 (by decide +kernel) rfl, pm_in 89 (by decide +kernel) rfl⟩
theorem lmX8_310 : pm_lV RX8 310 yX8_pairsBehind 8 1 := ⟨_, _, _, rfl, ⟨rfl, by decide, by decide, by decide +kernel⟩, pm_in 1313 (by decide +kernel) rfl, pm_in 1315 (by decide +kernel) rfl, pm_in 61 (by decide +kernel) rfl, pm_in 89 (by decide +kernel) rfl⟩
theorem lmX8_307 : pm_lV RX8 307 yX8_pairs 8 0 := ⟨_, _, _, rfl, ⟨rfl, by decide, by decide, by decide +kernel⟩, pm_in 1317 (by decide +kernel) rfl, pm_in 1319 (by decide +kernel) rfl, pm_in 62 (by decide +kernel) rfl, pm_in 89 (by decide +kernel) rfl⟩
theorem lmX8_273 : pm_lS RX8 273 yX8_ones 1 := ⟨⟨by decide, by decide, by decide +kernel⟩, pm_in 1321 (by decide +kernel) rfl, pm_in 1322 (by decide +kernel) rfl, pm_in 89 (by decide +kernel) rfl⟩
theorem lmL_120 : pm_lV RL 120 yX8_cold 8 0 := ⟨_, _, _, rfl, ⟨rfl, by decide, by decide, by decide +kernel⟩, pm_in 1324 (by decide +kernel) rfl, pm_in 1325 (by decide +kernel) rfl, pm_in 1326 (by decide +kernel) rfl, pm_in 89 (by decide +kernel) rfl⟩
theorem lmL_124 : pm_lV RL 124 yX8_highest 8 1 := ⟨_, _, _, rfl, ⟨rfl, by decide, by decide, by decide +kernel⟩, pm_in 1328 (by decide +kernel) rfl, pm_in 1329 (by decide +kernel) rfl, pm_in 1330 (by decide +kernel) rfl, pm_in 89 (by decide +kernel) rfl⟩
theorem lmL_128 : pm_lV RL 128 yX8_seed 8 1 := ⟨_, _, _, rfl, ⟨rfl, by decide, by decide, by decide +kernel⟩, pm_in 1332 (by decide +kernel) rfl, pm_in 1333 (by decide +kernel) rfl, pm_in 1334 (by decide +kernel) rfl, pm_in 89 (by decide +kernel) rfl⟩
theorem lmL_132 : pm_lV RL 132 yX8_draw 8 1 := ⟨_, _, _, rfl, ⟨rfl, by decide, by decide, by decide +kernel⟩, pm_in 1336 (by decide +kernel) rfl, pm_in 1337 (by decide +kernel) rfl, pm_in 1338 (by decide +kernel) rfl, pm_in 89 (by decide +kernel) rfl⟩
theorem lmL_136 : pm_lV RL 136 yX8_prove 8 2 := ⟨_, _, _, rfl, ⟨rfl, by decide, by decide, by decide +kernel⟩, pm_in 1341 (by decide +kernel) rfl, pm_in 1342 (by decide +kernel) rfl, pm_in 1343 (by decide +kernel) rfl, pm_in 89 (by decide +kernel) rfl⟩
theorem lmX8_317 : pm_lV RX8 317 yX8_findRows 8 2 := ⟨_, _, _, rfl, ⟨rfl, by decide, by decide, by decide +kernel⟩, pm_in 1345 (by decide +kernel) rfl, pm_in 1347 (by decide +kernel) rfl, pm_in 63 (by decide +kernel) rfl, pm_in 89 (by decide +kernel) rfl⟩
theorem lmL_140 : pm_lV RL 140 yX8_row 8 2 := ⟨_, _, _, rfl, ⟨rfl, by decide, by decide, by decide +kernel⟩, pm_in 1349 (by decide +kernel) rfl, pm_in 1350 (by decide +kernel) rfl, pm_in 1351 (by decide +kernel) rfl, pm_in 89 (by decide +kernel) rfl⟩
theorem lmX8_321 : pm_lV RX8 321 yX8_isRow 8 2 := ⟨_, _, _, rfl, ⟨rfl, by decide, by decide, by decide +kernel⟩, pm_in 1353 (by decide +kernel) rfl, pm_in 1355 (by decide +kernel) rfl, pm_in 64 (by decide +kernel) rfl, pm_in 89 (by decide +kernel) rfl⟩
theorem lmL_144 : pm_lV RL 144 yX8_alterRow 8 3 := ⟨_, _, _, rfl, ⟨rfl, by decide, by decide, by decide +kernel⟩, pm_in 1357 (by decide +kernel) rfl, pm_in 1358 (by decide +kernel) rfl, pm_in 1359 (by decide +kernel) rfl, pm_in 89 (by decide +kernel) rfl⟩
theorem lmL_148 : pm_lV RL 148 yX8_judge 8 1 := ⟨_, _, _, rfl, ⟨rfl, by decide, by decide, by decide +kernel⟩, pm_in 1361 (by decide +kernel) rfl, pm_in 1362 (by decide +kernel) rfl, pm_in 1363 (by decide +kernel) rfl, pm_in 89 (by decide +kernel) rfl⟩
theorem lmL_152 : pm_lV RL 152 yX8_warms 8 4 := ⟨_, _, _, rfl, ⟨rfl, by decide, by decide, by decide +kernel⟩, pm_in 1365 (by decide +kernel) rfl, pm_in 1366 (by decide +kernel) rfl, pm_in 1367 (by decide +kernel) rfl, pm_in 89 (by decide +kernel) rfl⟩
theorem lmX8_324 : pm_lS RX8 324 yX8_isShelf 1 := ⟨⟨by decide, by decide, by decide +kernel⟩, pm_in 1369 (by decide +kernel) rfl, pm_in 1370 (by decide +kernel) rfl, pm_in 89 (by decide +kernel) rfl⟩
theorem lmX8_327 : pm_lV RX8 327 yX8_lacksSort 8 2 := ⟨_, _, _, rfl, ⟨rfl, by decide, by decide, by decide +kernel⟩, pm_in 1372 (by decide +kernel) rfl, pm_in 1374 (by decide +kernel) rfl, pm_in 65 (by decide +kernel) rfl, pm_in 89 (by decide +kernel) rfl⟩
theorem lmL_156 : pm_lV RL 156 yX8_sheet 8 3 := ⟨_, _, _, rfl, ⟨rfl, by decide, by decide, by decide +kernel⟩, pm_in 1378 (by decide +kernel) rfl, pm_in 1379 (by decide +kernel) rfl, pm_in 1380 (by decide +kernel) rfl, pm_in 89 (by decide +kernel) rfl⟩
theorem lmL_160 : pm_lV RL 160 yX8_put 8 3 := ⟨_, _, _, rfl, ⟨rfl, by decide, by decide, by decide +kernel⟩, pm_in 1382 (by decide +kernel) rfl, pm_in 1383 (by decide +kernel) rfl, pm_in 1384 (by decide +kernel) rfl, pm_in 89 (by decide +kernel) rfl⟩
theorem lmL_164 : pm_lV RL 164 yX8_item 8 3 := ⟨_, _, _, rfl, ⟨rfl, by decide, by decide, by decide +kernel⟩, pm_in 1386 (by decide +kernel) rfl, pm_in 1387 (by decide +kernel) rfl, pm_in 1388 (by decide +kernel) rfl, pm_in 89 (by decide +kernel) rfl⟩
theorem lmL_168 : pm_lV RL 168 yX8_shelf 8 3 := ⟨_, _, _, rfl, ⟨rfl, by decide, by decide, by decide +kernel⟩, pm_in 1390 (by decide +kernel) rfl, pm_in 1391 (by decide +kernel) rfl, pm_in 1392 (by decide +kernel) rfl, pm_in 89 (by decide +kernel) rfl⟩
theorem lmX8_334 : pm_lV RX8 334 yX8_isHeld 8 2 := ⟨_, _, _, rfl, ⟨rfl, by decide, by decide, by decide +kernel⟩, pm_in 1394 (by decide +kernel) rfl, pm_in 1396 (by decide +kernel) rfl, pm_in 66 (by decide +kernel) rfl, pm_in 89 (by decide +kernel) rfl⟩
theorem lmL_172 : pm_lV RL 172 yX8_taken 8 2 := ⟨_, _, _, rfl, ⟨rfl, by decide, by decide, by decide +kernel⟩, pm_in 1398 (by decide +kernel) rfl, pm_in 1399 (by decide +kernel) rfl, pm_in 1400 (by decide +kernel) rfl, pm_in 89 (by decide +kernel) rfl⟩
theorem lmX8_337 : pm_lV RX8 337 yX8_kindOn 8 1 := ⟨_, _, _, rfl, ⟨rfl, by decide, by decide, by decide +kernel⟩, pm_in 1402 (by decide +kernel) rfl, pm_in 1404 (by decide +kernel) rfl, pm_in 67 (by decide +kernel) rfl, pm_in 89 (by decide +kernel) rfl⟩
theorem lmX8_340 : pm_lS RX8 340 yX8_isUnder 2 := ⟨⟨by decide, by decide, by decide +kernel⟩, pm_in 1406 (by decide +kernel) rfl, pm_in 1407 (by decide +kernel) rfl, pm_in 89 (by decide +kernel) rfl⟩
theorem lmL_176 : pm_lV RL 176 yX8_act 8 3 := ⟨_, _, _, rfl, ⟨rfl, by decide, by decide, by decide +kernel⟩, pm_in 1409 (by decide +kernel) rfl, pm_in 1410 (by decide +kernel) rfl, pm_in 1411 (by decide +kernel) rfl, pm_in 89 (by decide +kernel) rfl⟩
theorem lmX8_361 : pm_lV RX8 361 yX8_liftsIt 8 1 := ⟨_, _, _, rfl, ⟨rfl, by decide, by decide, by decide +kernel⟩, pm_in 1413 (by decide +kernel) rfl, pm_in 1415 (by decide +kernel) rfl, pm_in 68 (by decide +kernel) rfl, pm_in 89 (by decide +kernel) rfl⟩
theorem lmX8_358 : pm_lV RX8 358 yX8_leakyLifts 8 1 := ⟨_, _, _, rfl, ⟨rfl, by decide, by decide, by decide +kernel⟩, pm_in 1417 (by decide +kernel) rfl, pm_in 1419 (by decide +kernel) rfl, pm_in 69 (by decide +kernel) rfl, pm_in 89 (by decide +kernel) rfl⟩
theorem lmX8_346 : pm_lV RX8 346 yX8_ran 8 1 := ⟨_, _, _, rfl, ⟨rfl, by decide, by decide, by decide +kernel⟩, pm_in 1421 (by decide +kernel) rfl, pm_in 1423 (by decide +kernel) rfl, pm_in 70 (by decide +kernel) rfl, pm_in 89 (by decide +kernel) rfl⟩
theorem lmX8_352 : pm_lV RX8 352 yX8_plainLifts 8 1 := ⟨_, _, _, rfl, ⟨rfl, by decide, by decide, by decide +kernel⟩, pm_in 1425 (by decide +kernel) rfl, pm_in 1427 (by decide +kernel) rfl, pm_in 71 (by decide +kernel) rfl, pm_in 89 (by decide +kernel) rfl⟩
theorem lmX8_376 : pm_lV RX8 376 yX8_sinksIt 8 1 := ⟨_, _, _, rfl, ⟨rfl, by decide, by decide, by decide +kernel⟩, pm_in 1429 (by decide +kernel) rfl, pm_in 1431 (by decide +kernel) rfl, pm_in 72 (by decide +kernel) rfl, pm_in 89 (by decide +kernel) rfl⟩
theorem lmX8_364 : pm_lV RX8 364 yX8_plainSinks 8 1 := ⟨_, _, _, rfl, ⟨rfl, by decide, by decide, by decide +kernel⟩, pm_in 1433 (by decide +kernel) rfl, pm_in 1435 (by decide +kernel) rfl, pm_in 73 (by decide +kernel) rfl, pm_in 89 (by decide +kernel) rfl⟩
theorem lmX8_382 : pm_lV RX8 382 yX8_sharesIt 8 1 := ⟨_, _, _, rfl, ⟨rfl, by decide, by decide, by decide +kernel⟩, pm_in 1437 (by decide +kernel) rfl, pm_in 1439 (by decide +kernel) rfl, pm_in 74 (by decide +kernel) rfl, pm_in 89 (by decide +kernel) rfl⟩
theorem lmX8_373 : pm_lV RX8 373 yX8_plainShares 8 1 := ⟨_, _, _, rfl, ⟨rfl, by decide, by decide, by decide +kernel⟩, pm_in 1441 (by decide +kernel) rfl, pm_in 1443 (by decide +kernel) rfl, pm_in 75 (by decide +kernel) rfl, pm_in 89 (by decide +kernel) rfl⟩
theorem lmX8_385 : pm_lV RX8 385 yX8_tellsIt 8 1 := ⟨_, _, _, rfl, ⟨rfl, by decide, by decide, by decide +kernel⟩, pm_in 1445 (by decide +kernel) rfl, pm_in 1447 (by decide +kernel) rfl, pm_in 76 (by decide +kernel) rfl, pm_in 89 (by decide +kernel) rfl⟩
theorem lmX8_379 : pm_lV RX8 379 yX8_plainTells 8 1 := ⟨_, _, _, rfl, ⟨rfl, by decide, by decide, by decide +kernel⟩, pm_in 1449 (by decide +kernel) rfl, pm_in 1451 (by decide +kernel) rfl, pm_in 77 (by decide +kernel) rfl, pm_in 89 (by decide +kernel) rfl⟩
theorem lmL_180 : pm_lV RL 180 yX8_trace 8 1 := ⟨_, _, _, rfl, ⟨rfl, by decide, by decide, by decide +kernel⟩, pm_in 1453 (by decide +kernel) rfl, pm_in 1454 (by decide +kernel) rfl, pm_in 1455 (by decide +kernel) rfl, pm_in 89 (by decide +kernel) rfl⟩
theorem lmL_184 : pm_lV RL 184 yX8_many 8 1 := ⟨_, _, _, rfl, ⟨rfl, by decide, by decide, by decide +kernel⟩, pm_in 1457 (by decide +kernel) rfl, pm_in 1458 (by decide +kernel) rfl, pm_in 1459 (by decide +kernel) rfl, pm_in 89 (by decide +kernel) rfl⟩
theorem lmL_188 : pm_lV RL 188 yX8_keep 8 0 := ⟨_, _, _, rfl, ⟨rfl, by decide, by decide, by decide +kernel⟩, pm_in 1461 (by decide +kernel) rfl, pm_in 1462 (by decide +kernel) rfl, pm_in 1463 (by decide +kernel) rfl, pm_in 89 (by decide +kernel) rfl⟩
theorem lmX8_395 : pm_lV RX8 395 yX8_moveAll 8 1 := ⟨_, _, _, rfl, ⟨rfl, by decide, by decide, by decide +kernel⟩, pm_in 1465 (by decide +kernel) rfl, pm_in 1467 (by decide +kernel) rfl, pm_in 78 (by decide +kernel) rfl, pm_in 89 (by decide +kernel) rfl⟩
theorem lmX8_391 : pm_lV RX8 391 yX8_moveRow 8 3 := ⟨_, _, _, rfl, ⟨rfl, by decide, by decide, by decide +kernel⟩, pm_in 1469 (by decide +kernel) rfl, pm_in 1471 (by decide +kernel) rfl, pm_in 79 (by decide +kernel) rfl, pm_in 89 (by decide +kernel) rfl⟩
theorem lmL_192 : pm_lV RL 192 yX8_again 8 0 := ⟨_, _, _, rfl, ⟨rfl, by decide, by decide, by decide +kernel⟩, pm_in 1473 (by decide +kernel) rfl, pm_in 1474 (by decide +kernel) rfl, pm_in 1475 (by decide +kernel) rfl, pm_in 89 (by decide +kernel) rfl⟩
theorem liO : Cond.instanceMethod Lib.objectInit ∈ pm_tbl := pm_in 103 (by decide +kernel) rfl
theorem liM : Cond.initialized "java/lang/Math" ∈ pm_tbl := pm_in 90 (by decide +kernel) rfl
theorem liS : Cond.initialized "java/lang/System" ∈ pm_tbl := pm_in 95 (by decide +kernel) rfl
theorem lsM_max : Cond.static Lib.Math.max.name ∈ pm_tbl := pm_in 634 (by decide +kernel) rfl
theorem lsM_min : Cond.static Lib.Math.min.name ∈ pm_tbl := pm_in 359 (by decide +kernel) rfl
theorem lsM_abs : Cond.static Lib.Math.abs.name ∈ pm_tbl := pm_in 593 (by decide +kernel) rfl
theorem lsA : Cond.static arraycopyName ∈ pm_tbl := pm_in 459 (by decide +kernel) rfl
theorem lnA : Cond.native arraycopyName ∈ pm_tbl := pm_in 460 (by decide +kernel) rfl
theorem lkL_7 : Cond.classLink RL 7 RX7 ∈ pm_tbl := pm_in 97 (by decide +kernel) rfl
theorem ltX7 : Cond.instantiable RX7 11 ∈ pm_tbl := pm_in 98 (by decide +kernel) rfl
theorem liX7 : Cond.initialized RX7 ∈ pm_tbl := pm_in 81 (by decide +kernel) rfl
theorem lkX7_7 : Cond.classLink RX7 7 RX5 ∈ pm_tbl := pm_in 105 (by decide +kernel) rfl
theorem ltX5 : Cond.instantiable RX5 6 ∈ pm_tbl := pm_in 106 (by decide +kernel) rfl
theorem liX5 : Cond.initialized RX5 ∈ pm_tbl := pm_in 82 (by decide +kernel) rfl
theorem lkX5_15 : Cond.classLink RX5 15 RX1 ∈ pm_tbl := pm_in 111 (by decide +kernel) rfl
theorem ltX1 : Cond.instantiable RX1 1 ∈ pm_tbl := pm_in 113 (by decide +kernel) rfl
theorem liX1 : Cond.initialized RX1 ∈ pm_tbl := pm_in 83 (by decide +kernel) rfl
theorem la_int : Cond.arrayClass .int ∈ pm_tbl := pm_in 127 (by decide +kernel) rfl
theorem lkX7_26 : Cond.classLink RX7 26 RX4 ∈ pm_tbl := pm_in 161 (by decide +kernel) rfl
theorem ltX4 : Cond.instantiable RX4 6 ∈ pm_tbl := pm_in 162 (by decide +kernel) rfl
theorem liX4 : Cond.initialized RX4 ∈ pm_tbl := pm_in 84 (by decide +kernel) rfl
theorem la_byte : Cond.arrayClass .byte ∈ pm_tbl := pm_in 187 (by decide +kernel) rfl
theorem lkX7_33 : Cond.classLink RX7 33 RX6 ∈ pm_tbl := pm_in 188 (by decide +kernel) rfl
theorem ltX6 : Cond.instantiable RX6 6 ∈ pm_tbl := pm_in 189 (by decide +kernel) rfl
theorem liX6 : Cond.initialized RX6 ∈ pm_tbl := pm_in 85 (by decide +kernel) rfl
theorem lkX6_9 : Cond.classLink RX6 9 RX1 ∈ pm_tbl := pm_in 194 (by decide +kernel) rfl
theorem lkX6_18 : Cond.classLink RX6 18 "[[I" ∈ pm_tbl := pm_in 196 (by decide +kernel) rfl
theorem lkX7_42 : Cond.classLink RX7 42 "[[I" ∈ pm_tbl := pm_in 219 (by decide +kernel) rfl
theorem lkX7_51 : Cond.classLink RX7 51 RX2 ∈ pm_tbl := pm_in 220 (by decide +kernel) rfl
theorem lkX7_57 : Cond.classLink RX7 57 RX3 ∈ pm_tbl := pm_in 222 (by decide +kernel) rfl
theorem lkX7_63 : Cond.classLink RX7 63 RX0 ∈ pm_tbl := pm_in 224 (by decide +kernel) rfl
theorem ltX0 : Cond.instantiable RX0 6 ∈ pm_tbl := pm_in 225 (by decide +kernel) rfl
theorem liX0 : Cond.initialized RX0 ∈ pm_tbl := pm_in 86 (by decide +kernel) rfl
theorem ltX2 : Cond.instantiable RX2 3 ∈ pm_tbl := pm_in 251 (by decide +kernel) rfl
theorem liX2 : Cond.initialized RX2 ∈ pm_tbl := pm_in 87 (by decide +kernel) rfl
theorem ltX3 : Cond.instantiable RX3 4 ∈ pm_tbl := pm_in 271 (by decide +kernel) rfl
theorem liX3 : Cond.initialized RX3 ∈ pm_tbl := pm_in 88 (by decide +kernel) rfl
theorem lkL_10 : Cond.classLink RL 10 RX8 ∈ pm_tbl := pm_in 895 (by decide +kernel) rfl
theorem ltX8 : Cond.instantiable RX8 43 ∈ pm_tbl := pm_in 896 (by decide +kernel) rfl
theorem liX8 : Cond.initialized RX8 ∈ pm_tbl := pm_in 89 (by decide +kernel) rfl
theorem la_long : Cond.arrayClass .long ∈ pm_tbl := pm_in 1031 (by decide +kernel) rfl
