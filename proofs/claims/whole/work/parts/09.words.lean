/-! the words, by their places in the tables -/
theorem zWl_0 : ∀ k, k < 11 → lw_tbl[([184, 186, 188, 190, 192, 194, 196, 198, 200, 202, 204] : List Nat).getD k 0]? = some (u_lay RX0 TX0 k) := by decide +kernel
theorem zWg_0 : ∀ k, k < 11 → goodWord (u_lay RX0 TX0 k) = true := by decide +kernel
theorem zWd_0 : ∀ k, k < 11 → defaultValue (tyX0 k) = if zIR 0 k then .null else .int 0 := by decide +kernel
theorem zWn_0 : ∀ k, k < 11 → (TX0 k).1 = RX0 := by decide +kernel
theorem zCl_0 : zCl 0 RX0 TX0 tyX0 := by
  refine ⟨rfl, by decide, fun w hw => ?_, tyX0_ok, nmX0, zWn_0, zWd_0⟩
  obtain ⟨k, hk, rfl⟩ := List.mem_map.mp hw
  have hk' := List.mem_range.mp hk
  exact zT_of _ (zWl_0 k hk') (zWg_0 k hk')
theorem zWl_1 : ∀ k, k < 3 → lw_tbl[([84, 86, 88] : List Nat).getD k 0]? = some (u_lay RX1 TX1 k) := by decide +kernel
theorem zWg_1 : ∀ k, k < 3 → goodWord (u_lay RX1 TX1 k) = true := by decide +kernel
theorem zWd_1 : ∀ k, k < 3 → defaultValue (tyX1 k) = if zIR 1 k then .null else .int 0 := by decide +kernel
theorem zWn_1 : ∀ k, k < 3 → (TX1 k).1 = RX1 := by decide +kernel
theorem zCl_1 : zCl 1 RX1 TX1 tyX1 := by
  refine ⟨rfl, by decide, fun w hw => ?_, tyX1_ok, nmX1, zWn_1, zWd_1⟩
  obtain ⟨k, hk, rfl⟩ := List.mem_map.mp hw
  have hk' := List.mem_range.mp hk
  exact zT_of _ (zWl_1 k hk') (zWg_1 k hk')
theorem zWl_2 : ∀ k, k < 6 → lw_tbl[([301, 303, 305, 307, 309, 311] : List Nat).getD k 0]? = some (u_lay RX2 TX2 k) := by decide +kernel
theorem zWg_2 : ∀ k, k < 6 → goodWord (u_lay RX2 TX2 k) = true := by decide +kernel
theorem zWd_2 : ∀ k, k < 6 → defaultValue (tyX2 k) = if zIR 2 k then .null else .int 0 := by decide +kernel
theorem zWn_2 : ∀ k, k < 6 → (TX2 k).1 = RX2 := by decide +kernel
theorem zCl_2 : zCl 2 RX2 TX2 tyX2 := by
  refine ⟨rfl, by decide, fun w hw => ?_, tyX2_ok, nmX2, zWn_2, zWd_2⟩
  obtain ⟨k, hk, rfl⟩ := List.mem_map.mp hw
  have hk' := List.mem_range.mp hk
  exact zT_of _ (zWl_2 k hk') (zWg_2 k hk')
theorem zWl_3 : ∀ k, k < 12 → lw_tbl[([118, 120, 122, 124, 126, 128, 130, 132, 134, 136, 138, 140] : List Nat).getD k 0]? = some (u_lay RX3 TX3 k) := by decide +kernel
theorem zWg_3 : ∀ k, k < 12 → goodWord (u_lay RX3 TX3 k) = true := by decide +kernel
theorem zWd_3 : ∀ k, k < 12 → defaultValue (tyX3 k) = if zIR 3 k then .null else .int 0 := by decide +kernel
theorem zWn_3 : ∀ k, k < 12 → (TX3 k).1 = RX3 := by decide +kernel
theorem zCl_3 : zCl 3 RX3 TX3 tyX3 := by
  refine ⟨rfl, by decide, fun w hw => ?_, tyX3_ok, nmX3, zWn_3, zWd_3⟩
  obtain ⟨k, hk, rfl⟩ := List.mem_map.mp hw
  have hk' := List.mem_range.mp hk
  exact zT_of _ (zWl_3 k hk') (zWg_3 k hk')
theorem zWl_4 : ∀ k, k < 9 → lw_tbl[([224, 226, 228, 230, 232, 234, 236, 238, 240] : List Nat).getD k 0]? = some (u_lay RX4 TX4 k) := by decide +kernel
theorem zWg_4 : ∀ k, k < 9 → goodWord (u_lay RX4 TX4 k) = true := by decide +kernel
theorem zWd_4 : ∀ k, k < 9 → defaultValue (tyX4 k) = if zIR 4 k then .null else .int 0 := by decide +kernel
theorem zWn_4 : ∀ k, k < 9 → (TX4 k).1 = RX4 := by decide +kernel
theorem zCl_4 : zCl 4 RX4 TX4 tyX4 := by
  refine ⟨rfl, by decide, fun w hw => ?_, tyX4_ok, nmX4, zWn_4, zWd_4⟩
  obtain ⟨k, hk, rfl⟩ := List.mem_map.mp hw
  have hk' := List.mem_range.mp hk
  exact zT_of _ (zWl_4 k hk') (zWg_4 k hk')
theorem zWl_5 : ∀ k, k < 7 → lw_tbl[([257, 259, 261, 263, 265, 267, 269] : List Nat).getD k 0]? = some (u_lay RX5 TX5 k) := by decide +kernel
theorem zWg_5 : ∀ k, k < 7 → goodWord (u_lay RX5 TX5 k) = true := by decide +kernel
theorem zWd_5 : ∀ k, k < 7 → defaultValue (tyX5 k) = if zIR 5 k then .null else .int 0 := by decide +kernel
theorem zWn_5 : ∀ k, k < 7 → (TX5 k).1 = RX5 := by decide +kernel
theorem zCl_5 : zCl 5 RX5 TX5 tyX5 := by
  refine ⟨rfl, by decide, fun w hw => ?_, tyX5_ok, nmX5, zWn_5, zWd_5⟩
  obtain ⟨k, hk, rfl⟩ := List.mem_map.mp hw
  have hk' := List.mem_range.mp hk
  exact zT_of _ (zWl_5 k hk') (zWg_5 k hk')
theorem zWl_6 : ∀ k, k < 3 → lw_tbl[([281, 283, 285] : List Nat).getD k 0]? = some (u_lay RX6 TX6 k) := by decide +kernel
theorem zWg_6 : ∀ k, k < 3 → goodWord (u_lay RX6 TX6 k) = true := by decide +kernel
theorem zWd_6 : ∀ k, k < 3 → defaultValue (tyX6 k) = if zIR 6 k then .null else .int 0 := by decide +kernel
theorem zWn_6 : ∀ k, k < 3 → (TX6 k).1 = RX6 := by decide +kernel
theorem zCl_6 : zCl 6 RX6 TX6 tyX6 := by
  refine ⟨rfl, by decide, fun w hw => ?_, tyX6_ok, nmX6, zWn_6, zWd_6⟩
  obtain ⟨k, hk, rfl⟩ := List.mem_map.mp hw
  have hk' := List.mem_range.mp hk
  exact zT_of _ (zWl_6 k hk') (zWg_6 k hk')
theorem zWl_7 : ∀ k, k < 5 → lw_tbl[([155, 157, 159, 161, 163] : List Nat).getD k 0]? = some (u_lay RX7 TX7 k) := by decide +kernel
theorem zWg_7 : ∀ k, k < 5 → goodWord (u_lay RX7 TX7 k) = true := by decide +kernel
theorem zWd_7 : ∀ k, k < 5 → defaultValue (tyX7 k) = if zIR 7 k then .null else .int 0 := by decide +kernel
theorem zWn_7 : ∀ k, k < 5 → (TX7 k).1 = RX7 := by decide +kernel
theorem zCl_7 : zCl 7 RX7 TX7 tyX7 := by
  refine ⟨rfl, by decide, fun w hw => ?_, tyX7_ok, nmX7, zWn_7, zWd_7⟩
  obtain ⟨k, hk, rfl⟩ := List.mem_map.mp hw
  have hk' := List.mem_range.mp hk
  exact zT_of _ (zWl_7 k hk') (zWg_7 k hk')
theorem zWl_8 : ∀ k, k < 9 → lw_tbl[([323, 325, 327, 329, 331, 333, 335, 337, 339] : List Nat).getD k 0]? = some (u_lay RX8 TX8 k) := by decide +kernel
theorem zWg_8 : ∀ k, k < 9 → goodWord (u_lay RX8 TX8 k) = true := by decide +kernel
theorem zWd_8 : ∀ k, k < 9 → defaultValue (tyX8 k) = if zIR 8 k then .null else .int 0 := by decide +kernel
theorem zWn_8 : ∀ k, k < 9 → (TX8 k).1 = RX8 := by decide +kernel
theorem zCl_8 : zCl 8 RX8 TX8 tyX8 := by
  refine ⟨rfl, by decide, fun w hw => ?_, tyX8_ok, nmX8, zWn_8, zWd_8⟩
  obtain ⟨k, hk, rfl⟩ := List.mem_map.mp hw
  have hk' := List.mem_range.mp hk
  exact zT_of _ (zWl_8 k hk') (zWg_8 k hk')
theorem zWl_9 : ∀ k, k < 37 → lw_tbl[([913, 915, 917, 919, 921, 923, 925, 927, 929, 931, 933, 935, 937, 939, 941, 943, 945, 947, 949, 951, 953, 955, 957, 959, 961, 963, 965, 967, 969, 971, 973, 975, 977, 979, 981, 983, 985] : List Nat).getD k 0]? = some (u_lay RX9 TX9 k) := by decide +kernel
theorem zWg_9 : ∀ k, k < 37 → goodWord (u_lay RX9 TX9 k) = true := by decide +kernel
theorem zWd_9 : ∀ k, k < 37 → defaultValue (tyX9 k) = if zIR 9 k then .null else .int 0 := by decide +kernel
theorem zWn_9 : ∀ k, k < 37 → (TX9 k).1 = RX9 := by decide +kernel
theorem zCl_9 : zCl 9 RX9 TX9 tyX9 := by
  refine ⟨rfl, by decide, fun w hw => ?_, tyX9_ok, nmX9, zWn_9, zWd_9⟩
  obtain ⟨k, hk, rfl⟩ := List.mem_map.mp hw
  have hk' := List.mem_range.mp hk
  exact zT_of _ (zWl_9 k hk') (zWg_9 k hk')
theorem zF_X1_9 : zF RX1 9 1 0 false .int := ⟨_, _, _, zCl_1, by decide, zT_of 81 (by decide +kernel) rfl, rfl, rfl⟩
theorem zF_X1_15 : zF RX1 15 1 1 false .int := ⟨_, _, _, zCl_1, by decide, zT_of 82 (by decide +kernel) rfl, rfl, rfl⟩
theorem zF_X1_18 : zF RX1 18 1 2 false .int := ⟨_, _, _, zCl_1, by decide, zT_of 83 (by decide +kernel) rfl, rfl, rfl⟩
theorem zF_X3_11 : zF RX3 11 3 0 true (.array (.array .int)) := ⟨_, _, _, zCl_3, by decide, zT_of 106 (by decide +kernel) rfl, rfl, rfl⟩
theorem zF_X3_16 : zF RX3 16 3 1 true (.array .int) := ⟨_, _, _, zCl_3, by decide, zT_of 107 (by decide +kernel) rfl, rfl, rfl⟩
theorem zF_X3_20 : zF RX3 20 3 2 true (.array .int) := ⟨_, _, _, zCl_3, by decide, zT_of 108 (by decide +kernel) rfl, rfl, rfl⟩
theorem zF_X3_23 : zF RX3 23 3 3 true (.array .int) := ⟨_, _, _, zCl_3, by decide, zT_of 109 (by decide +kernel) rfl, rfl, rfl⟩
theorem zF_X3_26 : zF RX3 26 3 4 true (.array .int) := ⟨_, _, _, zCl_3, by decide, zT_of 110 (by decide +kernel) rfl, rfl, rfl⟩
theorem zF_X3_29 : zF RX3 29 3 5 true (.array .int) := ⟨_, _, _, zCl_3, by decide, zT_of 111 (by decide +kernel) rfl, rfl, rfl⟩
theorem zF_X3_32 : zF RX3 32 3 6 true (.array .int) := ⟨_, _, _, zCl_3, by decide, zT_of 112 (by decide +kernel) rfl, rfl, rfl⟩
theorem zF_X3_35 : zF RX3 35 3 7 false .int := ⟨_, _, _, zCl_3, by decide, zT_of 113 (by decide +kernel) rfl, rfl, rfl⟩
theorem zF_X3_43 : zF RX3 43 3 8 false .int := ⟨_, _, _, zCl_3, by decide, zT_of 114 (by decide +kernel) rfl, rfl, rfl⟩
theorem zF_X3_59 : zF RX3 59 3 9 false .int := ⟨_, _, _, zCl_3, by decide, zT_of 115 (by decide +kernel) rfl, rfl, rfl⟩
theorem zF_X3_62 : zF RX3 62 3 10 false .int := ⟨_, _, _, zCl_3, by decide, zT_of 116 (by decide +kernel) rfl, rfl, rfl⟩
theorem zF_X3_52 : zF RX3 52 3 11 false .boolean := ⟨_, _, _, zCl_3, by decide, zT_of 117 (by decide +kernel) rfl, rfl, rfl⟩
theorem zF_X7_25 : zF RX7 25 7 0 true (.object "MirrorTrue$Knives") := ⟨_, _, _, zCl_7, by decide, zT_of 150 (by decide +kernel) rfl, rfl, rfl⟩
theorem zF_X7_9 : zF RX7 9 7 1 true (.array .int) := ⟨_, _, _, zCl_7, by decide, zT_of 151 (by decide +kernel) rfl, rfl, rfl⟩
theorem zF_X7_15 : zF RX7 15 7 2 true (.array .int) := ⟨_, _, _, zCl_7, by decide, zT_of 152 (by decide +kernel) rfl, rfl, rfl⟩
theorem zF_X7_18 : zF RX7 18 7 3 true (.array .int) := ⟨_, _, _, zCl_7, by decide, zT_of 153 (by decide +kernel) rfl, rfl, rfl⟩
theorem zF_X7_21 : zF RX7 21 7 4 false .int := ⟨_, _, _, zCl_7, by decide, zT_of 154 (by decide +kernel) rfl, rfl, rfl⟩
theorem zF_X0_9 : zF RX0 9 0 0 true (.array .int) := ⟨_, _, _, zCl_0, by decide, zT_of 173 (by decide +kernel) rfl, rfl, rfl⟩
theorem zF_X0_15 : zF RX0 15 0 1 true (.array .int) := ⟨_, _, _, zCl_0, by decide, zT_of 174 (by decide +kernel) rfl, rfl, rfl⟩
theorem zF_X0_20 : zF RX0 20 0 2 true (.array (.array .int)) := ⟨_, _, _, zCl_0, by decide, zT_of 175 (by decide +kernel) rfl, rfl, rfl⟩
theorem zF_X0_23 : zF RX0 23 0 3 true (.array .int) := ⟨_, _, _, zCl_0, by decide, zT_of 176 (by decide +kernel) rfl, rfl, rfl⟩
theorem zF_X0_26 : zF RX0 26 0 4 true (.array .int) := ⟨_, _, _, zCl_0, by decide, zT_of 177 (by decide +kernel) rfl, rfl, rfl⟩
theorem zF_X0_29 : zF RX0 29 0 5 true (.array .int) := ⟨_, _, _, zCl_0, by decide, zT_of 178 (by decide +kernel) rfl, rfl, rfl⟩
theorem zF_X0_32 : zF RX0 32 0 6 true (.array (.array .int)) := ⟨_, _, _, zCl_0, by decide, zT_of 179 (by decide +kernel) rfl, rfl, rfl⟩
theorem zF_X0_35 : zF RX0 35 0 7 false .int := ⟨_, _, _, zCl_0, by decide, zT_of 180 (by decide +kernel) rfl, rfl, rfl⟩
theorem zF_X0_39 : zF RX0 39 0 8 false .int := ⟨_, _, _, zCl_0, by decide, zT_of 181 (by decide +kernel) rfl, rfl, rfl⟩
theorem zF_X0_42 : zF RX0 42 0 9 false .int := ⟨_, _, _, zCl_0, by decide, zT_of 182 (by decide +kernel) rfl, rfl, rfl⟩
theorem zF_X0_45 : zF RX0 45 0 10 false .int := ⟨_, _, _, zCl_0, by decide, zT_of 183 (by decide +kernel) rfl, rfl, rfl⟩
theorem zF_X4_32 : zF RX4 32 4 0 true (.object "MirrorTrue$Bench") := ⟨_, _, _, zCl_4, by decide, zT_of 215 (by decide +kernel) rfl, rfl, rfl⟩
theorem zF_X4_11 : zF RX4 11 4 1 true (.array .int) := ⟨_, _, _, zCl_4, by decide, zT_of 216 (by decide +kernel) rfl, rfl, rfl⟩
theorem zF_X4_17 : zF RX4 17 4 2 true (.array (.array .int)) := ⟨_, _, _, zCl_4, by decide, zT_of 217 (by decide +kernel) rfl, rfl, rfl⟩
theorem zF_X4_20 : zF RX4 20 4 3 true (.array .int) := ⟨_, _, _, zCl_4, by decide, zT_of 218 (by decide +kernel) rfl, rfl, rfl⟩
theorem zF_X4_23 : zF RX4 23 4 4 true (.array .int) := ⟨_, _, _, zCl_4, by decide, zT_of 219 (by decide +kernel) rfl, rfl, rfl⟩
theorem zF_X4_26 : zF RX4 26 4 5 true (.array .int) := ⟨_, _, _, zCl_4, by decide, zT_of 220 (by decide +kernel) rfl, rfl, rfl⟩
theorem zF_X4_29 : zF RX4 29 4 6 true (.array .int) := ⟨_, _, _, zCl_4, by decide, zT_of 221 (by decide +kernel) rfl, rfl, rfl⟩
theorem zF_X4_77 : zF RX4 77 4 7 false .int := ⟨_, _, _, zCl_4, by decide, zT_of 222 (by decide +kernel) rfl, rfl, rfl⟩
theorem zF_X4_46 : zF RX4 46 4 8 false .int := ⟨_, _, _, zCl_4, by decide, zT_of 223 (by decide +kernel) rfl, rfl, rfl⟩
theorem zF_X5_11 : zF RX5 11 5 0 true (.array (.array .int)) := ⟨_, _, _, zCl_5, by decide, zT_of 250 (by decide +kernel) rfl, rfl, rfl⟩
theorem zF_X5_16 : zF RX5 16 5 1 true (.array (.array .int)) := ⟨_, _, _, zCl_5, by decide, zT_of 251 (by decide +kernel) rfl, rfl, rfl⟩
theorem zF_X5_19 : zF RX5 19 5 2 true (.array .int) := ⟨_, _, _, zCl_5, by decide, zT_of 252 (by decide +kernel) rfl, rfl, rfl⟩
theorem zF_X5_23 : zF RX5 23 5 3 true (.array .int) := ⟨_, _, _, zCl_5, by decide, zT_of 253 (by decide +kernel) rfl, rfl, rfl⟩
theorem zF_X5_26 : zF RX5 26 5 4 false .int := ⟨_, _, _, zCl_5, by decide, zT_of 254 (by decide +kernel) rfl, rfl, rfl⟩
theorem zF_X5_43 : zF RX5 43 5 5 false .int := ⟨_, _, _, zCl_5, by decide, zT_of 255 (by decide +kernel) rfl, rfl, rfl⟩
theorem zF_X5_30 : zF RX5 30 5 6 false .boolean := ⟨_, _, _, zCl_5, by decide, zT_of 256 (by decide +kernel) rfl, rfl, rfl⟩
theorem zF_X6_9 : zF RX6 9 6 0 true (.array .int) := ⟨_, _, _, zCl_6, by decide, zT_of 278 (by decide +kernel) rfl, rfl, rfl⟩
theorem zF_X6_15 : zF RX6 15 6 1 true (.array .int) := ⟨_, _, _, zCl_6, by decide, zT_of 279 (by decide +kernel) rfl, rfl, rfl⟩
theorem zF_X6_18 : zF RX6 18 6 2 false .int := ⟨_, _, _, zCl_6, by decide, zT_of 280 (by decide +kernel) rfl, rfl, rfl⟩
theorem zF_X2_9 : zF RX2 9 2 0 true (.array .int) := ⟨_, _, _, zCl_2, by decide, zT_of 295 (by decide +kernel) rfl, rfl, rfl⟩
theorem zF_X2_15 : zF RX2 15 2 1 true (.array .int) := ⟨_, _, _, zCl_2, by decide, zT_of 296 (by decide +kernel) rfl, rfl, rfl⟩
theorem zF_X2_20 : zF RX2 20 2 2 true (.array (.array .int)) := ⟨_, _, _, zCl_2, by decide, zT_of 297 (by decide +kernel) rfl, rfl, rfl⟩
theorem zF_X2_23 : zF RX2 23 2 3 false .int := ⟨_, _, _, zCl_2, by decide, zT_of 298 (by decide +kernel) rfl, rfl, rfl⟩
theorem zF_X2_27 : zF RX2 27 2 4 false .int := ⟨_, _, _, zCl_2, by decide, zT_of 299 (by decide +kernel) rfl, rfl, rfl⟩
theorem zF_X2_30 : zF RX2 30 2 5 false .boolean := ⟨_, _, _, zCl_2, by decide, zT_of 300 (by decide +kernel) rfl, rfl, rfl⟩
theorem zF_X8_12 : zF RX8 12 8 0 true (.object "MirrorTrue$Curve") := ⟨_, _, _, zCl_8, by decide, zT_of 314 (by decide +kernel) rfl, rfl, rfl⟩
theorem zF_X8_19 : zF RX8 19 8 1 true (.object "MirrorTrue$Knives") := ⟨_, _, _, zCl_8, by decide, zT_of 315 (by decide +kernel) rfl, rfl, rfl⟩
theorem zF_X8_28 : zF RX8 28 8 2 true (.object "MirrorTrue$Wires") := ⟨_, _, _, zCl_8, by decide, zT_of 316 (by decide +kernel) rfl, rfl, rfl⟩
theorem zF_X8_35 : zF RX8 35 8 3 true (.object "MirrorTrue$Bench") := ⟨_, _, _, zCl_8, by decide, zT_of 317 (by decide +kernel) rfl, rfl, rfl⟩
theorem zF_X8_44 : zF RX8 44 8 4 true (.object "MirrorTrue$Planner") := ⟨_, _, _, zCl_8, by decide, zT_of 318 (by decide +kernel) rfl, rfl, rfl⟩
theorem zF_X8_51 : zF RX8 51 8 5 true (.object "MirrorTrue$Rings") := ⟨_, _, _, zCl_8, by decide, zT_of 319 (by decide +kernel) rfl, rfl, rfl⟩
theorem zF_X8_58 : zF RX8 58 8 6 true (.object "MirrorTrue$Shells") := ⟨_, _, _, zCl_8, by decide, zT_of 320 (by decide +kernel) rfl, rfl, rfl⟩
theorem zF_X8_65 : zF RX8 65 8 7 true (.object "MirrorTrue$Grits") := ⟨_, _, _, zCl_8, by decide, zT_of 321 (by decide +kernel) rfl, rfl, rfl⟩
theorem zF_X8_69 : zF RX8 69 8 8 false .int := ⟨_, _, _, zCl_8, by decide, zT_of 322 (by decide +kernel) rfl, rfl, rfl⟩
theorem zF_X9_7 : zF RX9 7 9 0 false .int := ⟨_, _, _, zCl_9, by decide, zT_of 876 (by decide +kernel) rfl, rfl, rfl⟩
theorem zF_X9_13 : zF RX9 13 9 1 true (.array .int) := ⟨_, _, _, zCl_9, by decide, zT_of 877 (by decide +kernel) rfl, rfl, rfl⟩
theorem zF_X9_17 : zF RX9 17 9 2 true (.array .int) := ⟨_, _, _, zCl_9, by decide, zT_of 878 (by decide +kernel) rfl, rfl, rfl⟩
theorem zF_X9_20 : zF RX9 20 9 3 false .int := ⟨_, _, _, zCl_9, by decide, zT_of 879 (by decide +kernel) rfl, rfl, rfl⟩
theorem zF_X9_23 : zF RX9 23 9 4 false .int := ⟨_, _, _, zCl_9, by decide, zT_of 880 (by decide +kernel) rfl, rfl, rfl⟩
theorem zF_X9_26 : zF RX9 26 9 5 false .int := ⟨_, _, _, zCl_9, by decide, zT_of 881 (by decide +kernel) rfl, rfl, rfl⟩
theorem zF_X9_29 : zF RX9 29 9 6 true (.array .int) := ⟨_, _, _, zCl_9, by decide, zT_of 882 (by decide +kernel) rfl, rfl, rfl⟩
theorem zF_X9_32 : zF RX9 32 9 7 false .int := ⟨_, _, _, zCl_9, by decide, zT_of 883 (by decide +kernel) rfl, rfl, rfl⟩
theorem zF_X9_110 : zF RX9 110 9 8 false .int := ⟨_, _, _, zCl_9, by decide, zT_of 884 (by decide +kernel) rfl, rfl, rfl⟩
theorem zF_X9_35 : zF RX9 35 9 9 true (.array .int) := ⟨_, _, _, zCl_9, by decide, zT_of 885 (by decide +kernel) rfl, rfl, rfl⟩
theorem zF_X9_38 : zF RX9 38 9 10 true (.array .int) := ⟨_, _, _, zCl_9, by decide, zT_of 886 (by decide +kernel) rfl, rfl, rfl⟩
theorem zF_X9_41 : zF RX9 41 9 11 true (.array .int) := ⟨_, _, _, zCl_9, by decide, zT_of 887 (by decide +kernel) rfl, rfl, rfl⟩
theorem zF_X9_44 : zF RX9 44 9 12 true (.array .int) := ⟨_, _, _, zCl_9, by decide, zT_of 888 (by decide +kernel) rfl, rfl, rfl⟩
theorem zF_X9_47 : zF RX9 47 9 13 false .int := ⟨_, _, _, zCl_9, by decide, zT_of 889 (by decide +kernel) rfl, rfl, rfl⟩
theorem zF_X9_113 : zF RX9 113 9 14 false .int := ⟨_, _, _, zCl_9, by decide, zT_of 890 (by decide +kernel) rfl, rfl, rfl⟩
theorem zF_X9_50 : zF RX9 50 9 15 true (.array .int) := ⟨_, _, _, zCl_9, by decide, zT_of 891 (by decide +kernel) rfl, rfl, rfl⟩
theorem zF_X9_53 : zF RX9 53 9 16 true (.array .int) := ⟨_, _, _, zCl_9, by decide, zT_of 892 (by decide +kernel) rfl, rfl, rfl⟩
theorem zF_X9_56 : zF RX9 56 9 17 true (.array .int) := ⟨_, _, _, zCl_9, by decide, zT_of 893 (by decide +kernel) rfl, rfl, rfl⟩
theorem zF_X9_59 : zF RX9 59 9 18 true (.array .int) := ⟨_, _, _, zCl_9, by decide, zT_of 894 (by decide +kernel) rfl, rfl, rfl⟩
theorem zF_X9_62 : zF RX9 62 9 19 true (.array .int) := ⟨_, _, _, zCl_9, by decide, zT_of 895 (by decide +kernel) rfl, rfl, rfl⟩
theorem zF_X9_65 : zF RX9 65 9 20 true (.array .int) := ⟨_, _, _, zCl_9, by decide, zT_of 896 (by decide +kernel) rfl, rfl, rfl⟩
theorem zF_X9_213 : zF RX9 213 9 21 false .int := ⟨_, _, _, zCl_9, by decide, zT_of 897 (by decide +kernel) rfl, rfl, rfl⟩
theorem zF_X9_68 : zF RX9 68 9 22 true (.array .int) := ⟨_, _, _, zCl_9, by decide, zT_of 898 (by decide +kernel) rfl, rfl, rfl⟩
theorem zF_X9_71 : zF RX9 71 9 23 true (.array .int) := ⟨_, _, _, zCl_9, by decide, zT_of 899 (by decide +kernel) rfl, rfl, rfl⟩
theorem zF_X9_216 : zF RX9 216 9 24 false .int := ⟨_, _, _, zCl_9, by decide, zT_of 900 (by decide +kernel) rfl, rfl, rfl⟩
theorem zF_X9_74 : zF RX9 74 9 25 true (.array .int) := ⟨_, _, _, zCl_9, by decide, zT_of 901 (by decide +kernel) rfl, rfl, rfl⟩
theorem zF_X9_77 : zF RX9 77 9 26 true (.array .int) := ⟨_, _, _, zCl_9, by decide, zT_of 902 (by decide +kernel) rfl, rfl, rfl⟩
theorem zF_X9_149 : zF RX9 149 9 27 false .int := ⟨_, _, _, zCl_9, by decide, zT_of 903 (by decide +kernel) rfl, rfl, rfl⟩
theorem zF_X9_80 : zF RX9 80 9 28 true (.array .int) := ⟨_, _, _, zCl_9, by decide, zT_of 904 (by decide +kernel) rfl, rfl, rfl⟩
theorem zF_X9_83 : zF RX9 83 9 29 true (.array .int) := ⟨_, _, _, zCl_9, by decide, zT_of 905 (by decide +kernel) rfl, rfl, rfl⟩
theorem zF_X9_86 : zF RX9 86 9 30 true (.array .boolean) := ⟨_, _, _, zCl_9, by decide, zT_of 906 (by decide +kernel) rfl, rfl, rfl⟩
theorem zF_X9_90 : zF RX9 90 9 31 true (.array .int) := ⟨_, _, _, zCl_9, by decide, zT_of 907 (by decide +kernel) rfl, rfl, rfl⟩
theorem zF_X9_93 : zF RX9 93 9 32 true (.array .int) := ⟨_, _, _, zCl_9, by decide, zT_of 908 (by decide +kernel) rfl, rfl, rfl⟩
theorem zF_X9_198 : zF RX9 198 9 33 false .int := ⟨_, _, _, zCl_9, by decide, zT_of 909 (by decide +kernel) rfl, rfl, rfl⟩
theorem zF_X9_96 : zF RX9 96 9 34 true (.array .int) := ⟨_, _, _, zCl_9, by decide, zT_of 910 (by decide +kernel) rfl, rfl, rfl⟩
theorem zF_X9_99 : zF RX9 99 9 35 true (.array .int) := ⟨_, _, _, zCl_9, by decide, zT_of 911 (by decide +kernel) rfl, rfl, rfl⟩
theorem zF_X9_103 : zF RX9 103 9 36 true (.array .int) := ⟨_, _, _, zCl_9, by decide, zT_of 912 (by decide +kernel) rfl, rfl, rfl⟩
theorem zKc_X8_89 : Cond.constantLong RX8 89 (-1000000000000000000) ∈ zT := zT_of 383 (by decide +kernel) rfl
theorem zKc_X1_21 : Cond.constantLong RX1 21 (4) ∈ zT := zT_of 388 (by decide +kernel) rfl
theorem zKc_X1_23 : Cond.constantLong RX1 23 (8) ∈ zT := zT_of 389 (by decide +kernel) rfl
theorem zKc_X1_35 : Cond.constantLong RX1 35 (-1000000000000000000) ∈ zT := zT_of 396 (by decide +kernel) rfl
theorem zKc_X8_99 : Cond.constant RX8 99 (-100000) ∈ zT := zT_of 405 (by decide +kernel) rfl
theorem zKc_X8_100 : Cond.constant RX8 100 (100000) ∈ zT := zT_of 406 (by decide +kernel) rfl
theorem zKc_X8_101 : Cond.constant RX8 101 (-1000000) ∈ zT := zT_of 407 (by decide +kernel) rfl
theorem zKc_J6_265 : Cond.constant RJ6 265 (1431655765) ∈ zT := zT_of 474 (by decide +kernel) rfl
theorem zKc_J6_266 : Cond.constant RJ6 266 (858993459) ∈ zT := zT_of 475 (by decide +kernel) rfl
theorem zKc_J6_267 : Cond.constant RJ6 267 (252645135) ∈ zT := zT_of 476 (by decide +kernel) rfl
theorem zKc_X3_65 : Cond.constant RX3 65 (1000000) ∈ zT := zT_of 517 (by decide +kernel) rfl
theorem zKc_X8_133 : Cond.constant RX8 133 (2000000) ∈ zT := zT_of 518 (by decide +kernel) rfl
theorem zKc_X7_44 : Cond.constant RX7 44 (1000000) ∈ zT := zT_of 544 (by decide +kernel) rfl
theorem zKc_X0_75 : Cond.constant RX0 75 (-100000) ∈ zT := zT_of 587 (by decide +kernel) rfl
theorem zKc_X8_158 : Cond.constant RX8 158 (-1000002) ∈ zT := zT_of 588 (by decide +kernel) rfl
theorem zKc_X8_162 : Cond.constant RX8 162 (-1000003) ∈ zT := zT_of 593 (by decide +kernel) rfl
theorem zKc_X9_102 : Cond.constant RX9 102 (102949) ∈ zT := zT_of 871 (by decide +kernel) rfl
theorem zKc_X9_120 : Cond.constantLong RX9 120 (-1000000000000000000) ∈ zT := zT_of 1004 (by decide +kernel) rfl
theorem zKc_X9_122 : Cond.constantLong RX9 122 (4) ∈ zT := zT_of 1005 (by decide +kernel) rfl
theorem zKc_X9_124 : Cond.constantLong RX9 124 (8) ∈ zT := zT_of 1006 (by decide +kernel) rfl
theorem zKc_X9_134 : Cond.constant RX9 134 (-100000) ∈ zT := zT_of 1018 (by decide +kernel) rfl
theorem zKc_X9_135 : Cond.constant RX9 135 (100000) ∈ zT := zT_of 1019 (by decide +kernel) rfl
theorem zKc_X9_136 : Cond.constant RX9 136 (-1000000) ∈ zT := zT_of 1020 (by decide +kernel) rfl
theorem zKc_X9_163 : Cond.constant RX9 163 (2000000) ∈ zT := zT_of 1068 (by decide +kernel) rfl
theorem zKc_X9_162 : Cond.constant RX9 162 (1000000) ∈ zT := zT_of 1073 (by decide +kernel) rfl
theorem zKc_X9_173 : Cond.constant RX9 173 (-1000002) ∈ zT := zT_of 1102 (by decide +kernel) rfl
theorem zKc_X9_174 : Cond.constant RX9 174 (-1000003) ∈ zT := zT_of 1103 (by decide +kernel) rfl
theorem zNc_L_7 : zNc RL 7 8 := ⟨_, _, _, zCl_8, zT_of 67 (by decide +kernel) rfl, zT_of 68 (by decide +kernel) rfl, zT_of 53 (by decide +kernel) rfl⟩
theorem zNc_X8_9 : zNc RX8 9 1 := ⟨_, _, _, zCl_1, zT_of 75 (by decide +kernel) rfl, zT_of 76 (by decide +kernel) rfl, zT_of 54 (by decide +kernel) rfl⟩
theorem zNc_X8_16 : zNc RX8 16 3 := ⟨_, _, _, zCl_3, zT_of 91 (by decide +kernel) rfl, zT_of 92 (by decide +kernel) rfl, zT_of 55 (by decide +kernel) rfl⟩
theorem zNa_X3_9 : Cond.classLink RX3 9 ("[" ++ (FieldType.array .int).toString) ∈ zT := zT_of 97 (by decide +kernel) rfl
theorem zNc_X8_23 : zNc RX8 23 7 := ⟨_, _, _, zCl_7, zT_of 144 (by decide +kernel) rfl, zT_of 145 (by decide +kernel) rfl, zT_of 57 (by decide +kernel) rfl⟩
theorem zNc_X8_32 : zNc RX8 32 0 := ⟨_, _, _, zCl_0, zT_of 166 (by decide +kernel) rfl, zT_of 167 (by decide +kernel) rfl, zT_of 58 (by decide +kernel) rfl⟩
theorem zNa_X0_18 : Cond.classLink RX0 18 ("[" ++ (FieldType.array .int).toString) ∈ zT := zT_of 172 (by decide +kernel) rfl
theorem zNc_X8_39 : zNc RX8 39 4 := ⟨_, _, _, zCl_4, zT_of 207 (by decide +kernel) rfl, zT_of 208 (by decide +kernel) rfl, zT_of 59 (by decide +kernel) rfl⟩
theorem zNa_X4_15 : Cond.classLink RX4 15 ("[" ++ (FieldType.array .int).toString) ∈ zT := zT_of 213 (by decide +kernel) rfl
theorem zNc_X8_48 : zNc RX8 48 5 := ⟨_, _, _, zCl_5, zT_of 243 (by decide +kernel) rfl, zT_of 244 (by decide +kernel) rfl, zT_of 60 (by decide +kernel) rfl⟩
theorem zNa_X5_9 : Cond.classLink RX5 9 ("[" ++ (FieldType.array .int).toString) ∈ zT := zT_of 249 (by decide +kernel) rfl
theorem zNc_X8_55 : zNc RX8 55 6 := ⟨_, _, _, zCl_6, zT_of 272 (by decide +kernel) rfl, zT_of 273 (by decide +kernel) rfl, zT_of 61 (by decide +kernel) rfl⟩
theorem zNc_X8_62 : zNc RX8 62 2 := ⟨_, _, _, zCl_2, zT_of 288 (by decide +kernel) rfl, zT_of 289 (by decide +kernel) rfl, zT_of 62 (by decide +kernel) rfl⟩
theorem zNa_X2_18 : Cond.classLink RX2 18 ("[" ++ (FieldType.array .int).toString) ∈ zT := zT_of 294 (by decide +kernel) rfl
theorem zNc_L_10 : zNc RL 10 9 := ⟨_, _, _, zCl_9, zT_of 865 (by decide +kernel) rfl, zT_of 866 (by decide +kernel) rfl, zT_of 63 (by decide +kernel) rfl⟩
theorem zAi : Cond.arrayClass .int ∈ zT := zT_of 143 (by decide +kernel) rfl
theorem zAz : Cond.arrayClass .boolean ∈ zT := zT_of 988 (by decide +kernel) rfl
abbrev mX0_init : zMt := (yX0_init, cX0_init, 1, none, 18, 88)
theorem zCm_X0_init : zCm mX0_init := ⟨zT_of 170 (by decide +kernel) rfl, zT_of 58 (by decide +kernel) rfl, by decide +kernel, by decide, by decide +kernel⟩
theorem zNp_X0_init : zNp mX0_init 0 := by unfold zNp; decide +kernel
theorem zII_X0_init : Cond.instanceMethod mX0_init.1 ∈ zT := zT_of 169 (by decide +kernel) rfl
abbrev mX0_begin : zMt := (yX0_begin, cX0_begin, 2, none, 0, 0)
theorem zCm_X0_begin : zCm mX0_begin := ⟨zT_of 357 (by decide +kernel) rfl, zT_of 58 (by decide +kernel) rfl, by decide +kernel, by decide, by decide +kernel⟩
theorem zPV_X0_begin : zPV mX0_begin 1 0 := ⟨zCm_X0_begin, ⟨zT_of 355 (by decide +kernel) rfl, zT_of 356 (by decide +kernel) rfl⟩, by unfold zNp; decide +kernel, by decide, rfl, rfl⟩
abbrev mX0_keepAsTold : zMt := (yX0_keepAsTold, cX0_keepAsTold, 1, none, 0, 0)
theorem zCm_X0_keepAsTold : zCm mX0_keepAsTold := ⟨zT_of 362 (by decide +kernel) rfl, zT_of 58 (by decide +kernel) rfl, by decide +kernel, by decide, by decide +kernel⟩
theorem zPV_X0_keepAsTold : zPV mX0_keepAsTold 0 0 := ⟨zCm_X0_keepAsTold, ⟨zT_of 361 (by decide +kernel) rfl, zT_of 0 (by decide +kernel) rfl⟩, by unfold zNp; decide +kernel, by decide, rfl, rfl⟩
abbrev mX0_tellHeight : zMt := (yX0_tellHeight, cX0_tellHeight, 4, (some .int), 0, 0)
theorem zCm_X0_tellHeight : zCm mX0_tellHeight := ⟨zT_of 411 (by decide +kernel) rfl, zT_of 58 (by decide +kernel) rfl, by decide +kernel, by decide, by decide +kernel⟩
theorem zPV_X0_tellHeight : zPV mX0_tellHeight 2 0 := ⟨zCm_X0_tellHeight, ⟨zT_of 409 (by decide +kernel) rfl, zT_of 410 (by decide +kernel) rfl⟩, by unfold zNp; decide +kernel, by decide, rfl, rfl⟩
abbrev mX0_tellPull : zMt := (yX0_tellPull, cX0_tellPull, 5, (some .int), 0, 0)
theorem zCm_X0_tellPull : zCm mX0_tellPull := ⟨zT_of 561 (by decide +kernel) rfl, zT_of 58 (by decide +kernel) rfl, by decide +kernel, by decide, by decide +kernel⟩
theorem zPV_X0_tellPull : zPV mX0_tellPull 3 0 := ⟨zCm_X0_tellPull, ⟨zT_of 559 (by decide +kernel) rfl, zT_of 560 (by decide +kernel) rfl⟩, by unfold zNp; decide +kernel, by decide, rfl, rfl⟩
abbrev mX0_tellRest : zMt := (yX0_tellRest, cX0_tellRest, 3, (some .int), 0, 0)
theorem zCm_X0_tellRest : zCm mX0_tellRest := ⟨zT_of 569 (by decide +kernel) rfl, zT_of 58 (by decide +kernel) rfl, by decide +kernel, by decide, by decide +kernel⟩
theorem zPV_X0_tellRest : zPV mX0_tellRest 1 0 := ⟨zCm_X0_tellRest, ⟨zT_of 567 (by decide +kernel) rfl, zT_of 568 (by decide +kernel) rfl⟩, by unfold zNp; decide +kernel, by decide, rfl, rfl⟩
abbrev mX0_howManyZones : zMt := (yX0_howManyZones, cX0_howManyZones, 1, (some .int), 0, 0)
theorem zCm_X0_howManyZones : zCm mX0_howManyZones := ⟨zT_of 641 (by decide +kernel) rfl, zT_of 58 (by decide +kernel) rfl, by decide +kernel, by decide, by decide +kernel⟩
theorem zPV_X0_howManyZones : zPV mX0_howManyZones 0 0 := ⟨zCm_X0_howManyZones, ⟨zT_of 639 (by decide +kernel) rfl, zT_of 640 (by decide +kernel) rfl⟩, by unfold zNp; decide +kernel, by decide, rfl, rfl⟩
abbrev mX0_heightOf : zMt := (yX0_heightOf, cX0_heightOf, 2, (some .int), 0, 0)
theorem zCm_X0_heightOf : zCm mX0_heightOf := ⟨zT_of 419 (by decide +kernel) rfl, zT_of 58 (by decide +kernel) rfl, by decide +kernel, by decide, by decide +kernel⟩
theorem zPV_X0_heightOf : zPV mX0_heightOf 1 0 := ⟨zCm_X0_heightOf, ⟨zT_of 417 (by decide +kernel) rfl, zT_of 418 (by decide +kernel) rfl⟩, by unfold zNp; decide +kernel, by decide, rfl, rfl⟩
abbrev mX0_pullOf : zMt := (yX0_pullOf, cX0_pullOf, 3, (some .int), 0, 0)
theorem zCm_X0_pullOf : zCm mX0_pullOf := ⟨zT_of 586 (by decide +kernel) rfl, zT_of 58 (by decide +kernel) rfl, by decide +kernel, by decide, by decide +kernel⟩
theorem zPV_X0_pullOf : zPV mX0_pullOf 2 0 := ⟨zCm_X0_pullOf, ⟨zT_of 584 (by decide +kernel) rfl, zT_of 585 (by decide +kernel) rfl⟩, by unfold zNp; decide +kernel, by decide, rfl, rfl⟩
abbrev mX0_restOf : zMt := (yX0_restOf, cX0_restOf, 1, (some .int), 0, 0)
theorem zCm_X0_restOf : zCm mX0_restOf := ⟨zT_of 645 (by decide +kernel) rfl, zT_of 58 (by decide +kernel) rfl, by decide +kernel, by decide, by decide +kernel⟩
theorem zPV_X0_restOf : zPV mX0_restOf 0 0 := ⟨zCm_X0_restOf, ⟨zT_of 643 (by decide +kernel) rfl, zT_of 644 (by decide +kernel) rfl⟩, by unfold zNp; decide +kernel, by decide, rfl, rfl⟩
abbrev mX0_howManyChanges : zMt := (yX0_howManyChanges, cX0_howManyChanges, 1, (some .int), 0, 0)
theorem zCm_X0_howManyChanges : zCm mX0_howManyChanges := ⟨zT_of 633 (by decide +kernel) rfl, zT_of 58 (by decide +kernel) rfl, by decide +kernel, by decide, by decide +kernel⟩
theorem zPV_X0_howManyChanges : zPV mX0_howManyChanges 0 0 := ⟨zCm_X0_howManyChanges, ⟨zT_of 631 (by decide +kernel) rfl, zT_of 632 (by decide +kernel) rfl⟩, by unfold zNp; decide +kernel, by decide, rfl, rfl⟩
abbrev mX0_howMany : zMt := (yX0_howMany, cX0_howMany, 1, (some .int), 0, 0)
theorem zCm_X0_howMany : zCm mX0_howMany := ⟨zT_of 605 (by decide +kernel) rfl, zT_of 58 (by decide +kernel) rfl, by decide +kernel, by decide, by decide +kernel⟩
theorem zPV_X0_howMany : zPV mX0_howMany 0 0 := ⟨zCm_X0_howMany, ⟨zT_of 603 (by decide +kernel) rfl, zT_of 604 (by decide +kernel) rfl⟩, by unfold zNp; decide +kernel, by decide, rfl, rfl⟩
abbrev mX0_roomLeft : zMt := (yX0_roomLeft, cX0_roomLeft, 1, (some .int), 0, 0)
theorem zCm_X0_roomLeft : zCm mX0_roomLeft := ⟨zT_of 592 (by decide +kernel) rfl, zT_of 58 (by decide +kernel) rfl, by decide +kernel, by decide, by decide +kernel⟩
theorem zPV_X0_roomLeft : zPV mX0_roomLeft 0 0 := ⟨zCm_X0_roomLeft, ⟨zT_of 590 (by decide +kernel) rfl, zT_of 591 (by decide +kernel) rfl⟩, by unfold zNp; decide +kernel, by decide, rfl, rfl⟩
abbrev mX0_minutesTogether : zMt := (yX0_minutesTogether, cX0_minutesTogether, 3, (some .int), 0, 0)
theorem zCm_X0_minutesTogether : zCm mX0_minutesTogether := ⟨zT_of 864 (by decide +kernel) rfl, zT_of 58 (by decide +kernel) rfl, by decide +kernel, by decide, by decide +kernel⟩
theorem zPV_X0_minutesTogether : zPV mX0_minutesTogether 0 0 := ⟨zCm_X0_minutesTogether, ⟨zT_of 862 (by decide +kernel) rfl, zT_of 863 (by decide +kernel) rfl⟩, by unfold zNp; decide +kernel, by decide, rfl, rfl⟩
abbrev mX0_wouldSink : zMt := (yX0_wouldSink, cX0_wouldSink, 5, (some .boolean), 0, 0)
theorem zCm_X0_wouldSink : zCm mX0_wouldSink := ⟨zT_of 577 (by decide +kernel) rfl, zT_of 58 (by decide +kernel) rfl, by decide +kernel, by decide, by decide +kernel⟩
theorem zPV_X0_wouldSink : zPV mX0_wouldSink 3 0 := ⟨zCm_X0_wouldSink, ⟨zT_of 575 (by decide +kernel) rfl, zT_of 576 (by decide +kernel) rfl⟩, by unfold zNp; decide +kernel, by decide, rfl, rfl⟩
abbrev mX0_isThere : zMt := (yX0_isThere, cX0_isThere, 2, (some .boolean), 0, 0)
theorem zCm_X0_isThere : zCm mX0_isThere := ⟨zT_of 581 (by decide +kernel) rfl, zT_of 58 (by decide +kernel) rfl, by decide +kernel, by decide, by decide +kernel⟩
theorem zPV_X0_isThere : zPV mX0_isThere 1 0 := ⟨zCm_X0_isThere, ⟨zT_of 580 (by decide +kernel) rfl, zT_of 12 (by decide +kernel) rfl⟩, by unfold zNp; decide +kernel, by decide, rfl, rfl⟩
abbrev mX0_doStroke : zMt := (yX0_doStroke, cX0_doStroke, 6, none, 0, 0)
theorem zCm_X0_doStroke : zCm mX0_doStroke := ⟨zT_of 597 (by decide +kernel) rfl, zT_of 58 (by decide +kernel) rfl, by decide +kernel, by decide, by decide +kernel⟩
theorem zPV_X0_doStroke : zPV mX0_doStroke 3 0 := ⟨zCm_X0_doStroke, ⟨zT_of 595 (by decide +kernel) rfl, zT_of 596 (by decide +kernel) rfl⟩, by unfold zNp; decide +kernel, by decide, rfl, rfl⟩
abbrev mX0_undoLatest : zMt := (yX0_undoLatest, cX0_undoLatest, 3, none, 0, 0)
theorem zCm_X0_undoLatest : zCm mX0_undoLatest := ⟨zT_of 609 (by decide +kernel) rfl, zT_of 58 (by decide +kernel) rfl, by decide +kernel, by decide, by decide +kernel⟩
theorem zPV_X0_undoLatest : zPV mX0_undoLatest 0 0 := ⟨zCm_X0_undoLatest, ⟨zT_of 607 (by decide +kernel) rfl, zT_of 608 (by decide +kernel) rfl⟩, by unfold zNp; decide +kernel, by decide, rfl, rfl⟩
abbrev mX0_replayed : zMt := (yX0_replayed, cX0_replayed, 6, (some .int), 0, 0)
theorem zCm_X0_replayed : zCm mX0_replayed := ⟨zT_of 617 (by decide +kernel) rfl, zT_of 58 (by decide +kernel) rfl, by decide +kernel, by decide, by decide +kernel⟩
theorem zPV_X0_replayed : zPV mX0_replayed 2 0 := ⟨zCm_X0_replayed, ⟨zT_of 615 (by decide +kernel) rfl, zT_of 616 (by decide +kernel) rfl⟩, by unfold zNp; decide +kernel, by decide, rfl, rfl⟩
abbrev mX1_init : zMt := (yX1_init, cX1_init, 1, none, 0, 0)
theorem zCm_X1_init : zCm mX1_init := ⟨zT_of 79 (by decide +kernel) rfl, zT_of 54 (by decide +kernel) rfl, by decide +kernel, by decide, by decide +kernel⟩
theorem zNp_X1_init : zNp mX1_init 0 := by unfold zNp; decide +kernel
theorem zII_X1_init : Cond.instanceMethod mX1_init.1 ∈ zT := zT_of 78 (by decide +kernel) rfl
abbrev mX1_become : zMt := (yX1_become, cX1_become, 4, none, 0, 0)
theorem zCm_X1_become : zCm mX1_become := ⟨zT_of 378 (by decide +kernel) rfl, zT_of 54 (by decide +kernel) rfl, by decide +kernel, by decide, by decide +kernel⟩
theorem zPV_X1_become : zPV mX1_become 3 1 := ⟨zCm_X1_become, ⟨zT_of 376 (by decide +kernel) rfl, zT_of 377 (by decide +kernel) rfl⟩, by unfold zNp; decide +kernel, by decide, rfl, rfl⟩
abbrev mX1_depthAt : zMt := (yX1_depthAt, cX1_depthAt, 11, (some .long), 0, 0)
theorem zCm_X1_depthAt : zCm mX1_depthAt := ⟨zT_of 387 (by decide +kernel) rfl, zT_of 54 (by decide +kernel) rfl, by decide +kernel, by decide, by decide +kernel⟩
theorem zPV_X1_depthAt : zPV mX1_depthAt 2 1 := ⟨zCm_X1_depthAt, ⟨zT_of 385 (by decide +kernel) rfl, zT_of 386 (by decide +kernel) rfl⟩, by unfold zNp; decide +kernel, by decide, rfl, rfl⟩
abbrev mX1_sharedDivisor : zMt := (yX1_sharedDivisor, cX1_sharedDivisor, 7, (some .long), 0, 0)
theorem zCm_X1_sharedDivisor : zCm mX1_sharedDivisor := ⟨zT_of 395 (by decide +kernel) rfl, zT_of 54 (by decide +kernel) rfl, by decide +kernel, by decide, by decide +kernel⟩
theorem zPS_X1_sharedDivisor : zPS mX1_sharedDivisor 2 := ⟨zCm_X1_sharedDivisor, zT_of 394 (by decide +kernel) rfl, by unfold zNp; decide +kernel, rfl⟩
abbrev mX2_init : zMt := (yX2_init, cX2_init, 1, none, 118, 128)
theorem zCm_X2_init : zCm mX2_init := ⟨zT_of 292 (by decide +kernel) rfl, zT_of 62 (by decide +kernel) rfl, by decide +kernel, by decide, by decide +kernel⟩
theorem zNp_X2_init : zNp mX2_init 0 := by unfold zNp; decide +kernel
theorem zII_X2_init : Cond.instanceMethod mX2_init.1 ∈ zT := zT_of 291 (by decide +kernel) rfl
abbrev mX2_howMany : zMt := (yX2_howMany, cX2_howMany, 1, (some .int), 0, 0)
theorem zCm_X2_howMany : zCm mX2_howMany := ⟨zT_of 803 (by decide +kernel) rfl, zT_of 62 (by decide +kernel) rfl, by decide +kernel, by decide, by decide +kernel⟩
theorem zPV_X2_howMany : zPV mX2_howMany 0 2 := ⟨zCm_X2_howMany, ⟨zT_of 801 (by decide +kernel) rfl, zT_of 802 (by decide +kernel) rfl⟩, by unfold zNp; decide +kernel, by decide, rfl, rfl⟩
abbrev mX2_come : zMt := (yX2_come, cX2_come, 3, (some .int), 0, 0)
theorem zCm_X2_come : zCm mX2_come := ⟨zT_of 807 (by decide +kernel) rfl, zT_of 62 (by decide +kernel) rfl, by decide +kernel, by decide, by decide +kernel⟩
theorem zPV_X2_come : zPV mX2_come 2 2 := ⟨zCm_X2_come, ⟨zT_of 805 (by decide +kernel) rfl, zT_of 806 (by decide +kernel) rfl⟩, by unfold zNp; decide +kernel, by decide, rfl, rfl⟩
abbrev mX2_tellSlack : zMt := (yX2_tellSlack, cX2_tellSlack, 3, (some .int), 0, 0)
theorem zCm_X2_tellSlack : zCm mX2_tellSlack := ⟨zT_of 815 (by decide +kernel) rfl, zT_of 62 (by decide +kernel) rfl, by decide +kernel, by decide, by decide +kernel⟩
theorem zPV_X2_tellSlack : zPV mX2_tellSlack 1 2 := ⟨zCm_X2_tellSlack, ⟨zT_of 813 (by decide +kernel) rfl, zT_of 814 (by decide +kernel) rfl⟩, by unfold zNp; decide +kernel, by decide, rfl, rfl⟩
abbrev mX2_fewestFor : zMt := (yX2_fewestFor, cX2_fewestFor, 3, (some .int), 0, 0)
theorem zCm_X2_fewestFor : zCm mX2_fewestFor := ⟨zT_of 823 (by decide +kernel) rfl, zT_of 62 (by decide +kernel) rfl, by decide +kernel, by decide, by decide +kernel⟩
theorem zPV_X2_fewestFor : zPV mX2_fewestFor 1 2 := ⟨zCm_X2_fewestFor, ⟨zT_of 821 (by decide +kernel) rfl, zT_of 822 (by decide +kernel) rfl⟩, by unfold zNp; decide +kernel, by decide, rfl, rfl⟩
abbrev mX2_wetsOf : zMt := (yX2_wetsOf, cX2_wetsOf, 8, (some .int), 0, 0)
theorem zCm_X2_wetsOf : zCm mX2_wetsOf := ⟨zT_of 850 (by decide +kernel) rfl, zT_of 62 (by decide +kernel) rfl, by decide +kernel, by decide, by decide +kernel⟩
theorem zPV_X2_wetsOf : zPV mX2_wetsOf 2 2 := ⟨zCm_X2_wetsOf, ⟨zT_of 848 (by decide +kernel) rfl, zT_of 849 (by decide +kernel) rfl⟩, by unfold zNp; decide +kernel, by decide, rfl, rfl⟩
abbrev mX2_mostThatServe : zMt := (yX2_mostThatServe, cX2_mostThatServe, 7, (some .int), 0, 0)
theorem zCm_X2_mostThatServe : zCm mX2_mostThatServe := ⟨zT_of 855 (by decide +kernel) rfl, zT_of 62 (by decide +kernel) rfl, by decide +kernel, by decide, by decide +kernel⟩
theorem zPV_X2_mostThatServe : zPV mX2_mostThatServe 4 2 := ⟨zCm_X2_mostThatServe, ⟨zT_of 854 (by decide +kernel) rfl, zT_of 31 (by decide +kernel) rfl⟩, by unfold zNp; decide +kernel, by decide, rfl, rfl⟩
abbrev mX2_clears : zMt := (yX2_clears, cX2_clears, 3, (some .boolean), 0, 0)
theorem zCm_X2_clears : zCm mX2_clears := ⟨zT_of 840 (by decide +kernel) rfl, zT_of 62 (by decide +kernel) rfl, by decide +kernel, by decide, by decide +kernel⟩
theorem zPV_X2_clears : zPV mX2_clears 2 2 := ⟨zCm_X2_clears, ⟨zT_of 839 (by decide +kernel) rfl, zT_of 29 (by decide +kernel) rfl⟩, by unfold zNp; decide +kernel, by decide, rfl, rfl⟩
abbrev mX2_fewestWithin : zMt := (yX2_fewestWithin, cX2_fewestWithin, 7, (some .int), 0, 0)
theorem zCm_X2_fewestWithin : zCm mX2_fewestWithin := ⟨zT_of 845 (by decide +kernel) rfl, zT_of 62 (by decide +kernel) rfl, by decide +kernel, by decide, by decide +kernel⟩
theorem zPV_X2_fewestWithin : zPV mX2_fewestWithin 3 2 := ⟨zCm_X2_fewestWithin, ⟨zT_of 844 (by decide +kernel) rfl, zT_of 30 (by decide +kernel) rfl⟩, by unfold zNp; decide +kernel, by decide, rfl, rfl⟩
abbrev mX2_settle : zMt := (yX2_settle, cX2_settle, 3, none, 0, 0)
theorem zCm_X2_settle : zCm mX2_settle := ⟨zT_of 827 (by decide +kernel) rfl, zT_of 62 (by decide +kernel) rfl, by decide +kernel, by decide, by decide +kernel⟩
theorem zPV_X2_settle : zPV mX2_settle 0 2 := ⟨zCm_X2_settle, ⟨zT_of 826 (by decide +kernel) rfl, zT_of 26 (by decide +kernel) rfl⟩, by unfold zNp; decide +kernel, by decide, rfl, rfl⟩
abbrev mX2_bring : zMt := (yX2_bring, cX2_bring, 5, none, 0, 0)
theorem zCm_X2_bring : zCm mX2_bring := ⟨zT_of 832 (by decide +kernel) rfl, zT_of 62 (by decide +kernel) rfl, by decide +kernel, by decide, by decide +kernel⟩
theorem zPV_X2_bring : zPV mX2_bring 2 2 := ⟨zCm_X2_bring, ⟨zT_of 831 (by decide +kernel) rfl, zT_of 27 (by decide +kernel) rfl⟩, by unfold zNp; decide +kernel, by decide, rfl, rfl⟩
abbrev mX2_bringFrom : zMt := (yX2_bringFrom, cX2_bringFrom, 8, none, 0, 0)
theorem zCm_X2_bringFrom : zCm mX2_bringFrom := ⟨zT_of 836 (by decide +kernel) rfl, zT_of 62 (by decide +kernel) rfl, by decide +kernel, by decide, by decide +kernel⟩
theorem zPV_X2_bringFrom : zPV mX2_bringFrom 3 2 := ⟨zCm_X2_bringFrom, ⟨zT_of 835 (by decide +kernel) rfl, zT_of 28 (by decide +kernel) rfl⟩, by unfold zNp; decide +kernel, by decide, rfl, rfl⟩
abbrev mX3_init : zMt := (yX3_init, cX3_init, 1, none, 3, 13)
theorem zCm_X3_init : zCm mX3_init := ⟨zT_of 95 (by decide +kernel) rfl, zT_of 55 (by decide +kernel) rfl, by decide +kernel, by decide, by decide +kernel⟩
theorem zNp_X3_init : zNp mX3_init 0 := by unfold zNp; decide +kernel
theorem zII_X3_init : Cond.instanceMethod mX3_init.1 ∈ zT := zT_of 94 (by decide +kernel) rfl
abbrev mX3_begin : zMt := (yX3_begin, cX3_begin, 6, none, 0, 0)
theorem zCm_X3_begin : zCm mX3_begin := ⟨zT_of 102 (by decide +kernel) rfl, zT_of 55 (by decide +kernel) rfl, by decide +kernel, by decide, by decide +kernel⟩
theorem zPV_X3_begin : zPV mX3_begin 1 3 := ⟨zCm_X3_begin, ⟨zT_of 100 (by decide +kernel) rfl, zT_of 101 (by decide +kernel) rfl⟩, by unfold zNp; decide +kernel, by decide, rfl, rfl⟩
abbrev mX3_tellReading : zMt := (yX3_tellReading, cX3_tellReading, 5, (some .int), 0, 0)
theorem zCm_X3_tellReading : zCm mX3_tellReading := ⟨zT_of 431 (by decide +kernel) rfl, zT_of 55 (by decide +kernel) rfl, by decide +kernel, by decide, by decide +kernel⟩
theorem zPV_X3_tellReading : zPV mX3_tellReading 3 3 := ⟨zCm_X3_tellReading, ⟨zT_of 429 (by decide +kernel) rfl, zT_of 430 (by decide +kernel) rfl⟩, by unfold zNp; decide +kernel, by decide, rfl, rfl⟩
abbrev mX3_tellLie : zMt := (yX3_tellLie, cX3_tellLie, 3, (some .int), 0, 0)
theorem zCm_X3_tellLie : zCm mX3_tellLie := ⟨zT_of 439 (by decide +kernel) rfl, zT_of 55 (by decide +kernel) rfl, by decide +kernel, by decide, by decide +kernel⟩
theorem zPV_X3_tellLie : zPV mX3_tellLie 1 3 := ⟨zCm_X3_tellLie, ⟨zT_of 437 (by decide +kernel) rfl, zT_of 438 (by decide +kernel) rfl⟩, by unfold zNp; decide +kernel, by decide, rfl, rfl⟩
abbrev mX3_howManyTold : zMt := (yX3_howManyTold, cX3_howManyTold, 10, (some .int), 0, 0)
theorem zCm_X3_howManyTold : zCm mX3_howManyTold := ⟨zT_of 480 (by decide +kernel) rfl, zT_of 55 (by decide +kernel) rfl, by decide +kernel, by decide, by decide +kernel⟩
theorem zPV_X3_howManyTold : zPV mX3_howManyTold 0 3 := ⟨zCm_X3_howManyTold, ⟨zT_of 478 (by decide +kernel) rfl, zT_of 479 (by decide +kernel) rfl⟩, by unfold zNp; decide +kernel, by decide, rfl, rfl⟩
abbrev mX3_howManyDropped : zMt := (yX3_howManyDropped, cX3_howManyDropped, 1, (some .int), 0, 0)
theorem zCm_X3_howManyDropped : zCm mX3_howManyDropped := ⟨zT_of 447 (by decide +kernel) rfl, zT_of 55 (by decide +kernel) rfl, by decide +kernel, by decide, by decide +kernel⟩
theorem zPV_X3_howManyDropped : zPV mX3_howManyDropped 0 3 := ⟨zCm_X3_howManyDropped, ⟨zT_of 445 (by decide +kernel) rfl, zT_of 446 (by decide +kernel) rfl⟩, by unfold zNp; decide +kernel, by decide, rfl, rfl⟩
abbrev mX3_shiftOf : zMt := (yX3_shiftOf, cX3_shiftOf, 2, (some .int), 0, 0)
theorem zCm_X3_shiftOf : zCm mX3_shiftOf := ⟨zT_of 500 (by decide +kernel) rfl, zT_of 55 (by decide +kernel) rfl, by decide +kernel, by decide, by decide +kernel⟩
theorem zPV_X3_shiftOf : zPV mX3_shiftOf 1 3 := ⟨zCm_X3_shiftOf, ⟨zT_of 498 (by decide +kernel) rfl, zT_of 499 (by decide +kernel) rfl⟩, by unfold zNp; decide +kernel, by decide, rfl, rfl⟩
abbrev mX3_stepOf : zMt := (yX3_stepOf, cX3_stepOf, 2, (some .int), 0, 0)
theorem zCm_X3_stepOf : zCm mX3_stepOf := ⟨zT_of 508 (by decide +kernel) rfl, zT_of 55 (by decide +kernel) rfl, by decide +kernel, by decide, by decide +kernel⟩
theorem zPV_X3_stepOf : zPV mX3_stepOf 1 3 := ⟨zCm_X3_stepOf, ⟨zT_of 506 (by decide +kernel) rfl, zT_of 507 (by decide +kernel) rfl⟩, by unfold zNp; decide +kernel, by decide, rfl, rfl⟩
abbrev mX3_profileOf : zMt := (yX3_profileOf, cX3_profileOf, 2, (some .int), 0, 0)
theorem zCm_X3_profileOf : zCm mX3_profileOf := ⟨zT_of 516 (by decide +kernel) rfl, zT_of 55 (by decide +kernel) rfl, by decide +kernel, by decide, by decide +kernel⟩
theorem zPV_X3_profileOf : zPV mX3_profileOf 1 3 := ⟨zCm_X3_profileOf, ⟨zT_of 514 (by decide +kernel) rfl, zT_of 515 (by decide +kernel) rfl⟩, by unfold zNp; decide +kernel, by decide, rfl, rfl⟩
abbrev mX3_lieOf : zMt := (yX3_lieOf, cX3_lieOf, 1, (some .int), 0, 0)
theorem zCm_X3_lieOf : zCm mX3_lieOf := ⟨zT_of 549 (by decide +kernel) rfl, zT_of 55 (by decide +kernel) rfl, by decide +kernel, by decide, by decide +kernel⟩
theorem zPV_X3_lieOf : zPV mX3_lieOf 0 3 := ⟨zCm_X3_lieOf, ⟨zT_of 547 (by decide +kernel) rfl, zT_of 548 (by decide +kernel) rfl⟩, by unfold zNp; decide +kernel, by decide, rfl, rfl⟩
abbrev mX3_settle : zMt := (yX3_settle, cX3_settle, 2, none, 0, 0)
theorem zCm_X3_settle : zCm mX3_settle := ⟨zT_of 451 (by decide +kernel) rfl, zT_of 55 (by decide +kernel) rfl, by decide +kernel, by decide, by decide +kernel⟩
theorem zPV_X3_settle : zPV mX3_settle 0 3 := ⟨zCm_X3_settle, ⟨zT_of 450 (by decide +kernel) rfl, zT_of 3 (by decide +kernel) rfl⟩, by unfold zNp; decide +kernel, by decide, rfl, rfl⟩
abbrev mX3_settleAgreements : zMt := (yX3_settleAgreements, cX3_settleAgreements, 2, none, 0, 0)
theorem zCm_X3_settleAgreements : zCm mX3_settleAgreements := ⟨zT_of 455 (by decide +kernel) rfl, zT_of 55 (by decide +kernel) rfl, by decide +kernel, by decide, by decide +kernel⟩
theorem zPV_X3_settleAgreements : zPV mX3_settleAgreements 0 3 := ⟨zCm_X3_settleAgreements, ⟨zT_of 454 (by decide +kernel) rfl, zT_of 4 (by decide +kernel) rfl⟩, by unfold zNp; decide +kernel, by decide, rfl, rfl⟩
abbrev mX3_stepsOfAgreement : zMt := (yX3_stepsOfAgreement, cX3_stepsOfAgreement, 8, (some .int), 0, 0)
theorem zCm_X3_stepsOfAgreement : zCm mX3_stepsOfAgreement := ⟨zT_of 459 (by decide +kernel) rfl, zT_of 55 (by decide +kernel) rfl, by decide +kernel, by decide, by decide +kernel⟩
theorem zPV_X3_stepsOfAgreement : zPV mX3_stepsOfAgreement 3 3 := ⟨zCm_X3_stepsOfAgreement, ⟨zT_of 458 (by decide +kernel) rfl, zT_of 5 (by decide +kernel) rfl⟩, by unfold zNp; decide +kernel, by decide, rfl, rfl⟩
abbrev mX3_settleShifts : zMt := (yX3_settleShifts, cX3_settleShifts, 7, none, 0, 0)
theorem zCm_X3_settleShifts : zCm mX3_settleShifts := ⟨zT_of 466 (by decide +kernel) rfl, zT_of 55 (by decide +kernel) rfl, by decide +kernel, by decide, by decide +kernel⟩
theorem zPV_X3_settleShifts : zPV mX3_settleShifts 0 3 := ⟨zCm_X3_settleShifts, ⟨zT_of 465 (by decide +kernel) rfl, zT_of 6 (by decide +kernel) rfl⟩, by unfold zNp; decide +kernel, by decide, rfl, rfl⟩
abbrev mX3_keptMore : zMt := (yX3_keptMore, cX3_keptMore, 6, (some .int), 0, 0)
theorem zCm_X3_keptMore : zCm mX3_keptMore := ⟨zT_of 470 (by decide +kernel) rfl, zT_of 55 (by decide +kernel) rfl, by decide +kernel, by decide, by decide +kernel⟩
theorem zPV_X3_keptMore : zPV mX3_keptMore 2 3 := ⟨zCm_X3_keptMore, ⟨zT_of 469 (by decide +kernel) rfl, zT_of 7 (by decide +kernel) rfl⟩, by unfold zNp; decide +kernel, by decide, rfl, rfl⟩
abbrev mX3_stepsTold : zMt := (yX3_stepsTold, cX3_stepsTold, 3, (some .int), 0, 0)
theorem zCm_X3_stepsTold : zCm mX3_stepsTold := ⟨zT_of 484 (by decide +kernel) rfl, zT_of 55 (by decide +kernel) rfl, by decide +kernel, by decide, by decide +kernel⟩
theorem zPV_X3_stepsTold : zPV mX3_stepsTold 0 3 := ⟨zCm_X3_stepsTold, ⟨zT_of 483 (by decide +kernel) rfl, zT_of 8 (by decide +kernel) rfl⟩, by unfold zNp; decide +kernel, by decide, rfl, rfl⟩
abbrev mX3_leastStep : zMt := (yX3_leastStep, cX3_leastStep, 7, (some .int), 0, 0)
theorem zCm_X3_leastStep : zCm mX3_leastStep := ⟨zT_of 488 (by decide +kernel) rfl, zT_of 55 (by decide +kernel) rfl, by decide +kernel, by decide, by decide +kernel⟩
theorem zPV_X3_leastStep : zPV mX3_leastStep 1 3 := ⟨zCm_X3_leastStep, ⟨zT_of 487 (by decide +kernel) rfl, zT_of 9 (by decide +kernel) rfl⟩, by unfold zNp; decide +kernel, by decide, rfl, rfl⟩
abbrev mX3_servedBy : zMt := (yX3_servedBy, cX3_servedBy, 6, (some .int), 0, 0)
theorem zCm_X3_servedBy : zCm mX3_servedBy := ⟨zT_of 492 (by decide +kernel) rfl, zT_of 55 (by decide +kernel) rfl, by decide +kernel, by decide, by decide +kernel⟩
theorem zPV_X3_servedBy : zPV mX3_servedBy 2 3 := ⟨zCm_X3_servedBy, ⟨zT_of 491 (by decide +kernel) rfl, zT_of 10 (by decide +kernel) rfl⟩, by unfold zNp; decide +kernel, by decide, rfl, rfl⟩
abbrev mX3_settleProfiles : zMt := (yX3_settleProfiles, cX3_settleProfiles, 2, none, 0, 0)
theorem zCm_X3_settleProfiles : zCm mX3_settleProfiles := ⟨zT_of 496 (by decide +kernel) rfl, zT_of 55 (by decide +kernel) rfl, by decide +kernel, by decide, by decide +kernel⟩
theorem zPV_X3_settleProfiles : zPV mX3_settleProfiles 0 3 := ⟨zCm_X3_settleProfiles, ⟨zT_of 495 (by decide +kernel) rfl, zT_of 11 (by decide +kernel) rfl⟩, by unfold zNp; decide +kernel, by decide, rfl, rfl⟩
abbrev mX4_init : zMt := (yX4_init, cX4_init, 2, none, 89, 98)
theorem zCm_X4_init : zCm mX4_init := ⟨zT_of 211 (by decide +kernel) rfl, zT_of 59 (by decide +kernel) rfl, by decide +kernel, by decide, by decide +kernel⟩
theorem zNp_X4_init : zNp mX4_init 1 := by unfold zNp; decide +kernel
theorem zII_X4_init : Cond.instanceMethod mX4_init.1 ∈ zT := zT_of 210 (by decide +kernel) rfl
abbrev mX4_hasPlan : zMt := (yX4_hasPlan, cX4_hasPlan, 2, (some .boolean), 0, 0)
theorem zCm_X4_hasPlan : zCm mX4_hasPlan := ⟨zT_of 625 (by decide +kernel) rfl, zT_of 59 (by decide +kernel) rfl, by decide +kernel, by decide, by decide +kernel⟩
theorem zPV_X4_hasPlan : zPV mX4_hasPlan 1 4 := ⟨zCm_X4_hasPlan, ⟨zT_of 623 (by decide +kernel) rfl, zT_of 624 (by decide +kernel) rfl⟩, by unfold zNp; decide +kernel, by decide, rfl, rfl⟩
abbrev mX4_together : zMt := (yX4_together, cX4_together, 2, (some .int), 0, 0)
theorem zCm_X4_together : zCm mX4_together := ⟨zT_of 677 (by decide +kernel) rfl, zT_of 59 (by decide +kernel) rfl, by decide +kernel, by decide, by decide +kernel⟩
theorem zPV_X4_together : zPV mX4_together 1 4 := ⟨zCm_X4_together, ⟨zT_of 675 (by decide +kernel) rfl, zT_of 676 (by decide +kernel) rfl⟩, by unfold zNp; decide +kernel, by decide, rfl, rfl⟩
abbrev mX4_minutesAt : zMt := (yX4_minutesAt, cX4_minutesAt, 3, (some .int), 0, 0)
theorem zCm_X4_minutesAt : zCm mX4_minutesAt := ⟨zT_of 681 (by decide +kernel) rfl, zT_of 59 (by decide +kernel) rfl, by decide +kernel, by decide, by decide +kernel⟩
theorem zPV_X4_minutesAt : zPV mX4_minutesAt 2 4 := ⟨zCm_X4_minutesAt, ⟨zT_of 679 (by decide +kernel) rfl, zT_of 680 (by decide +kernel) rfl⟩, by unfold zNp; decide +kernel, by decide, rfl, rfl⟩
abbrev mX4_rightZones : zMt := (yX4_rightZones, cX4_rightZones, 2, (some .int), 0, 0)
theorem zCm_X4_rightZones : zCm mX4_rightZones := ⟨zT_of 689 (by decide +kernel) rfl, zT_of 59 (by decide +kernel) rfl, by decide +kernel, by decide, by decide +kernel⟩
theorem zPV_X4_rightZones : zPV mX4_rightZones 1 4 := ⟨zCm_X4_rightZones, ⟨zT_of 687 (by decide +kernel) rfl, zT_of 688 (by decide +kernel) rfl⟩, by unfold zNp; decide +kernel, by decide, rfl, rfl⟩
abbrev mX4_strokesOf : zMt := (yX4_strokesOf, cX4_strokesOf, 4, (some .int), 0, 0)
theorem zCm_X4_strokesOf : zCm mX4_strokesOf := ⟨zT_of 697 (by decide +kernel) rfl, zT_of 59 (by decide +kernel) rfl, by decide +kernel, by decide, by decide +kernel⟩
theorem zPV_X4_strokesOf : zPV mX4_strokesOf 1 4 := ⟨zCm_X4_strokesOf, ⟨zT_of 695 (by decide +kernel) rfl, zT_of 696 (by decide +kernel) rfl⟩, by unfold zNp; decide +kernel, by decide, rfl, rfl⟩
abbrev mX4_carryOut : zMt := (yX4_carryOut, cX4_carryOut, 3, none, 0, 0)
theorem zCm_X4_carryOut : zCm mX4_carryOut := ⟨zT_of 701 (by decide +kernel) rfl, zT_of 59 (by decide +kernel) rfl, by decide +kernel, by decide, by decide +kernel⟩
theorem zPV_X4_carryOut : zPV mX4_carryOut 1 4 := ⟨zCm_X4_carryOut, ⟨zT_of 699 (by decide +kernel) rfl, zT_of 700 (by decide +kernel) rfl⟩, by unfold zNp; decide +kernel, by decide, rfl, rfl⟩
abbrev mX4_settle : zMt := (yX4_settle, cX4_settle, 2, none, 0, 0)
theorem zCm_X4_settle : zCm mX4_settle := ⟨zT_of 629 (by decide +kernel) rfl, zT_of 59 (by decide +kernel) rfl, by decide +kernel, by decide, by decide +kernel⟩
theorem zPV_X4_settle : zPV mX4_settle 1 4 := ⟨zCm_X4_settle, ⟨zT_of 628 (by decide +kernel) rfl, zT_of 13 (by decide +kernel) rfl⟩, by unfold zNp; decide +kernel, by decide, rfl, rfl⟩
abbrev mX4_begin : zMt := (yX4_begin, cX4_begin, 3, none, 0, 0)
theorem zCm_X4_begin : zCm mX4_begin := ⟨zT_of 637 (by decide +kernel) rfl, zT_of 59 (by decide +kernel) rfl, by decide +kernel, by decide, by decide +kernel⟩
theorem zPV_X4_begin : zPV mX4_begin 1 4 := ⟨zCm_X4_begin, ⟨zT_of 636 (by decide +kernel) rfl, zT_of 14 (by decide +kernel) rfl⟩, by unfold zNp; decide +kernel, by decide, rfl, rfl⟩
abbrev mX4_traceMinutes : zMt := (yX4_traceMinutes, cX4_traceMinutes, 6, none, 0, 0)
theorem zCm_X4_traceMinutes : zCm mX4_traceMinutes := ⟨zT_of 673 (by decide +kernel) rfl, zT_of 59 (by decide +kernel) rfl, by decide +kernel, by decide, by decide +kernel⟩
theorem zPV_X4_traceMinutes : zPV mX4_traceMinutes 1 4 := ⟨zCm_X4_traceMinutes, ⟨zT_of 672 (by decide +kernel) rfl, zT_of 19 (by decide +kernel) rfl⟩, by unfold zNp; decide +kernel, by decide, rfl, rfl⟩
abbrev mX4_costFrom : zMt := (yX4_costFrom, cX4_costFrom, 4, (some .int), 0, 0)
theorem zCm_X4_costFrom : zCm mX4_costFrom := ⟨zT_of 651 (by decide +kernel) rfl, zT_of 59 (by decide +kernel) rfl, by decide +kernel, by decide, by decide +kernel⟩
theorem zPV_X4_costFrom : zPV mX4_costFrom 2 4 := ⟨zCm_X4_costFrom, ⟨zT_of 650 (by decide +kernel) rfl, zT_of 15 (by decide +kernel) rfl⟩, by unfold zNp; decide +kernel, by decide, rfl, rfl⟩
abbrev mX4_leastCost : zMt := (yX4_leastCost, cX4_leastCost, 7, (some .int), 0, 0)
theorem zCm_X4_leastCost : zCm mX4_leastCost := ⟨zT_of 655 (by decide +kernel) rfl, zT_of 59 (by decide +kernel) rfl, by decide +kernel, by decide, by decide +kernel⟩
theorem zPV_X4_leastCost : zPV mX4_leastCost 2 4 := ⟨zCm_X4_leastCost, ⟨zT_of 654 (by decide +kernel) rfl, zT_of 16 (by decide +kernel) rfl⟩, by unfold zNp; decide +kernel, by decide, rfl, rfl⟩
abbrev mX4_costWith : zMt := (yX4_costWith, cX4_costWith, 6, (some .int), 0, 0)
theorem zCm_X4_costWith : zCm mX4_costWith := ⟨zT_of 663 (by decide +kernel) rfl, zT_of 59 (by decide +kernel) rfl, by decide +kernel, by decide, by decide +kernel⟩
theorem zPV_X4_costWith : zPV mX4_costWith 4 4 := ⟨zCm_X4_costWith, ⟨zT_of 662 (by decide +kernel) rfl, zT_of 18 (by decide +kernel) rfl⟩, by unfold zNp; decide +kernel, by decide, rfl, rfl⟩
abbrev mX4_stateBehind : zMt := (yX4_stateBehind, cX4_stateBehind, 2, (some .int), 0, 0)
theorem zCm_X4_stateBehind : zCm mX4_stateBehind := ⟨zT_of 666 (by decide +kernel) rfl, zT_of 59 (by decide +kernel) rfl, by decide +kernel, by decide, by decide +kernel⟩
theorem zPS_X4_stateBehind : zPS mX4_stateBehind 2 := ⟨zCm_X4_stateBehind, zT_of 665 (by decide +kernel) rfl, by unfold zNp; decide +kernel, rfl⟩
abbrev mX4_leftAt : zMt := (yX4_leftAt, cX4_leftAt, 6, (some .int), 0, 0)
theorem zCm_X4_leftAt : zCm mX4_leftAt := ⟨zT_of 659 (by decide +kernel) rfl, zT_of 59 (by decide +kernel) rfl, by decide +kernel, by decide, by decide +kernel⟩
theorem zPV_X4_leftAt : zPV mX4_leftAt 2 4 := ⟨zCm_X4_leftAt, ⟨zT_of 658 (by decide +kernel) rfl, zT_of 17 (by decide +kernel) rfl⟩, by unfold zNp; decide +kernel, by decide, rfl, rfl⟩
abbrev mX5_init : zMt := (yX5_init, cX5_init, 1, none, 99, 114)
theorem zCm_X5_init : zCm mX5_init := ⟨zT_of 247 (by decide +kernel) rfl, zT_of 60 (by decide +kernel) rfl, by decide +kernel, by decide, by decide +kernel⟩
theorem zNp_X5_init : zNp mX5_init 0 := by unfold zNp; decide +kernel
theorem zII_X5_init : Cond.instanceMethod mX5_init.1 ∈ zT := zT_of 246 (by decide +kernel) rfl
abbrev mX5_begin : zMt := (yX5_begin, cX5_begin, 6, none, 0, 0)
theorem zCm_X5_begin : zCm mX5_begin := ⟨zT_of 369 (by decide +kernel) rfl, zT_of 60 (by decide +kernel) rfl, by decide +kernel, by decide, by decide +kernel⟩
theorem zPV_X5_begin : zPV mX5_begin 1 5 := ⟨zCm_X5_begin, ⟨zT_of 367 (by decide +kernel) rfl, zT_of 368 (by decide +kernel) rfl⟩, by unfold zNp; decide +kernel, by decide, rfl, rfl⟩
abbrev mX5_tellBend : zMt := (yX5_tellBend, cX5_tellBend, 5, (some .int), 0, 0)
theorem zCm_X5_tellBend : zCm mX5_tellBend := ⟨zT_of 710 (by decide +kernel) rfl, zT_of 60 (by decide +kernel) rfl, by decide +kernel, by decide, by decide +kernel⟩
theorem zPV_X5_tellBend : zPV mX5_tellBend 3 5 := ⟨zCm_X5_tellBend, ⟨zT_of 708 (by decide +kernel) rfl, zT_of 709 (by decide +kernel) rfl⟩, by unfold zNp; decide +kernel, by decide, rfl, rfl⟩
abbrev mX5_leastSpread : zMt := (yX5_leastSpread, cX5_leastSpread, 1, (some .int), 0, 0)
theorem zCm_X5_leastSpread : zCm mX5_leastSpread := ⟨zT_of 718 (by decide +kernel) rfl, zT_of 60 (by decide +kernel) rfl, by decide +kernel, by decide, by decide +kernel⟩
theorem zPV_X5_leastSpread : zPV mX5_leastSpread 0 5 := ⟨zCm_X5_leastSpread, ⟨zT_of 716 (by decide +kernel) rfl, zT_of 717 (by decide +kernel) rfl⟩, by unfold zNp; decide +kernel, by decide, rfl, rfl⟩
abbrev mX5_shareOf : zMt := (yX5_shareOf, cX5_shareOf, 2, (some .int), 0, 0)
theorem zCm_X5_shareOf : zCm mX5_shareOf := ⟨zT_of 746 (by decide +kernel) rfl, zT_of 60 (by decide +kernel) rfl, by decide +kernel, by decide, by decide +kernel⟩
theorem zPV_X5_shareOf : zPV mX5_shareOf 1 5 := ⟨zCm_X5_shareOf, ⟨zT_of 744 (by decide +kernel) rfl, zT_of 745 (by decide +kernel) rfl⟩, by unfold zNp; decide +kernel, by decide, rfl, rfl⟩
abbrev mX5_settle : zMt := (yX5_settle, cX5_settle, 2, none, 0, 0)
theorem zCm_X5_settle : zCm mX5_settle := ⟨zT_of 722 (by decide +kernel) rfl, zT_of 60 (by decide +kernel) rfl, by decide +kernel, by decide, by decide +kernel⟩
theorem zPV_X5_settle : zPV mX5_settle 0 5 := ⟨zCm_X5_settle, ⟨zT_of 721 (by decide +kernel) rfl, zT_of 20 (by decide +kernel) rfl⟩, by unfold zNp; decide +kernel, by decide, rfl, rfl⟩
abbrev mX5_place : zMt := (yX5_place, cX5_place, 6, none, 0, 0)
theorem zCm_X5_place : zCm mX5_place := ⟨zT_of 726 (by decide +kernel) rfl, zT_of 60 (by decide +kernel) rfl, by decide +kernel, by decide, by decide +kernel⟩
theorem zPV_X5_place : zPV mX5_place 3 5 := ⟨zCm_X5_place, ⟨zT_of 725 (by decide +kernel) rfl, zT_of 21 (by decide +kernel) rfl⟩, by unfold zNp; decide +kernel, by decide, rfl, rfl⟩
abbrev mX5_placeShare : zMt := (yX5_placeShare, cX5_placeShare, 6, none, 0, 0)
theorem zCm_X5_placeShare : zCm mX5_placeShare := ⟨zT_of 742 (by decide +kernel) rfl, zT_of 60 (by decide +kernel) rfl, by decide +kernel, by decide, by decide +kernel⟩
theorem zPV_X5_placeShare : zPV mX5_placeShare 4 5 := ⟨zCm_X5_placeShare, ⟨zT_of 741 (by decide +kernel) rfl, zT_of 24 (by decide +kernel) rfl⟩, by unfold zNp; decide +kernel, by decide, rfl, rfl⟩
abbrev mX5_keepIfBetter : zMt := (yX5_keepIfBetter, cX5_keepIfBetter, 5, none, 0, 0)
theorem zCm_X5_keepIfBetter : zCm mX5_keepIfBetter := ⟨zT_of 730 (by decide +kernel) rfl, zT_of 60 (by decide +kernel) rfl, by decide +kernel, by decide, by decide +kernel⟩
theorem zPV_X5_keepIfBetter : zPV mX5_keepIfBetter 2 5 := ⟨zCm_X5_keepIfBetter, ⟨zT_of 729 (by decide +kernel) rfl, zT_of 22 (by decide +kernel) rfl⟩, by unfold zNp; decide +kernel, by decide, rfl, rfl⟩
abbrev mX5_spreadOf : zMt := (yX5_spreadOf, cX5_spreadOf, 5, (some .int), 0, 0)
theorem zCm_X5_spreadOf : zCm mX5_spreadOf := ⟨zT_of 734 (by decide +kernel) rfl, zT_of 60 (by decide +kernel) rfl, by decide +kernel, by decide, by decide +kernel⟩
theorem zPV_X5_spreadOf : zPV mX5_spreadOf 1 5 := ⟨zCm_X5_spreadOf, ⟨zT_of 733 (by decide +kernel) rfl, zT_of 23 (by decide +kernel) rfl⟩, by unfold zNp; decide +kernel, by decide, rfl, rfl⟩
abbrev mX6_init : zMt := (yX6_init, cX6_init, 1, none, 115, 117)
theorem zCm_X6_init : zCm mX6_init := ⟨zT_of 276 (by decide +kernel) rfl, zT_of 61 (by decide +kernel) rfl, by decide +kernel, by decide, by decide +kernel⟩
theorem zNp_X6_init : zNp mX6_init 0 := by unfold zNp; decide +kernel
theorem zII_X6_init : Cond.instanceMethod mX6_init.1 ∈ zT := zT_of 275 (by decide +kernel) rfl
abbrev mX6_tellWarmth : zMt := (yX6_tellWarmth, cX6_tellWarmth, 4, (some .int), 0, 0)
theorem zCm_X6_tellWarmth : zCm mX6_tellWarmth := ⟨zT_of 754 (by decide +kernel) rfl, zT_of 61 (by decide +kernel) rfl, by decide +kernel, by decide, by decide +kernel⟩
theorem zPV_X6_tellWarmth : zPV mX6_tellWarmth 2 6 := ⟨zCm_X6_tellWarmth, ⟨zT_of 752 (by decide +kernel) rfl, zT_of 753 (by decide +kernel) rfl⟩, by unfold zNp; decide +kernel, by decide, rfl, rfl⟩
abbrev mX6_warmthOf : zMt := (yX6_warmthOf, cX6_warmthOf, 2, (some .int), 0, 0)
theorem zCm_X6_warmthOf : zCm mX6_warmthOf := ⟨zT_of 758 (by decide +kernel) rfl, zT_of 61 (by decide +kernel) rfl, by decide +kernel, by decide, by decide +kernel⟩
theorem zPV_X6_warmthOf : zPV mX6_warmthOf 1 6 := ⟨zCm_X6_warmthOf, ⟨zT_of 756 (by decide +kernel) rfl, zT_of 757 (by decide +kernel) rfl⟩, by unfold zNp; decide +kernel, by decide, rfl, rfl⟩
abbrev mX6_letGoBy : zMt := (yX6_letGoBy, cX6_letGoBy, 4, (some .int), 0, 0)
theorem zCm_X6_letGoBy : zCm mX6_letGoBy := ⟨zT_of 766 (by decide +kernel) rfl, zT_of 61 (by decide +kernel) rfl, by decide +kernel, by decide, by decide +kernel⟩
theorem zPV_X6_letGoBy : zPV mX6_letGoBy 1 6 := ⟨zCm_X6_letGoBy, ⟨zT_of 764 (by decide +kernel) rfl, zT_of 765 (by decide +kernel) rfl⟩, by unfold zNp; decide +kernel, by decide, rfl, rfl⟩
abbrev mX6_minutesTillStill : zMt := (yX6_minutesTillStill, cX6_minutesTillStill, 4, (some .int), 0, 0)
theorem zCm_X6_minutesTillStill : zCm mX6_minutesTillStill := ⟨zT_of 789 (by decide +kernel) rfl, zT_of 61 (by decide +kernel) rfl, by decide +kernel, by decide, by decide +kernel⟩
theorem zPV_X6_minutesTillStill : zPV mX6_minutesTillStill 1 6 := ⟨zCm_X6_minutesTillStill, ⟨zT_of 787 (by decide +kernel) rfl, zT_of 788 (by decide +kernel) rfl⟩, by unfold zNp; decide +kernel, by decide, rfl, rfl⟩
abbrev mX6_goOneMinute : zMt := (yX6_goOneMinute, cX6_goOneMinute, 8, (some .boolean), 0, 0)
theorem zCm_X6_goOneMinute : zCm mX6_goOneMinute := ⟨zT_of 770 (by decide +kernel) rfl, zT_of 61 (by decide +kernel) rfl, by decide +kernel, by decide, by decide +kernel⟩
theorem zPV_X6_goOneMinute : zPV mX6_goOneMinute 1 6 := ⟨zCm_X6_goOneMinute, ⟨zT_of 769 (by decide +kernel) rfl, zT_of 25 (by decide +kernel) rfl⟩, by unfold zNp; decide +kernel, by decide, rfl, rfl⟩
abbrev mX6_greatest : zMt := (yX6_greatest, cX6_greatest, 7, (some .int), 0, 0)
theorem zCm_X6_greatest : zCm mX6_greatest := ⟨zT_of 776 (by decide +kernel) rfl, zT_of 61 (by decide +kernel) rfl, by decide +kernel, by decide, by decide +kernel⟩
theorem zPS_X6_greatest : zPS mX6_greatest 2 := ⟨zCm_X6_greatest, zT_of 775 (by decide +kernel) rfl, by unfold zNp; decide +kernel, rfl⟩
abbrev mX6_least : zMt := (yX6_least, cX6_least, 7, (some .int), 0, 0)
theorem zCm_X6_least : zCm mX6_least := ⟨zT_of 780 (by decide +kernel) rfl, zT_of 61 (by decide +kernel) rfl, by decide +kernel, by decide, by decide +kernel⟩
theorem zPS_X6_least : zPS mX6_least 2 := ⟨zCm_X6_least, zT_of 779 (by decide +kernel) rfl, by unfold zNp; decide +kernel, rfl⟩
abbrev mX7_init : zMt := (yX7_init, cX7_init, 2, none, 14, 17)
theorem zCm_X7_init : zCm mX7_init := ⟨zT_of 148 (by decide +kernel) rfl, zT_of 57 (by decide +kernel) rfl, by decide +kernel, by decide, by decide +kernel⟩
theorem zNp_X7_init : zNp mX7_init 1 := by unfold zNp; decide +kernel
theorem zII_X7_init : Cond.instanceMethod mX7_init.1 ∈ zT := zT_of 147 (by decide +kernel) rfl
abbrev mX7_begin : zMt := (yX7_begin, cX7_begin, 1, none, 0, 0)
theorem zCm_X7_begin : zCm mX7_begin := ⟨zT_of 353 (by decide +kernel) rfl, zT_of 57 (by decide +kernel) rfl, by decide +kernel, by decide, by decide +kernel⟩
theorem zPV_X7_begin : zPV mX7_begin 0 7 := ⟨zCm_X7_begin, ⟨zT_of 351 (by decide +kernel) rfl, zT_of 352 (by decide +kernel) rfl⟩, by unfold zNp; decide +kernel, by decide, rfl, rfl⟩
abbrev mX7_howMany : zMt := (yX7_howMany, cX7_howMany, 1, (some .int), 0, 0)
theorem zCm_X7_howMany : zCm mX7_howMany := ⟨zT_of 526 (by decide +kernel) rfl, zT_of 57 (by decide +kernel) rfl, by decide +kernel, by decide, by decide +kernel⟩
theorem zPV_X7_howMany : zPV mX7_howMany 0 7 := ⟨zCm_X7_howMany, ⟨zT_of 524 (by decide +kernel) rfl, zT_of 525 (by decide +kernel) rfl⟩, by unfold zNp; decide +kernel, by decide, rfl, rfl⟩
abbrev mX7_hold : zMt := (yX7_hold, cX7_hold, 4, (some .int), 0, 0)
theorem zCm_X7_hold : zCm mX7_hold := ⟨zT_of 530 (by decide +kernel) rfl, zT_of 57 (by decide +kernel) rfl, by decide +kernel, by decide, by decide +kernel⟩
theorem zPV_X7_hold : zPV mX7_hold 3 7 := ⟨zCm_X7_hold, ⟨zT_of 528 (by decide +kernel) rfl, zT_of 529 (by decide +kernel) rfl⟩, by unfold zNp; decide +kernel, by decide, rfl, rfl⟩
abbrev mX7_howManyOf : zMt := (yX7_howManyOf, cX7_howManyOf, 7, (some .int), 0, 0)
theorem zCm_X7_howManyOf : zCm mX7_howManyOf := ⟨zT_of 538 (by decide +kernel) rfl, zT_of 57 (by decide +kernel) rfl, by decide +kernel, by decide, by decide +kernel⟩
theorem zPV_X7_howManyOf : zPV mX7_howManyOf 1 7 := ⟨zCm_X7_howManyOf, ⟨zT_of 536 (by decide +kernel) rfl, zT_of 537 (by decide +kernel) rfl⟩, by unfold zNp; decide +kernel, by decide, rfl, rfl⟩
abbrev mX7_offBy : zMt := (yX7_offBy, cX7_offBy, 4, (some .int), 0, 0)
theorem zCm_X7_offBy : zCm mX7_offBy := ⟨zT_of 542 (by decide +kernel) rfl, zT_of 57 (by decide +kernel) rfl, by decide +kernel, by decide, by decide +kernel⟩
theorem zPV_X7_offBy : zPV mX7_offBy 1 7 := ⟨zCm_X7_offBy, ⟨zT_of 540 (by decide +kernel) rfl, zT_of 541 (by decide +kernel) rfl⟩, by unfold zNp; decide +kernel, by decide, rfl, rfl⟩
abbrev mX8_init : zMt := (yX8_init, cX8_init, 1, none, 1, 128)
theorem zCm_X8_init : zCm mX8_init := ⟨zT_of 71 (by decide +kernel) rfl, zT_of 53 (by decide +kernel) rfl, by decide +kernel, by decide, by decide +kernel⟩
theorem zNp_X8_init : zNp mX8_init 0 := by unfold zNp; decide +kernel
theorem zII_X8_init : Cond.instanceMethod mX8_init.1 ∈ zT := zT_of 70 (by decide +kernel) rfl
abbrev mX8_disc : zMt := (yX8_disc, cX8_disc, 2, (some .int), 0, 0)
theorem zCm_X8_disc : zCm mX8_disc := ⟨zT_of 345 (by decide +kernel) rfl, zT_of 53 (by decide +kernel) rfl, by decide +kernel, by decide, by decide +kernel⟩
theorem zPV_X8_disc : zPV mX8_disc 1 8 := ⟨zCm_X8_disc, ⟨zT_of 343 (by decide +kernel) rfl, zT_of 344 (by decide +kernel) rfl⟩, by unfold zNp; decide +kernel, by decide, rfl, rfl⟩
abbrev mX8_aim : zMt := (yX8_aim, cX8_aim, 4, (some .int), 0, 0)
theorem zCm_X8_aim : zCm mX8_aim := ⟨zT_of 374 (by decide +kernel) rfl, zT_of 53 (by decide +kernel) rfl, by decide +kernel, by decide, by decide +kernel⟩
theorem zPV_X8_aim : zPV mX8_aim 3 8 := ⟨zCm_X8_aim, ⟨zT_of 372 (by decide +kernel) rfl, zT_of 373 (by decide +kernel) rfl⟩, by unfold zNp; decide +kernel, by decide, rfl, rfl⟩
abbrev mX8_depth : zMt := (yX8_depth, cX8_depth, 3, (some .long), 0, 0)
theorem zCm_X8_depth : zCm mX8_depth := ⟨zT_of 382 (by decide +kernel) rfl, zT_of 53 (by decide +kernel) rfl, by decide +kernel, by decide, by decide +kernel⟩
theorem zPV_X8_depth : zPV mX8_depth 2 8 := ⟨zCm_X8_depth, ⟨zT_of 380 (by decide +kernel) rfl, zT_of 381 (by decide +kernel) rfl⟩, by unfold zNp; decide +kernel, by decide, rfl, rfl⟩
abbrev mX8_height : zMt := (yX8_height, cX8_height, 3, (some .int), 0, 0)
theorem zCm_X8_height : zCm mX8_height := ⟨zT_of 400 (by decide +kernel) rfl, zT_of 53 (by decide +kernel) rfl, by decide +kernel, by decide, by decide +kernel⟩
theorem zPV_X8_height : zPV mX8_height 2 8 := ⟨zCm_X8_height, ⟨zT_of 398 (by decide +kernel) rfl, zT_of 399 (by decide +kernel) rfl⟩, by unfold zNp; decide +kernel, by decide, rfl, rfl⟩
abbrev mX8_at : zMt := (yX8_at, cX8_at, 2, (some .int), 0, 0)
theorem zCm_X8_at : zCm mX8_at := ⟨zT_of 415 (by decide +kernel) rfl, zT_of 53 (by decide +kernel) rfl, by decide +kernel, by decide, by decide +kernel⟩
theorem zPV_X8_at : zPV mX8_at 1 8 := ⟨zCm_X8_at, ⟨zT_of 413 (by decide +kernel) rfl, zT_of 414 (by decide +kernel) rfl⟩, by unfold zNp; decide +kernel, by decide, rfl, rfl⟩
abbrev mX8_read : zMt := (yX8_read, cX8_read, 4, (some .int), 0, 0)
theorem zCm_X8_read : zCm mX8_read := ⟨zT_of 423 (by decide +kernel) rfl, zT_of 53 (by decide +kernel) rfl, by decide +kernel, by decide, by decide +kernel⟩
theorem zPV_X8_read : zPV mX8_read 3 8 := ⟨zCm_X8_read, ⟨zT_of 421 (by decide +kernel) rfl, zT_of 422 (by decide +kernel) rfl⟩, by unfold zNp; decide +kernel, by decide, rfl, rfl⟩
abbrev mX8_lie : zMt := (yX8_lie, cX8_lie, 2, (some .int), 0, 0)
theorem zCm_X8_lie : zCm mX8_lie := ⟨zT_of 435 (by decide +kernel) rfl, zT_of 53 (by decide +kernel) rfl, by decide +kernel, by decide, by decide +kernel⟩
theorem zPV_X8_lie : zPV mX8_lie 1 8 := ⟨zCm_X8_lie, ⟨zT_of 433 (by decide +kernel) rfl, zT_of 434 (by decide +kernel) rfl⟩, by unfold zNp; decide +kernel, by decide, rfl, rfl⟩
abbrev mX8_joined : zMt := (yX8_joined, cX8_joined, 2, (some .int), 0, 0)
theorem zCm_X8_joined : zCm mX8_joined := ⟨zT_of 443 (by decide +kernel) rfl, zT_of 53 (by decide +kernel) rfl, by decide +kernel, by decide, by decide +kernel⟩
theorem zPV_X8_joined : zPV mX8_joined 1 8 := ⟨zCm_X8_joined, ⟨zT_of 441 (by decide +kernel) rfl, zT_of 442 (by decide +kernel) rfl⟩, by unfold zNp; decide +kernel, by decide, rfl, rfl⟩
abbrev mX8_step : zMt := (yX8_step, cX8_step, 2, (some .int), 0, 0)
theorem zCm_X8_step : zCm mX8_step := ⟨zT_of 504 (by decide +kernel) rfl, zT_of 53 (by decide +kernel) rfl, by decide +kernel, by decide, by decide +kernel⟩
theorem zPV_X8_step : zPV mX8_step 1 8 := ⟨zCm_X8_step, ⟨zT_of 502 (by decide +kernel) rfl, zT_of 503 (by decide +kernel) rfl⟩, by unfold zNp; decide +kernel, by decide, rfl, rfl⟩
abbrev mX8_profile : zMt := (yX8_profile, cX8_profile, 2, (some .int), 0, 0)
theorem zCm_X8_profile : zCm mX8_profile := ⟨zT_of 512 (by decide +kernel) rfl, zT_of 53 (by decide +kernel) rfl, by decide +kernel, by decide, by decide +kernel⟩
theorem zPV_X8_profile : zPV mX8_profile 1 8 := ⟨zCm_X8_profile, ⟨zT_of 510 (by decide +kernel) rfl, zT_of 511 (by decide +kernel) rfl⟩, by unfold zNp; decide +kernel, by decide, rfl, rfl⟩
abbrev mX8_wire : zMt := (yX8_wire, cX8_wire, 4, (some .int), 0, 0)
theorem zCm_X8_wire : zCm mX8_wire := ⟨zT_of 522 (by decide +kernel) rfl, zT_of 53 (by decide +kernel) rfl, by decide +kernel, by decide, by decide +kernel⟩
theorem zPV_X8_wire : zPV mX8_wire 3 8 := ⟨zCm_X8_wire, ⟨zT_of 520 (by decide +kernel) rfl, zT_of 521 (by decide +kernel) rfl⟩, by unfold zNp; decide +kernel, by decide, rfl, rfl⟩
abbrev mX8_wires : zMt := (yX8_wires, cX8_wires, 2, (some .int), 0, 0)
theorem zCm_X8_wires : zCm mX8_wires := ⟨zT_of 534 (by decide +kernel) rfl, zT_of 53 (by decide +kernel) rfl, by decide +kernel, by decide, by decide +kernel⟩
theorem zPV_X8_wires : zPV mX8_wires 1 8 := ⟨zCm_X8_wires, ⟨zT_of 532 (by decide +kernel) rfl, zT_of 533 (by decide +kernel) rfl⟩, by unfold zNp; decide +kernel, by decide, rfl, rfl⟩
abbrev mX8_pull : zMt := (yX8_pull, cX8_pull, 4, (some .int), 0, 0)
theorem zCm_X8_pull : zCm mX8_pull := ⟨zT_of 554 (by decide +kernel) rfl, zT_of 53 (by decide +kernel) rfl, by decide +kernel, by decide, by decide +kernel⟩
theorem zPV_X8_pull : zPV mX8_pull 3 8 := ⟨zCm_X8_pull, ⟨zT_of 552 (by decide +kernel) rfl, zT_of 553 (by decide +kernel) rfl⟩, by unfold zNp; decide +kernel, by decide, rfl, rfl⟩
abbrev mX8_rest : zMt := (yX8_rest, cX8_rest, 2, (some .int), 0, 0)
theorem zCm_X8_rest : zCm mX8_rest := ⟨zT_of 565 (by decide +kernel) rfl, zT_of 53 (by decide +kernel) rfl, by decide +kernel, by decide, by decide +kernel⟩
theorem zPV_X8_rest : zPV mX8_rest 1 8 := ⟨zCm_X8_rest, ⟨zT_of 563 (by decide +kernel) rfl, zT_of 564 (by decide +kernel) rfl⟩, by unfold zNp; decide +kernel, by decide, rfl, rfl⟩
abbrev mX8_stroke : zMt := (yX8_stroke, cX8_stroke, 4, (some .int), 0, 0)
theorem zCm_X8_stroke : zCm mX8_stroke := ⟨zT_of 573 (by decide +kernel) rfl, zT_of 53 (by decide +kernel) rfl, by decide +kernel, by decide, by decide +kernel⟩
theorem zPV_X8_stroke : zPV mX8_stroke 3 8 := ⟨zCm_X8_stroke, ⟨zT_of 571 (by decide +kernel) rfl, zT_of 572 (by decide +kernel) rfl⟩, by unfold zNp; decide +kernel, by decide, rfl, rfl⟩
abbrev mX8_undo : zMt := (yX8_undo, cX8_undo, 1, (some .int), 0, 0)
theorem zCm_X8_undo : zCm mX8_undo := ⟨zT_of 601 (by decide +kernel) rfl, zT_of 53 (by decide +kernel) rfl, by decide +kernel, by decide, by decide +kernel⟩
theorem zPV_X8_undo : zPV mX8_undo 0 8 := ⟨zCm_X8_undo, ⟨zT_of 599 (by decide +kernel) rfl, zT_of 600 (by decide +kernel) rfl⟩, by unfold zNp; decide +kernel, by decide, rfl, rfl⟩
abbrev mX8_replay : zMt := (yX8_replay, cX8_replay, 3, (some .int), 0, 0)
theorem zCm_X8_replay : zCm mX8_replay := ⟨zT_of 613 (by decide +kernel) rfl, zT_of 53 (by decide +kernel) rfl, by decide +kernel, by decide, by decide +kernel⟩
theorem zPV_X8_replay : zPV mX8_replay 2 8 := ⟨zCm_X8_replay, ⟨zT_of 611 (by decide +kernel) rfl, zT_of 612 (by decide +kernel) rfl⟩, by unfold zNp; decide +kernel, by decide, rfl, rfl⟩
abbrev mX8_plan : zMt := (yX8_plan, cX8_plan, 3, (some .int), 0, 0)
theorem zCm_X8_plan : zCm mX8_plan := ⟨zT_of 621 (by decide +kernel) rfl, zT_of 53 (by decide +kernel) rfl, by decide +kernel, by decide, by decide +kernel⟩
theorem zPV_X8_plan : zPV mX8_plan 2 8 := ⟨zCm_X8_plan, ⟨zT_of 619 (by decide +kernel) rfl, zT_of 620 (by decide +kernel) rfl⟩, by unfold zNp; decide +kernel, by decide, rfl, rfl⟩
abbrev mX8_right : zMt := (yX8_right, cX8_right, 2, (some .int), 0, 0)
theorem zCm_X8_right : zCm mX8_right := ⟨zT_of 685 (by decide +kernel) rfl, zT_of 53 (by decide +kernel) rfl, by decide +kernel, by decide, by decide +kernel⟩
theorem zPV_X8_right : zPV mX8_right 1 8 := ⟨zCm_X8_right, ⟨zT_of 683 (by decide +kernel) rfl, zT_of 684 (by decide +kernel) rfl⟩, by unfold zNp; decide +kernel, by decide, rfl, rfl⟩
abbrev mX8_work : zMt := (yX8_work, cX8_work, 3, (some .int), 0, 0)
theorem zCm_X8_work : zCm mX8_work := ⟨zT_of 693 (by decide +kernel) rfl, zT_of 53 (by decide +kernel) rfl, by decide +kernel, by decide, by decide +kernel⟩
theorem zPV_X8_work : zPV mX8_work 1 8 := ⟨zCm_X8_work, ⟨zT_of 691 (by decide +kernel) rfl, zT_of 692 (by decide +kernel) rfl⟩, by unfold zNp; decide +kernel, by decide, rfl, rfl⟩
abbrev mX8_bend : zMt := (yX8_bend, cX8_bend, 4, (some .int), 0, 0)
theorem zCm_X8_bend : zCm mX8_bend := ⟨zT_of 706 (by decide +kernel) rfl, zT_of 53 (by decide +kernel) rfl, by decide +kernel, by decide, by decide +kernel⟩
theorem zPV_X8_bend : zPV mX8_bend 3 8 := ⟨zCm_X8_bend, ⟨zT_of 704 (by decide +kernel) rfl, zT_of 705 (by decide +kernel) rfl⟩, by unfold zNp; decide +kernel, by decide, rfl, rfl⟩
abbrev mX8_bear : zMt := (yX8_bear, cX8_bear, 2, (some .int), 0, 0)
theorem zCm_X8_bear : zCm mX8_bear := ⟨zT_of 714 (by decide +kernel) rfl, zT_of 53 (by decide +kernel) rfl, by decide +kernel, by decide, by decide +kernel⟩
theorem zPV_X8_bear : zPV mX8_bear 1 8 := ⟨zCm_X8_bear, ⟨zT_of 712 (by decide +kernel) rfl, zT_of 713 (by decide +kernel) rfl⟩, by unfold zNp; decide +kernel, by decide, rfl, rfl⟩
abbrev mX8_warm : zMt := (yX8_warm, cX8_warm, 3, (some .int), 0, 0)
theorem zCm_X8_warm : zCm mX8_warm := ⟨zT_of 750 (by decide +kernel) rfl, zT_of 53 (by decide +kernel) rfl, by decide +kernel, by decide, by decide +kernel⟩
theorem zPV_X8_warm : zPV mX8_warm 2 8 := ⟨zCm_X8_warm, ⟨zT_of 748 (by decide +kernel) rfl, zT_of 749 (by decide +kernel) rfl⟩, by unfold zNp; decide +kernel, by decide, rfl, rfl⟩
abbrev mX8_cool : zMt := (yX8_cool, cX8_cool, 2, (some .int), 0, 0)
theorem zCm_X8_cool : zCm mX8_cool := ⟨zT_of 762 (by decide +kernel) rfl, zT_of 53 (by decide +kernel) rfl, by decide +kernel, by decide, by decide +kernel⟩
theorem zPV_X8_cool : zPV mX8_cool 1 8 := ⟨zCm_X8_cool, ⟨zT_of 760 (by decide +kernel) rfl, zT_of 761 (by decide +kernel) rfl⟩, by unfold zNp; decide +kernel, by decide, rfl, rfl⟩
abbrev mX8_still : zMt := (yX8_still, cX8_still, 2, (some .int), 0, 0)
theorem zCm_X8_still : zCm mX8_still := ⟨zT_of 785 (by decide +kernel) rfl, zT_of 53 (by decide +kernel) rfl, by decide +kernel, by decide, by decide +kernel⟩
theorem zPV_X8_still : zPV mX8_still 1 8 := ⟨zCm_X8_still, ⟨zT_of 783 (by decide +kernel) rfl, zT_of 784 (by decide +kernel) rfl⟩, by unfold zNp; decide +kernel, by decide, rfl, rfl⟩
abbrev mX8_warmth : zMt := (yX8_warmth, cX8_warmth, 2, (some .int), 0, 0)
theorem zCm_X8_warmth : zCm mX8_warmth := ⟨zT_of 794 (by decide +kernel) rfl, zT_of 53 (by decide +kernel) rfl, by decide +kernel, by decide, by decide +kernel⟩
theorem zPV_X8_warmth : zPV mX8_warmth 1 8 := ⟨zCm_X8_warmth, ⟨zT_of 792 (by decide +kernel) rfl, zT_of 793 (by decide +kernel) rfl⟩, by unfold zNp; decide +kernel, by decide, rfl, rfl⟩
abbrev mX8_grit : zMt := (yX8_grit, cX8_grit, 3, (some .int), 0, 0)
theorem zCm_X8_grit : zCm mX8_grit := ⟨zT_of 799 (by decide +kernel) rfl, zT_of 53 (by decide +kernel) rfl, by decide +kernel, by decide, by decide +kernel⟩
theorem zPV_X8_grit : zPV mX8_grit 2 8 := ⟨zCm_X8_grit, ⟨zT_of 797 (by decide +kernel) rfl, zT_of 798 (by decide +kernel) rfl⟩, by unfold zNp; decide +kernel, by decide, rfl, rfl⟩
abbrev mX8_slack : zMt := (yX8_slack, cX8_slack, 2, (some .int), 0, 0)
theorem zCm_X8_slack : zCm mX8_slack := ⟨zT_of 811 (by decide +kernel) rfl, zT_of 53 (by decide +kernel) rfl, by decide +kernel, by decide, by decide +kernel⟩
theorem zPV_X8_slack : zPV mX8_slack 1 8 := ⟨zCm_X8_slack, ⟨zT_of 809 (by decide +kernel) rfl, zT_of 810 (by decide +kernel) rfl⟩, by unfold zNp; decide +kernel, by decide, rfl, rfl⟩
abbrev mX8_wets : zMt := (yX8_wets, cX8_wets, 3, (some .int), 0, 0)
theorem zCm_X8_wets : zCm mX8_wets := ⟨zT_of 819 (by decide +kernel) rfl, zT_of 53 (by decide +kernel) rfl, by decide +kernel, by decide, by decide +kernel⟩
theorem zPV_X8_wets : zPV mX8_wets 2 8 := ⟨zCm_X8_wets, ⟨zT_of 817 (by decide +kernel) rfl, zT_of 818 (by decide +kernel) rfl⟩, by unfold zNp; decide +kernel, by decide, rfl, rfl⟩
abbrev mX8_count : zMt := (yX8_count, cX8_count, 2, (some .int), 0, 0)
theorem zCm_X8_count : zCm mX8_count := ⟨zT_of 859 (by decide +kernel) rfl, zT_of 53 (by decide +kernel) rfl, by decide +kernel, by decide, by decide +kernel⟩
theorem zPV_X8_count : zPV mX8_count 1 8 := ⟨zCm_X8_count, ⟨zT_of 857 (by decide +kernel) rfl, zT_of 858 (by decide +kernel) rfl⟩, by unfold zNp; decide +kernel, by decide, rfl, rfl⟩
abbrev mX8_within : zMt := (yX8_within, cX8_within, 3, (some .boolean), 0, 0)
theorem zCm_X8_within : zCm mX8_within := ⟨zT_of 348 (by decide +kernel) rfl, zT_of 53 (by decide +kernel) rfl, by decide +kernel, by decide, by decide +kernel⟩
theorem zPS_X8_within : zPS mX8_within 3 := ⟨zCm_X8_within, zT_of 347 (by decide +kernel) rfl, by unfold zNp; decide +kernel, rfl⟩
abbrev mX8_isTool : zMt := (yX8_isTool, cX8_isTool, 1, (some .boolean), 0, 0)
theorem zCm_X8_isTool : zCm mX8_isTool := ⟨zT_of 557 (by decide +kernel) rfl, zT_of 53 (by decide +kernel) rfl, by decide +kernel, by decide, by decide +kernel⟩
theorem zPS_X8_isTool : zPS mX8_isTool 1 := ⟨zCm_X8_isTool, zT_of 556 (by decide +kernel) rfl, by unfold zNp; decide +kernel, rfl⟩
abbrev mX8_isZone : zMt := (yX8_isZone, cX8_isZone, 2, (some .boolean), 0, 0)
theorem zCm_X8_isZone : zCm mX8_isZone := ⟨zT_of 404 (by decide +kernel) rfl, zT_of 53 (by decide +kernel) rfl, by decide +kernel, by decide, by decide +kernel⟩
theorem zPV_X8_isZone : zPV mX8_isZone 1 8 := ⟨zCm_X8_isZone, ⟨zT_of 403 (by decide +kernel) rfl, zT_of 1 (by decide +kernel) rfl⟩, by unfold zNp; decide +kernel, by decide, rfl, rfl⟩
abbrev mX8_isStep : zMt := (yX8_isStep, cX8_isStep, 2, (some .boolean), 0, 0)
theorem zCm_X8_isStep : zCm mX8_isStep := ⟨zT_of 427 (by decide +kernel) rfl, zT_of 53 (by decide +kernel) rfl, by decide +kernel, by decide, by decide +kernel⟩
theorem zPV_X8_isStep : zPV mX8_isStep 1 8 := ⟨zCm_X8_isStep, ⟨zT_of 426 (by decide +kernel) rfl, zT_of 2 (by decide +kernel) rfl⟩, by unfold zNp; decide +kernel, by decide, rfl, rfl⟩
abbrev mX9_init : zMt := (yX9_init, cX9_init, 1, none, 129, 154)
theorem zCm_X9_init : zCm mX9_init := ⟨zT_of 869 (by decide +kernel) rfl, zT_of 63 (by decide +kernel) rfl, by decide +kernel, by decide, by decide +kernel⟩
theorem zNp_X9_init : zNp mX9_init 0 := by unfold zNp; decide +kernel
theorem zII_X9_init : Cond.instanceMethod mX9_init.1 ∈ zT := zT_of 868 (by decide +kernel) rfl
abbrev mX9_in : zMt := (yX9_in, cX9_in, 3, (some .boolean), 0, 0)
theorem zCm_X9_in : zCm mX9_in := ⟨zT_of 995 (by decide +kernel) rfl, zT_of 63 (by decide +kernel) rfl, by decide +kernel, by decide, by decide +kernel⟩
theorem zPS_X9_in : zPS mX9_in 3 := ⟨zCm_X9_in, zT_of 994 (by decide +kernel) rfl, by unfold zNp; decide +kernel, rfl⟩
abbrev mX9_size : zMt := (yX9_size, cX9_size, 1, (some .int), 0, 0)
theorem zCm_X9_size : zCm mX9_size := ⟨zT_of 1059 (by decide +kernel) rfl, zT_of 63 (by decide +kernel) rfl, by decide +kernel, by decide, by decide +kernel⟩
theorem zPS_X9_size : zPS mX9_size 1 := ⟨zCm_X9_size, zT_of 1058 (by decide +kernel) rfl, by unfold zNp; decide +kernel, rfl⟩
abbrev mX9_begins : zMt := (yX9_begins, cX9_begins, 3, none, 0, 0)
theorem zCm_X9_begins : zCm mX9_begins := ⟨zT_of 875 (by decide +kernel) rfl, zT_of 63 (by decide +kernel) rfl, by decide +kernel, by decide, by decide +kernel⟩
theorem zPV_X9_begins : zPV mX9_begins 1 9 := ⟨zCm_X9_begins, ⟨zT_of 874 (by decide +kernel) rfl, zT_of 32 (by decide +kernel) rfl⟩, by unfold zNp; decide +kernel, by decide, rfl, rfl⟩
abbrev mX9_disc : zMt := (yX9_disc, cX9_disc, 2, (some .int), 0, 0)
theorem zCm_X9_disc : zCm mX9_disc := ⟨zT_of 992 (by decide +kernel) rfl, zT_of 63 (by decide +kernel) rfl, by decide +kernel, by decide, by decide +kernel⟩
theorem zPV_X9_disc : zPV mX9_disc 1 9 := ⟨zCm_X9_disc, ⟨zT_of 990 (by decide +kernel) rfl, zT_of 991 (by decide +kernel) rfl⟩, by unfold zNp; decide +kernel, by decide, rfl, rfl⟩
abbrev mX9_aim : zMt := (yX9_aim, cX9_aim, 4, (some .int), 0, 0)
theorem zCm_X9_aim : zCm mX9_aim := ⟨zT_of 999 (by decide +kernel) rfl, zT_of 63 (by decide +kernel) rfl, by decide +kernel, by decide, by decide +kernel⟩
theorem zPV_X9_aim : zPV mX9_aim 3 9 := ⟨zCm_X9_aim, ⟨zT_of 997 (by decide +kernel) rfl, zT_of 998 (by decide +kernel) rfl⟩, by unfold zNp; decide +kernel, by decide, rfl, rfl⟩
abbrev mX9_common : zMt := (yX9_common, cX9_common, 10, (some .long), 0, 0)
theorem zCm_X9_common : zCm mX9_common := ⟨zT_of 1009 (by decide +kernel) rfl, zT_of 63 (by decide +kernel) rfl, by decide +kernel, by decide, by decide +kernel⟩
theorem zPS_X9_common : zPS mX9_common 2 := ⟨zCm_X9_common, zT_of 1008 (by decide +kernel) rfl, by unfold zNp; decide +kernel, rfl⟩
abbrev mX9_depth : zMt := (yX9_depth, cX9_depth, 11, (some .long), 0, 0)
theorem zCm_X9_depth : zCm mX9_depth := ⟨zT_of 1003 (by decide +kernel) rfl, zT_of 63 (by decide +kernel) rfl, by decide +kernel, by decide, by decide +kernel⟩
theorem zPV_X9_depth : zPV mX9_depth 2 9 := ⟨zCm_X9_depth, ⟨zT_of 1001 (by decide +kernel) rfl, zT_of 1002 (by decide +kernel) rfl⟩, by unfold zNp; decide +kernel, by decide, rfl, rfl⟩
abbrev mX9_isZone : zMt := (yX9_isZone, cX9_isZone, 2, (some .boolean), 0, 0)
theorem zCm_X9_isZone : zCm mX9_isZone := ⟨zT_of 1017 (by decide +kernel) rfl, zT_of 63 (by decide +kernel) rfl, by decide +kernel, by decide, by decide +kernel⟩
theorem zPV_X9_isZone : zPV mX9_isZone 1 9 := ⟨zCm_X9_isZone, ⟨zT_of 1016 (by decide +kernel) rfl, zT_of 33 (by decide +kernel) rfl⟩, by unfold zNp; decide +kernel, by decide, rfl, rfl⟩
abbrev mX9_height : zMt := (yX9_height, cX9_height, 5, (some .int), 0, 0)
theorem zCm_X9_height : zCm mX9_height := ⟨zT_of 1013 (by decide +kernel) rfl, zT_of 63 (by decide +kernel) rfl, by decide +kernel, by decide, by decide +kernel⟩
theorem zPV_X9_height : zPV mX9_height 2 9 := ⟨zCm_X9_height, ⟨zT_of 1011 (by decide +kernel) rfl, zT_of 1012 (by decide +kernel) rfl⟩, by unfold zNp; decide +kernel, by decide, rfl, rfl⟩
abbrev mX9_at : zMt := (yX9_at, cX9_at, 2, (some .int), 0, 0)
theorem zCm_X9_at : zCm mX9_at := ⟨zT_of 1024 (by decide +kernel) rfl, zT_of 63 (by decide +kernel) rfl, by decide +kernel, by decide, by decide +kernel⟩
theorem zPV_X9_at : zPV mX9_at 1 9 := ⟨zCm_X9_at, ⟨zT_of 1022 (by decide +kernel) rfl, zT_of 1023 (by decide +kernel) rfl⟩, by unfold zNp; decide +kernel, by decide, rfl, rfl⟩
abbrev mX9_read : zMt := (yX9_read, cX9_read, 5, (some .int), 0, 0)
theorem zCm_X9_read : zCm mX9_read := ⟨zT_of 1028 (by decide +kernel) rfl, zT_of 63 (by decide +kernel) rfl, by decide +kernel, by decide, by decide +kernel⟩
theorem zPV_X9_read : zPV mX9_read 3 9 := ⟨zCm_X9_read, ⟨zT_of 1026 (by decide +kernel) rfl, zT_of 1027 (by decide +kernel) rfl⟩, by unfold zNp; decide +kernel, by decide, rfl, rfl⟩
abbrev mX9_lie : zMt := (yX9_lie, cX9_lie, 3, (some .int), 0, 0)
theorem zCm_X9_lie : zCm mX9_lie := ⟨zT_of 1032 (by decide +kernel) rfl, zT_of 63 (by decide +kernel) rfl, by decide +kernel, by decide, by decide +kernel⟩
theorem zPV_X9_lie : zPV mX9_lie 1 9 := ⟨zCm_X9_lie, ⟨zT_of 1030 (by decide +kernel) rfl, zT_of 1031 (by decide +kernel) rfl⟩, by unfold zNp; decide +kernel, by decide, rfl, rfl⟩
abbrev mX9_isRead : zMt := (yX9_isRead, cX9_isRead, 3, (some .boolean), 0, 0)
theorem zCm_X9_isRead : zCm mX9_isRead := ⟨zT_of 1048 (by decide +kernel) rfl, zT_of 63 (by decide +kernel) rfl, by decide +kernel, by decide, by decide +kernel⟩
theorem zPV_X9_isRead : zPV mX9_isRead 2 9 := ⟨zCm_X9_isRead, ⟨zT_of 1047 (by decide +kernel) rfl, zT_of 36 (by decide +kernel) rfl⟩, by unfold zNp; decide +kernel, by decide, rfl, rfl⟩
abbrev mX9_shifted : zMt := (yX9_shifted, cX9_shifted, 3, (some .int), 0, 0)
theorem zCm_X9_shifted : zCm mX9_shifted := ⟨zT_of 1052 (by decide +kernel) rfl, zT_of 63 (by decide +kernel) rfl, by decide +kernel, by decide, by decide +kernel⟩
theorem zPV_X9_shifted : zPV mX9_shifted 2 9 := ⟨zCm_X9_shifted, ⟨zT_of 1051 (by decide +kernel) rfl, zT_of 37 (by decide +kernel) rfl⟩, by unfold zNp; decide +kernel, by decide, rfl, rfl⟩
abbrev mX9_holds : zMt := (yX9_holds, cX9_holds, 5, (some .int), 0, 0)
theorem zCm_X9_holds : zCm mX9_holds := ⟨zT_of 1056 (by decide +kernel) rfl, zT_of 63 (by decide +kernel) rfl, by decide +kernel, by decide, by decide +kernel⟩
theorem zPV_X9_holds : zPV mX9_holds 2 9 := ⟨zCm_X9_holds, ⟨zT_of 1055 (by decide +kernel) rfl, zT_of 38 (by decide +kernel) rfl⟩, by unfold zNp; decide +kernel, by decide, rfl, rfl⟩
abbrev mX9_dropped : zMt := (yX9_dropped, cX9_dropped, 7, (some .int), 0, 0)
theorem zCm_X9_dropped : zCm mX9_dropped := ⟨zT_of 1044 (by decide +kernel) rfl, zT_of 63 (by decide +kernel) rfl, by decide +kernel, by decide, by decide +kernel⟩
theorem zPV_X9_dropped : zPV mX9_dropped 1 9 := ⟨zCm_X9_dropped, ⟨zT_of 1043 (by decide +kernel) rfl, zT_of 35 (by decide +kernel) rfl⟩, by unfold zNp; decide +kernel, by decide, rfl, rfl⟩
abbrev mX9_joins : zMt := (yX9_joins, cX9_joins, 7, (some .int), 0, 0)
theorem zCm_X9_joins : zCm mX9_joins := ⟨zT_of 1040 (by decide +kernel) rfl, zT_of 63 (by decide +kernel) rfl, by decide +kernel, by decide, by decide +kernel⟩
theorem zPV_X9_joins : zPV mX9_joins 0 9 := ⟨zCm_X9_joins, ⟨zT_of 1039 (by decide +kernel) rfl, zT_of 34 (by decide +kernel) rfl⟩, by unfold zNp; decide +kernel, by decide, rfl, rfl⟩
abbrev mX9_joined : zMt := (yX9_joined, cX9_joined, 3, (some .int), 0, 0)
theorem zCm_X9_joined : zCm mX9_joined := ⟨zT_of 1036 (by decide +kernel) rfl, zT_of 63 (by decide +kernel) rfl, by decide +kernel, by decide, by decide +kernel⟩
theorem zPV_X9_joined : zPV mX9_joined 1 9 := ⟨zCm_X9_joined, ⟨zT_of 1034 (by decide +kernel) rfl, zT_of 1035 (by decide +kernel) rfl⟩, by unfold zNp; decide +kernel, by decide, rfl, rfl⟩
abbrev mX9_step : zMt := (yX9_step, cX9_step, 2, (some .int), 0, 0)
theorem zCm_X9_step : zCm mX9_step := ⟨zT_of 1063 (by decide +kernel) rfl, zT_of 63 (by decide +kernel) rfl, by decide +kernel, by decide, by decide +kernel⟩
theorem zPV_X9_step : zPV mX9_step 1 9 := ⟨zCm_X9_step, ⟨zT_of 1061 (by decide +kernel) rfl, zT_of 1062 (by decide +kernel) rfl⟩, by unfold zNp; decide +kernel, by decide, rfl, rfl⟩
abbrev mX9_profileOf : zMt := (yX9_profileOf, cX9_profileOf, 4, (some .int), 0, 0)
theorem zCm_X9_profileOf : zCm mX9_profileOf := ⟨zT_of 1072 (by decide +kernel) rfl, zT_of 63 (by decide +kernel) rfl, by decide +kernel, by decide, by decide +kernel⟩
theorem zPV_X9_profileOf : zPV mX9_profileOf 1 9 := ⟨zCm_X9_profileOf, ⟨zT_of 1071 (by decide +kernel) rfl, zT_of 39 (by decide +kernel) rfl⟩, by unfold zNp; decide +kernel, by decide, rfl, rfl⟩
abbrev mX9_profile : zMt := (yX9_profile, cX9_profile, 2, (some .int), 0, 0)
theorem zCm_X9_profile : zCm mX9_profile := ⟨zT_of 1067 (by decide +kernel) rfl, zT_of 63 (by decide +kernel) rfl, by decide +kernel, by decide, by decide +kernel⟩
theorem zPV_X9_profile : zPV mX9_profile 1 9 := ⟨zCm_X9_profile, ⟨zT_of 1065 (by decide +kernel) rfl, zT_of 1066 (by decide +kernel) rfl⟩, by unfold zNp; decide +kernel, by decide, rfl, rfl⟩
abbrev mX9_wire : zMt := (yX9_wire, cX9_wire, 4, (some .int), 0, 0)
theorem zCm_X9_wire : zCm mX9_wire := ⟨zT_of 1077 (by decide +kernel) rfl, zT_of 63 (by decide +kernel) rfl, by decide +kernel, by decide, by decide +kernel⟩
theorem zPV_X9_wire : zPV mX9_wire 3 9 := ⟨zCm_X9_wire, ⟨zT_of 1075 (by decide +kernel) rfl, zT_of 1076 (by decide +kernel) rfl⟩, by unfold zNp; decide +kernel, by decide, rfl, rfl⟩
abbrev mX9_offOf : zMt := (yX9_offOf, cX9_offOf, 4, (some .int), 0, 0)
theorem zCm_X9_offOf : zCm mX9_offOf := ⟨zT_of 1085 (by decide +kernel) rfl, zT_of 63 (by decide +kernel) rfl, by decide +kernel, by decide, by decide +kernel⟩
theorem zPV_X9_offOf : zPV mX9_offOf 1 9 := ⟨zCm_X9_offOf, ⟨zT_of 1084 (by decide +kernel) rfl, zT_of 40 (by decide +kernel) rfl⟩, by unfold zNp; decide +kernel, by decide, rfl, rfl⟩
abbrev mX9_wires : zMt := (yX9_wires, cX9_wires, 6, (some .int), 0, 0)
theorem zCm_X9_wires : zCm mX9_wires := ⟨zT_of 1081 (by decide +kernel) rfl, zT_of 63 (by decide +kernel) rfl, by decide +kernel, by decide, by decide +kernel⟩
theorem zPV_X9_wires : zPV mX9_wires 1 9 := ⟨zCm_X9_wires, ⟨zT_of 1079 (by decide +kernel) rfl, zT_of 1080 (by decide +kernel) rfl⟩, by unfold zNp; decide +kernel, by decide, rfl, rfl⟩
abbrev mX9_pull : zMt := (yX9_pull, cX9_pull, 5, (some .int), 0, 0)
theorem zCm_X9_pull : zCm mX9_pull := ⟨zT_of 1089 (by decide +kernel) rfl, zT_of 63 (by decide +kernel) rfl, by decide +kernel, by decide, by decide +kernel⟩
theorem zPV_X9_pull : zPV mX9_pull 3 9 := ⟨zCm_X9_pull, ⟨zT_of 1087 (by decide +kernel) rfl, zT_of 1088 (by decide +kernel) rfl⟩, by unfold zNp; decide +kernel, by decide, rfl, rfl⟩
abbrev mX9_rest : zMt := (yX9_rest, cX9_rest, 3, (some .int), 0, 0)
theorem zCm_X9_rest : zCm mX9_rest := ⟨zT_of 1093 (by decide +kernel) rfl, zT_of 63 (by decide +kernel) rfl, by decide +kernel, by decide, by decide +kernel⟩
theorem zPV_X9_rest : zPV mX9_rest 1 9 := ⟨zCm_X9_rest, ⟨zT_of 1091 (by decide +kernel) rfl, zT_of 1092 (by decide +kernel) rfl⟩, by unfold zNp; decide +kernel, by decide, rfl, rfl⟩
abbrev mX9_pullOf : zMt := (yX9_pullOf, cX9_pullOf, 3, (some .int), 0, 0)
theorem zCm_X9_pullOf : zCm mX9_pullOf := ⟨zT_of 1101 (by decide +kernel) rfl, zT_of 63 (by decide +kernel) rfl, by decide +kernel, by decide, by decide +kernel⟩
theorem zPV_X9_pullOf : zPV mX9_pullOf 2 9 := ⟨zCm_X9_pullOf, ⟨zT_of 1100 (by decide +kernel) rfl, zT_of 41 (by decide +kernel) rfl⟩, by unfold zNp; decide +kernel, by decide, rfl, rfl⟩
abbrev mX9_lays : zMt := (yX9_lays, cX9_lays, 6, none, 0, 0)
theorem zCm_X9_lays : zCm mX9_lays := ⟨zT_of 1107 (by decide +kernel) rfl, zT_of 63 (by decide +kernel) rfl, by decide +kernel, by decide, by decide +kernel⟩
theorem zPV_X9_lays : zPV mX9_lays 3 9 := ⟨zCm_X9_lays, ⟨zT_of 1106 (by decide +kernel) rfl, zT_of 42 (by decide +kernel) rfl⟩, by unfold zNp; decide +kernel, by decide, rfl, rfl⟩
abbrev mX9_stroke : zMt := (yX9_stroke, cX9_stroke, 5, (some .int), 0, 0)
theorem zCm_X9_stroke : zCm mX9_stroke := ⟨zT_of 1097 (by decide +kernel) rfl, zT_of 63 (by decide +kernel) rfl, by decide +kernel, by decide, by decide +kernel⟩
theorem zPV_X9_stroke : zPV mX9_stroke 3 9 := ⟨zCm_X9_stroke, ⟨zT_of 1095 (by decide +kernel) rfl, zT_of 1096 (by decide +kernel) rfl⟩, by unfold zNp; decide +kernel, by decide, rfl, rfl⟩
abbrev mX9_undo : zMt := (yX9_undo, cX9_undo, 3, (some .int), 0, 0)
theorem zCm_X9_undo : zCm mX9_undo := ⟨zT_of 1111 (by decide +kernel) rfl, zT_of 63 (by decide +kernel) rfl, by decide +kernel, by decide, by decide +kernel⟩
theorem zPV_X9_undo : zPV mX9_undo 0 9 := ⟨zCm_X9_undo, ⟨zT_of 1109 (by decide +kernel) rfl, zT_of 1110 (by decide +kernel) rfl⟩, by unfold zNp; decide +kernel, by decide, rfl, rfl⟩
abbrev mX9_replay : zMt := (yX9_replay, cX9_replay, 6, (some .int), 0, 0)
theorem zCm_X9_replay : zCm mX9_replay := ⟨zT_of 1115 (by decide +kernel) rfl, zT_of 63 (by decide +kernel) rfl, by decide +kernel, by decide, by decide +kernel⟩
theorem zPV_X9_replay : zPV mX9_replay 2 9 := ⟨zCm_X9_replay, ⟨zT_of 1113 (by decide +kernel) rfl, zT_of 1114 (by decide +kernel) rfl⟩, by unfold zNp; decide +kernel, by decide, rfl, rfl⟩
abbrev mX9_back : zMt := (yX9_back, cX9_back, 4, (some .int), 0, 0)
theorem zCm_X9_back : zCm mX9_back := ⟨zT_of 1138 (by decide +kernel) rfl, zT_of 63 (by decide +kernel) rfl, by decide +kernel, by decide, by decide +kernel⟩
theorem zPS_X9_back : zPS mX9_back 2 := ⟨zCm_X9_back, zT_of 1137 (by decide +kernel) rfl, by unfold zNp; decide +kernel, rfl⟩
abbrev mX9_isRight : zMt := (yX9_isRight, cX9_isRight, 8, (some .boolean), 0, 0)
theorem zCm_X9_isRight : zCm mX9_isRight := ⟨zT_of 1135 (by decide +kernel) rfl, zT_of 63 (by decide +kernel) rfl, by decide +kernel, by decide, by decide +kernel⟩
theorem zPV_X9_isRight : zPV mX9_isRight 4 9 := ⟨zCm_X9_isRight, ⟨zT_of 1134 (by decide +kernel) rfl, zT_of 46 (by decide +kernel) rfl⟩, by unfold zNp; decide +kernel, by decide, rfl, rfl⟩
abbrev mX9_next : zMt := (yX9_next, cX9_next, 2, (some .int), 0, 0)
theorem zCm_X9_next : zCm mX9_next := ⟨zT_of 1141 (by decide +kernel) rfl, zT_of 63 (by decide +kernel) rfl, by decide +kernel, by decide, by decide +kernel⟩
theorem zPS_X9_next : zPS mX9_next 2 := ⟨zCm_X9_next, zT_of 1140 (by decide +kernel) rfl, by unfold zNp; decide +kernel, rfl⟩
abbrev mX9_most : zMt := (yX9_most, cX9_most, 2, (some .int), 0, 0)
theorem zCm_X9_most : zCm mX9_most := ⟨zT_of 1131 (by decide +kernel) rfl, zT_of 63 (by decide +kernel) rfl, by decide +kernel, by decide, by decide +kernel⟩
theorem zPV_X9_most : zPV mX9_most 1 9 := ⟨zCm_X9_most, ⟨zT_of 1130 (by decide +kernel) rfl, zT_of 45 (by decide +kernel) rfl⟩, by unfold zNp; decide +kernel, by decide, rfl, rfl⟩
abbrev mX9_costs : zMt := (yX9_costs, cX9_costs, 7, none, 0, 0)
theorem zCm_X9_costs : zCm mX9_costs := ⟨zT_of 1127 (by decide +kernel) rfl, zT_of 63 (by decide +kernel) rfl, by decide +kernel, by decide, by decide +kernel⟩
theorem zPV_X9_costs : zPV mX9_costs 1 9 := ⟨zCm_X9_costs, ⟨zT_of 1126 (by decide +kernel) rfl, zT_of 44 (by decide +kernel) rfl⟩, by unfold zNp; decide +kernel, by decide, rfl, rfl⟩
abbrev mX9_plans : zMt := (yX9_plans, cX9_plans, 7, (some .int), 0, 0)
theorem zCm_X9_plans : zCm mX9_plans := ⟨zT_of 1123 (by decide +kernel) rfl, zT_of 63 (by decide +kernel) rfl, by decide +kernel, by decide, by decide +kernel⟩
theorem zPV_X9_plans : zPV mX9_plans 1 9 := ⟨zCm_X9_plans, ⟨zT_of 1122 (by decide +kernel) rfl, zT_of 43 (by decide +kernel) rfl⟩, by unfold zNp; decide +kernel, by decide, rfl, rfl⟩
abbrev mX9_plan : zMt := (yX9_plan, cX9_plan, 4, (some .int), 0, 0)
theorem zCm_X9_plan : zCm mX9_plan := ⟨zT_of 1119 (by decide +kernel) rfl, zT_of 63 (by decide +kernel) rfl, by decide +kernel, by decide, by decide +kernel⟩
theorem zPV_X9_plan : zPV mX9_plan 2 9 := ⟨zCm_X9_plan, ⟨zT_of 1117 (by decide +kernel) rfl, zT_of 1118 (by decide +kernel) rfl⟩, by unfold zNp; decide +kernel, by decide, rfl, rfl⟩
abbrev mX9_right : zMt := (yX9_right, cX9_right, 8, (some .int), 0, 0)
theorem zCm_X9_right : zCm mX9_right := ⟨zT_of 1145 (by decide +kernel) rfl, zT_of 63 (by decide +kernel) rfl, by decide +kernel, by decide, by decide +kernel⟩
theorem zPV_X9_right : zPV mX9_right 1 9 := ⟨zCm_X9_right, ⟨zT_of 1143 (by decide +kernel) rfl, zT_of 1144 (by decide +kernel) rfl⟩, by unfold zNp; decide +kernel, by decide, rfl, rfl⟩
abbrev mX9_work : zMt := (yX9_work, cX9_work, 4, (some .int), 0, 0)
theorem zCm_X9_work : zCm mX9_work := ⟨zT_of 1149 (by decide +kernel) rfl, zT_of 63 (by decide +kernel) rfl, by decide +kernel, by decide, by decide +kernel⟩
theorem zPV_X9_work : zPV mX9_work 1 9 := ⟨zCm_X9_work, ⟨zT_of 1147 (by decide +kernel) rfl, zT_of 1148 (by decide +kernel) rfl⟩, by unfold zNp; decide +kernel, by decide, rfl, rfl⟩
abbrev mX9_bend : zMt := (yX9_bend, cX9_bend, 5, (some .int), 0, 0)
theorem zCm_X9_bend : zCm mX9_bend := ⟨zT_of 1153 (by decide +kernel) rfl, zT_of 63 (by decide +kernel) rfl, by decide +kernel, by decide, by decide +kernel⟩
theorem zPV_X9_bend : zPV mX9_bend 3 9 := ⟨zCm_X9_bend, ⟨zT_of 1151 (by decide +kernel) rfl, zT_of 1152 (by decide +kernel) rfl⟩, by unfold zNp; decide +kernel, by decide, rfl, rfl⟩
abbrev mX9_spreads : zMt := (yX9_spreads, cX9_spreads, 7, none, 0, 0)
theorem zCm_X9_spreads : zCm mX9_spreads := ⟨zT_of 1161 (by decide +kernel) rfl, zT_of 63 (by decide +kernel) rfl, by decide +kernel, by decide, by decide +kernel⟩
theorem zPV_X9_spreads : zPV mX9_spreads 0 9 := ⟨zCm_X9_spreads, ⟨zT_of 1160 (by decide +kernel) rfl, zT_of 47 (by decide +kernel) rfl⟩, by unfold zNp; decide +kernel, by decide, rfl, rfl⟩
abbrev mX9_bear : zMt := (yX9_bear, cX9_bear, 7, (some .int), 0, 0)
theorem zCm_X9_bear : zCm mX9_bear := ⟨zT_of 1157 (by decide +kernel) rfl, zT_of 63 (by decide +kernel) rfl, by decide +kernel, by decide, by decide +kernel⟩
theorem zPV_X9_bear : zPV mX9_bear 1 9 := ⟨zCm_X9_bear, ⟨zT_of 1155 (by decide +kernel) rfl, zT_of 1156 (by decide +kernel) rfl⟩, by unfold zNp; decide +kernel, by decide, rfl, rfl⟩
abbrev mX9_warm : zMt := (yX9_warm, cX9_warm, 4, (some .int), 0, 0)
theorem zCm_X9_warm : zCm mX9_warm := ⟨zT_of 1165 (by decide +kernel) rfl, zT_of 63 (by decide +kernel) rfl, by decide +kernel, by decide, by decide +kernel⟩
theorem zPV_X9_warm : zPV mX9_warm 2 9 := ⟨zCm_X9_warm, ⟨zT_of 1163 (by decide +kernel) rfl, zT_of 1164 (by decide +kernel) rfl⟩, by unfold zNp; decide +kernel, by decide, rfl, rfl⟩
abbrev mX9_down : zMt := (yX9_down, cX9_down, 2, (some .int), 0, 0)
theorem zCm_X9_down : zCm mX9_down := ⟨zT_of 1176 (by decide +kernel) rfl, zT_of 63 (by decide +kernel) rfl, by decide +kernel, by decide, by decide +kernel⟩
theorem zPS_X9_down : zPS mX9_down 2 := ⟨zCm_X9_down, zT_of 1175 (by decide +kernel) rfl, by unfold zNp; decide +kernel, rfl⟩
abbrev mX9_passes : zMt := (yX9_passes, cX9_passes, 2, none, 0, 0)
theorem zCm_X9_passes : zCm mX9_passes := ⟨zT_of 1173 (by decide +kernel) rfl, zT_of 63 (by decide +kernel) rfl, by decide +kernel, by decide, by decide +kernel⟩
theorem zPV_X9_passes : zPV mX9_passes 0 9 := ⟨zCm_X9_passes, ⟨zT_of 1172 (by decide +kernel) rfl, zT_of 48 (by decide +kernel) rfl⟩, by unfold zNp; decide +kernel, by decide, rfl, rfl⟩
abbrev mX9_apart : zMt := (yX9_apart, cX9_apart, 5, (some .int), 0, 0)
theorem zCm_X9_apart : zCm mX9_apart := ⟨zT_of 1180 (by decide +kernel) rfl, zT_of 63 (by decide +kernel) rfl, by decide +kernel, by decide, by decide +kernel⟩
theorem zPV_X9_apart : zPV mX9_apart 1 9 := ⟨zCm_X9_apart, ⟨zT_of 1179 (by decide +kernel) rfl, zT_of 49 (by decide +kernel) rfl⟩, by unfold zNp; decide +kernel, by decide, rfl, rfl⟩
abbrev mX9_cool : zMt := (yX9_cool, cX9_cool, 3, (some .int), 0, 0)
theorem zCm_X9_cool : zCm mX9_cool := ⟨zT_of 1169 (by decide +kernel) rfl, zT_of 63 (by decide +kernel) rfl, by decide +kernel, by decide, by decide +kernel⟩
theorem zPV_X9_cool : zPV mX9_cool 1 9 := ⟨zCm_X9_cool, ⟨zT_of 1167 (by decide +kernel) rfl, zT_of 1168 (by decide +kernel) rfl⟩, by unfold zNp; decide +kernel, by decide, rfl, rfl⟩
abbrev mX9_still : zMt := (yX9_still, cX9_still, 4, (some .int), 0, 0)
theorem zCm_X9_still : zCm mX9_still := ⟨zT_of 1184 (by decide +kernel) rfl, zT_of 63 (by decide +kernel) rfl, by decide +kernel, by decide, by decide +kernel⟩
theorem zPV_X9_still : zPV mX9_still 1 9 := ⟨zCm_X9_still, ⟨zT_of 1182 (by decide +kernel) rfl, zT_of 1183 (by decide +kernel) rfl⟩, by unfold zNp; decide +kernel, by decide, rfl, rfl⟩
abbrev mX9_warmth : zMt := (yX9_warmth, cX9_warmth, 2, (some .int), 0, 0)
theorem zCm_X9_warmth : zCm mX9_warmth := ⟨zT_of 1188 (by decide +kernel) rfl, zT_of 63 (by decide +kernel) rfl, by decide +kernel, by decide, by decide +kernel⟩
theorem zPV_X9_warmth : zPV mX9_warmth 1 9 := ⟨zCm_X9_warmth, ⟨zT_of 1186 (by decide +kernel) rfl, zT_of 1187 (by decide +kernel) rfl⟩, by unfold zNp; decide +kernel, by decide, rfl, rfl⟩
abbrev mX9_grit : zMt := (yX9_grit, cX9_grit, 3, (some .int), 0, 0)
theorem zCm_X9_grit : zCm mX9_grit := ⟨zT_of 1192 (by decide +kernel) rfl, zT_of 63 (by decide +kernel) rfl, by decide +kernel, by decide, by decide +kernel⟩
theorem zPV_X9_grit : zPV mX9_grit 2 9 := ⟨zCm_X9_grit, ⟨zT_of 1190 (by decide +kernel) rfl, zT_of 1191 (by decide +kernel) rfl⟩, by unfold zNp; decide +kernel, by decide, rfl, rfl⟩
abbrev mX9_slack : zMt := (yX9_slack, cX9_slack, 3, (some .int), 0, 0)
theorem zCm_X9_slack : zCm mX9_slack := ⟨zT_of 1196 (by decide +kernel) rfl, zT_of 63 (by decide +kernel) rfl, by decide +kernel, by decide, by decide +kernel⟩
theorem zPV_X9_slack : zPV mX9_slack 1 9 := ⟨zCm_X9_slack, ⟨zT_of 1194 (by decide +kernel) rfl, zT_of 1195 (by decide +kernel) rfl⟩, by unfold zNp; decide +kernel, by decide, rfl, rfl⟩
abbrev mX9_cell : zMt := (yX9_cell, cX9_cell, 3, (some .int), 0, 0)
theorem zCm_X9_cell : zCm mX9_cell := ⟨zT_of 1211 (by decide +kernel) rfl, zT_of 63 (by decide +kernel) rfl, by decide +kernel, by decide, by decide +kernel⟩
theorem zPS_X9_cell : zPS mX9_cell 3 := ⟨zCm_X9_cell, zT_of 1210 (by decide +kernel) rfl, by unfold zNp; decide +kernel, rfl⟩
abbrev mX9_with : zMt := (yX9_with, cX9_with, 7, (some .int), 0, 0)
theorem zCm_X9_with : zCm mX9_with := ⟨zT_of 1208 (by decide +kernel) rfl, zT_of 63 (by decide +kernel) rfl, by decide +kernel, by decide, by decide +kernel⟩
theorem zPV_X9_with : zPV mX9_with 5 9 := ⟨zCm_X9_with, ⟨zT_of 1207 (by decide +kernel) rfl, zT_of 51 (by decide +kernel) rfl⟩, by unfold zNp; decide +kernel, by decide, rfl, rfl⟩
abbrev mX9_wetsBy : zMt := (yX9_wetsBy, cX9_wetsBy, 9, none, 0, 0)
theorem zCm_X9_wetsBy : zCm mX9_wetsBy := ⟨zT_of 1204 (by decide +kernel) rfl, zT_of 63 (by decide +kernel) rfl, by decide +kernel, by decide, by decide +kernel⟩
theorem zPV_X9_wetsBy : zPV mX9_wetsBy 1 9 := ⟨zCm_X9_wetsBy, ⟨zT_of 1203 (by decide +kernel) rfl, zT_of 50 (by decide +kernel) rfl⟩, by unfold zNp; decide +kernel, by decide, rfl, rfl⟩
abbrev mX9_wets : zMt := (yX9_wets, cX9_wets, 8, (some .int), 0, 0)
theorem zCm_X9_wets : zCm mX9_wets := ⟨zT_of 1200 (by decide +kernel) rfl, zT_of 63 (by decide +kernel) rfl, by decide +kernel, by decide, by decide +kernel⟩
theorem zPV_X9_wets : zPV mX9_wets 2 9 := ⟨zCm_X9_wets, ⟨zT_of 1198 (by decide +kernel) rfl, zT_of 1199 (by decide +kernel) rfl⟩, by unfold zNp; decide +kernel, by decide, rfl, rfl⟩
abbrev mX9_count : zMt := (yX9_count, cX9_count, 5, (some .int), 0, 0)
theorem zCm_X9_count : zCm mX9_count := ⟨zT_of 1215 (by decide +kernel) rfl, zT_of 63 (by decide +kernel) rfl, by decide +kernel, by decide, by decide +kernel⟩
theorem zPV_X9_count : zPV mX9_count 1 9 := ⟨zCm_X9_count, ⟨zT_of 1213 (by decide +kernel) rfl, zT_of 1214 (by decide +kernel) rfl⟩, by unfold zNp; decide +kernel, by decide, rfl, rfl⟩
abbrev mJ6_bitCount_0f7a4 : zMt := (yJ6_bitCount_0f7a4, cJ6_bitCount_0f7a4, 1, (some .int), 0, 0)
theorem zCm_J6_bitCount_0f7a4 : zCm mJ6_bitCount_0f7a4 := ⟨zT_of 473 (by decide +kernel) rfl, zT_of 66 (by decide +kernel) rfl, by decide +kernel, by decide, by decide +kernel⟩
theorem zPS_J6_bitCount_0f7a4 : zPS mJ6_bitCount_0f7a4 1 := ⟨zCm_J6_bitCount_0f7a4, zT_of 472 (by decide +kernel) rfl, by unfold zNp; decide +kernel, rfl⟩
abbrev mJ9_floorDiv_7cf53 : zMt := (yJ9_floorDiv_7cf53, cJ9_floorDiv_7cf53, 3, (some .int), 0, 0)
theorem zCm_J9_floorDiv_7cf53 : zCm mJ9_floorDiv_7cf53 := ⟨zT_of 773 (by decide +kernel) rfl, zT_of 65 (by decide +kernel) rfl, by decide +kernel, by decide, by decide +kernel⟩
theorem zPS_J9_floorDiv_7cf53 : zPS mJ9_floorDiv_7cf53 2 := ⟨zCm_J9_floorDiv_7cf53, zT_of 772 (by decide +kernel) rfl, by unfold zNp; decide +kernel, rfl⟩
abbrev mJ9_abs_0f7a4 : zMt := (yJ9_abs_0f7a4, cJ9_abs_0f7a4, 1, (some .int), 0, 0)
theorem zCm_J9_abs_0f7a4 : zCm mJ9_abs_0f7a4 := ⟨zT_of 462 (by decide +kernel) rfl, zT_of 65 (by decide +kernel) rfl, by decide +kernel, by decide, by decide +kernel⟩
theorem zPS_J9_abs_0f7a4 : zPS mJ9_abs_0f7a4 1 := ⟨zCm_J9_abs_0f7a4, zT_of 461 (by decide +kernel) rfl, by unfold zNp; decide +kernel, rfl⟩
abbrev mJ9_abs_067f4 : zMt := (yJ9_abs_067f4, cJ9_abs_067f4, 2, (some .long), 0, 0)
theorem zCm_J9_abs_067f4 : zCm mJ9_abs_067f4 := ⟨zT_of 392 (by decide +kernel) rfl, zT_of 65 (by decide +kernel) rfl, by decide +kernel, by decide, by decide +kernel⟩
theorem zPS_J9_abs_067f4 : zPS mJ9_abs_067f4 1 := ⟨zCm_J9_abs_067f4, zT_of 391 (by decide +kernel) rfl, by unfold zNp; decide +kernel, rfl⟩
abbrev mJ9_max_7cf53 : zMt := (yJ9_max_7cf53, cJ9_max_7cf53, 2, (some .int), 0, 0)
theorem zCm_J9_max_7cf53 : zCm mJ9_max_7cf53 := ⟨zT_of 738 (by decide +kernel) rfl, zT_of 65 (by decide +kernel) rfl, by decide +kernel, by decide, by decide +kernel⟩
theorem zPS_J9_max_7cf53 : zPS mJ9_max_7cf53 2 := ⟨zCm_J9_max_7cf53, zT_of 737 (by decide +kernel) rfl, by unfold zNp; decide +kernel, rfl⟩
abbrev mJ9_min_7cf53 : zMt := (yJ9_min_7cf53, cJ9_min_7cf53, 2, (some .int), 0, 0)
theorem zCm_J9_min_7cf53 : zCm mJ9_min_7cf53 := ⟨zT_of 669 (by decide +kernel) rfl, zT_of 65 (by decide +kernel) rfl, by decide +kernel, by decide, by decide +kernel⟩
theorem zPS_J9_min_7cf53 : zPS mJ9_min_7cf53 2 := ⟨zCm_J9_min_7cf53, zT_of 668 (by decide +kernel) rfl, by unfold zNp; decide +kernel, rfl⟩
abbrev mJ7_fill_53178 : zMt := (yJ7_fill_53178, cJ7_fill_53178, 4, none, 0, 0)
theorem zCm_J7_fill_53178 : zCm mJ7_fill_53178 := ⟨zT_of 105 (by decide +kernel) rfl, zT_of 56 (by decide +kernel) rfl, by decide +kernel, by decide, by decide +kernel⟩
theorem zPS_J7_fill_53178 : zPS mJ7_fill_53178 2 := ⟨zCm_J7_fill_53178, zT_of 104 (by decide +kernel) rfl, by unfold zNp; decide +kernel, rfl⟩
theorem zLk_L_9 : Cond.methodLink RL 9 mX8_init.1 ∈ zT := zT_of 69 (by decide +kernel) rfl
theorem zLk_X8_3 : Cond.methodLink RX8 3 objectInit ∈ zT := zT_of 72 (by decide +kernel) rfl
theorem zLn_X8_11 : Cond.methodLinkNest RX8 11 mX1_init.1 RX8 ∈ zNest := by decide +kernel
theorem zLk_X1_3 : Cond.methodLink RX1 3 objectInit ∈ zT := zT_of 80 (by decide +kernel) rfl
theorem zLk_X8_18 : Cond.methodLink RX8 18 mX3_init.1 ∈ zT := zT_of 93 (by decide +kernel) rfl
theorem zLk_X3_3 : Cond.methodLink RX3 3 objectInit ∈ zT := zT_of 96 (by decide +kernel) rfl
theorem zLk_X3_39 : Cond.methodLink RX3 39 mX3_begin.1 ∈ zT := zT_of 99 (by decide +kernel) rfl
theorem zLk_X3_46 : Cond.methodLink RX3 46 mJ7_fill_53178.1 ∈ zT := zT_of 103 (by decide +kernel) rfl
theorem zLk_X8_25 : Cond.methodLink RX8 25 mX7_init.1 ∈ zT := zT_of 146 (by decide +kernel) rfl
theorem zLk_X7_3 : Cond.methodLink RX7 3 objectInit ∈ zT := zT_of 149 (by decide +kernel) rfl
theorem zLn_X8_34 : Cond.methodLinkNest RX8 34 mX0_init.1 RX8 ∈ zNest := by decide +kernel
theorem zLk_X0_3 : Cond.methodLink RX0 3 objectInit ∈ zT := zT_of 171 (by decide +kernel) rfl
theorem zLk_X8_41 : Cond.methodLink RX8 41 mX4_init.1 ∈ zT := zT_of 209 (by decide +kernel) rfl
theorem zLk_X4_5 : Cond.methodLink RX4 5 objectInit ∈ zT := zT_of 212 (by decide +kernel) rfl
theorem zLk_X4_36 : Cond.methodLink RX4 36 mJ7_fill_53178.1 ∈ zT := zT_of 214 (by decide +kernel) rfl
theorem zLn_X8_50 : Cond.methodLinkNest RX8 50 mX5_init.1 RX8 ∈ zNest := by decide +kernel
theorem zLk_X5_3 : Cond.methodLink RX5 3 objectInit ∈ zT := zT_of 248 (by decide +kernel) rfl
theorem zLn_X8_57 : Cond.methodLinkNest RX8 57 mX6_init.1 RX8 ∈ zNest := by decide +kernel
theorem zLk_X6_3 : Cond.methodLink RX6 3 objectInit ∈ zT := zT_of 277 (by decide +kernel) rfl
theorem zLn_X8_64 : Cond.methodLinkNest RX8 64 mX2_init.1 RX8 ∈ zNest := by decide +kernel
theorem zLk_X2_3 : Cond.methodLink RX2 3 objectInit ∈ zT := zT_of 293 (by decide +kernel) rfl
theorem zLk_L_13 : Cond.methodLink RL 13 mX8_disc.1 ∈ zT := zT_of 342 (by decide +kernel) rfl
theorem zLk_X8_73 : Cond.methodLink RX8 73 mX8_within.1 ∈ zT := zT_of 346 (by decide +kernel) rfl
theorem zLk_X8_77 : Cond.methodLink RX8 77 mX3_begin.1 ∈ zT := zT_of 349 (by decide +kernel) rfl
theorem zLk_X8_81 : Cond.methodLink RX8 81 mX7_begin.1 ∈ zT := zT_of 350 (by decide +kernel) rfl
theorem zLk_X8_83 : Cond.methodLink RX8 83 mX0_begin.1 ∈ zT := zT_of 354 (by decide +kernel) rfl
theorem zLk_X0_48 : Cond.methodLink RX0 48 mJ7_fill_53178.1 ∈ zT := zT_of 358 (by decide +kernel) rfl
theorem zLk_X0_54 : Cond.methodLink RX0 54 mX0_keepAsTold.1 ∈ zT := zT_of 359 (by decide +kernel) rfl
theorem zLk_X0_57 : Cond.methodLink RX0 57 arraycopyName ∈ zT := zT_of 363 (by decide +kernel) rfl
theorem zLk_X8_84 : Cond.methodLink RX8 84 mX5_begin.1 ∈ zT := zT_of 366 (by decide +kernel) rfl
theorem zLk_X5_34 : Cond.methodLink RX5 34 mJ7_fill_53178.1 ∈ zT := zT_of 370 (by decide +kernel) rfl
theorem zLk_L_18 : Cond.methodLink RL 18 mX8_aim.1 ∈ zT := zT_of 371 (by decide +kernel) rfl
theorem zLk_X8_85 : Cond.methodLink RX8 85 mX1_become.1 ∈ zT := zT_of 375 (by decide +kernel) rfl
theorem zLk_L_23 : Cond.methodLink RL 23 mX8_depth.1 ∈ zT := zT_of 379 (by decide +kernel) rfl
theorem zLk_X8_91 : Cond.methodLink RX8 91 mX1_depthAt.1 ∈ zT := zT_of 384 (by decide +kernel) rfl
theorem zLk_X1_25 : Cond.methodLink RX1 25 mJ9_abs_067f4.1 ∈ zT := zT_of 390 (by decide +kernel) rfl
theorem zLk_X1_31 : Cond.methodLink RX1 31 mX1_sharedDivisor.1 ∈ zT := zT_of 393 (by decide +kernel) rfl
theorem zLk_L_28 : Cond.methodLink RL 28 mX8_height.1 ∈ zT := zT_of 397 (by decide +kernel) rfl
theorem zLk_X8_95 : Cond.methodLink RX8 95 mX8_isZone.1 ∈ zT := zT_of 401 (by decide +kernel) rfl
theorem zLk_X8_102 : Cond.methodLink RX8 102 mX0_tellHeight.1 ∈ zT := zT_of 408 (by decide +kernel) rfl
theorem zLk_L_33 : Cond.methodLink RL 33 mX8_at.1 ∈ zT := zT_of 412 (by decide +kernel) rfl
theorem zLk_X8_106 : Cond.methodLink RX8 106 mX0_heightOf.1 ∈ zT := zT_of 416 (by decide +kernel) rfl
theorem zLk_L_37 : Cond.methodLink RL 37 mX8_read.1 ∈ zT := zT_of 420 (by decide +kernel) rfl
theorem zLk_X8_110 : Cond.methodLink RX8 110 mX8_isStep.1 ∈ zT := zT_of 424 (by decide +kernel) rfl
theorem zLk_X8_113 : Cond.methodLink RX8 113 mX3_tellReading.1 ∈ zT := zT_of 428 (by decide +kernel) rfl
theorem zLk_L_41 : Cond.methodLink RL 41 mX8_lie.1 ∈ zT := zT_of 432 (by decide +kernel) rfl
theorem zLk_X8_117 : Cond.methodLink RX8 117 mX3_tellLie.1 ∈ zT := zT_of 436 (by decide +kernel) rfl
theorem zLk_L_45 : Cond.methodLink RL 45 mX8_joined.1 ∈ zT := zT_of 440 (by decide +kernel) rfl
theorem zLk_X8_120 : Cond.methodLink RX8 120 mX3_howManyDropped.1 ∈ zT := zT_of 444 (by decide +kernel) rfl
theorem zLk_X3_56 : Cond.methodLink RX3 56 mX3_settle.1 ∈ zT := zT_of 448 (by decide +kernel) rfl
theorem zLk_X3_66 : Cond.methodLink RX3 66 mX3_settleAgreements.1 ∈ zT := zT_of 452 (by decide +kernel) rfl
theorem zLk_X3_79 : Cond.methodLink RX3 79 mX3_stepsOfAgreement.1 ∈ zT := zT_of 456 (by decide +kernel) rfl
theorem zLk_X3_83 : Cond.methodLink RX3 83 mJ9_abs_0f7a4.1 ∈ zT := zT_of 460 (by decide +kernel) rfl
theorem zLk_X3_69 : Cond.methodLink RX3 69 mX3_settleShifts.1 ∈ zT := zT_of 463 (by decide +kernel) rfl
theorem zLk_X3_88 : Cond.methodLink RX3 88 mX3_keptMore.1 ∈ zT := zT_of 467 (by decide +kernel) rfl
theorem zLk_X3_99 : Cond.methodLink RX3 99 mJ6_bitCount_0f7a4.1 ∈ zT := zT_of 471 (by decide +kernel) rfl
theorem zLk_X3_92 : Cond.methodLink RX3 92 mX3_howManyTold.1 ∈ zT := zT_of 477 (by decide +kernel) rfl
theorem zLk_X3_96 : Cond.methodLink RX3 96 mX3_stepsTold.1 ∈ zT := zT_of 481 (by decide +kernel) rfl
theorem zLk_X3_72 : Cond.methodLink RX3 72 mX3_leastStep.1 ∈ zT := zT_of 485 (by decide +kernel) rfl
theorem zLk_X3_104 : Cond.methodLink RX3 104 mX3_servedBy.1 ∈ zT := zT_of 489 (by decide +kernel) rfl
theorem zLk_X3_76 : Cond.methodLink RX3 76 mX3_settleProfiles.1 ∈ zT := zT_of 493 (by decide +kernel) rfl
theorem zLk_X8_124 : Cond.methodLink RX8 124 mX3_shiftOf.1 ∈ zT := zT_of 497 (by decide +kernel) rfl
theorem zLk_L_49 : Cond.methodLink RL 49 mX8_step.1 ∈ zT := zT_of 501 (by decide +kernel) rfl
theorem zLk_X8_127 : Cond.methodLink RX8 127 mX3_stepOf.1 ∈ zT := zT_of 505 (by decide +kernel) rfl
theorem zLk_L_53 : Cond.methodLink RL 53 mX8_profile.1 ∈ zT := zT_of 509 (by decide +kernel) rfl
theorem zLk_X8_130 : Cond.methodLink RX8 130 mX3_profileOf.1 ∈ zT := zT_of 513 (by decide +kernel) rfl
theorem zLk_L_57 : Cond.methodLink RL 57 mX8_wire.1 ∈ zT := zT_of 519 (by decide +kernel) rfl
theorem zLk_X8_134 : Cond.methodLink RX8 134 mX7_howMany.1 ∈ zT := zT_of 523 (by decide +kernel) rfl
theorem zLk_X8_137 : Cond.methodLink RX8 137 mX7_hold.1 ∈ zT := zT_of 527 (by decide +kernel) rfl
theorem zLk_L_61 : Cond.methodLink RL 61 mX8_wires.1 ∈ zT := zT_of 531 (by decide +kernel) rfl
theorem zLk_X8_140 : Cond.methodLink RX8 140 mX7_howManyOf.1 ∈ zT := zT_of 535 (by decide +kernel) rfl
theorem zLk_X7_29 : Cond.methodLink RX7 29 mX7_offBy.1 ∈ zT := zT_of 539 (by decide +kernel) rfl
theorem zLk_X7_45 : Cond.methodLink RX7 45 mX3_profileOf.1 ∈ zT := zT_of 543 (by decide +kernel) rfl
theorem zLk_X7_33 : Cond.methodLink RX7 33 mJ9_abs_0f7a4.1 ∈ zT := zT_of 545 (by decide +kernel) rfl
theorem zLk_X7_38 : Cond.methodLink RX7 38 mX3_lieOf.1 ∈ zT := zT_of 546 (by decide +kernel) rfl
theorem zLk_X8_143 : Cond.methodLink RX8 143 mX7_offBy.1 ∈ zT := zT_of 550 (by decide +kernel) rfl
theorem zLk_L_65 : Cond.methodLink RL 65 mX8_pull.1 ∈ zT := zT_of 551 (by decide +kernel) rfl
theorem zLk_X8_146 : Cond.methodLink RX8 146 mX8_isTool.1 ∈ zT := zT_of 555 (by decide +kernel) rfl
theorem zLk_X8_149 : Cond.methodLink RX8 149 mX0_tellPull.1 ∈ zT := zT_of 558 (by decide +kernel) rfl
theorem zLk_L_69 : Cond.methodLink RL 69 mX8_rest.1 ∈ zT := zT_of 562 (by decide +kernel) rfl
theorem zLk_X8_152 : Cond.methodLink RX8 152 mX0_tellRest.1 ∈ zT := zT_of 566 (by decide +kernel) rfl
theorem zLk_L_73 : Cond.methodLink RL 73 mX8_stroke.1 ∈ zT := zT_of 570 (by decide +kernel) rfl
theorem zLk_X8_155 : Cond.methodLink RX8 155 mX0_wouldSink.1 ∈ zT := zT_of 574 (by decide +kernel) rfl
theorem zLk_X0_67 : Cond.methodLink RX0 67 mX0_isThere.1 ∈ zT := zT_of 578 (by decide +kernel) rfl
theorem zLn_X0_63 : Cond.methodLinkNest RX0 63 mX8_within.1 RX8 ∈ zNest := by decide +kernel
theorem zLk_X0_71 : Cond.methodLink RX0 71 mX0_pullOf.1 ∈ zT := zT_of 583 (by decide +kernel) rfl
theorem zLk_X8_159 : Cond.methodLink RX8 159 mX0_roomLeft.1 ∈ zT := zT_of 589 (by decide +kernel) rfl
theorem zLk_X8_163 : Cond.methodLink RX8 163 mX0_doStroke.1 ∈ zT := zT_of 594 (by decide +kernel) rfl
theorem zLk_L_77 : Cond.methodLink RL 77 mX8_undo.1 ∈ zT := zT_of 598 (by decide +kernel) rfl
theorem zLk_X8_166 : Cond.methodLink RX8 166 mX0_howMany.1 ∈ zT := zT_of 602 (by decide +kernel) rfl
theorem zLk_X8_167 : Cond.methodLink RX8 167 mX0_undoLatest.1 ∈ zT := zT_of 606 (by decide +kernel) rfl
theorem zLk_L_82 : Cond.methodLink RL 82 mX8_replay.1 ∈ zT := zT_of 610 (by decide +kernel) rfl
theorem zLk_X8_170 : Cond.methodLink RX8 170 mX0_replayed.1 ∈ zT := zT_of 614 (by decide +kernel) rfl
theorem zLk_L_86 : Cond.methodLink RL 86 mX8_plan.1 ∈ zT := zT_of 618 (by decide +kernel) rfl
theorem zLk_X8_173 : Cond.methodLink RX8 173 mX4_hasPlan.1 ∈ zT := zT_of 622 (by decide +kernel) rfl
theorem zLk_X4_42 : Cond.methodLink RX4 42 mX4_settle.1 ∈ zT := zT_of 626 (by decide +kernel) rfl
theorem zLk_X4_56 : Cond.methodLink RX4 56 mX0_howManyChanges.1 ∈ zT := zT_of 630 (by decide +kernel) rfl
theorem zLk_X4_60 : Cond.methodLink RX4 60 mX4_begin.1 ∈ zT := zT_of 634 (by decide +kernel) rfl
theorem zLk_X4_71 : Cond.methodLink RX4 71 mX0_howManyZones.1 ∈ zT := zT_of 638 (by decide +kernel) rfl
theorem zLk_X4_74 : Cond.methodLink RX4 74 mX0_restOf.1 ∈ zT := zT_of 642 (by decide +kernel) rfl
theorem zLk_X4_80 : Cond.methodLink RX4 80 mX0_heightOf.1 ∈ zT := zT_of 646 (by decide +kernel) rfl
theorem zLk_X4_84 : Cond.methodLink RX4 84 mX0_pullOf.1 ∈ zT := zT_of 647 (by decide +kernel) rfl
theorem zLk_X4_63 : Cond.methodLink RX4 63 mX4_costFrom.1 ∈ zT := zT_of 648 (by decide +kernel) rfl
theorem zLk_X4_97 : Cond.methodLink RX4 97 mX4_leastCost.1 ∈ zT := zT_of 652 (by decide +kernel) rfl
theorem zLk_X4_87 : Cond.methodLink RX4 87 mX4_leftAt.1 ∈ zT := zT_of 656 (by decide +kernel) rfl
theorem zLk_X4_90 : Cond.methodLink RX4 90 mX4_costWith.1 ∈ zT := zT_of 660 (by decide +kernel) rfl
theorem zLk_X4_94 : Cond.methodLink RX4 94 mX4_stateBehind.1 ∈ zT := zT_of 664 (by decide +kernel) rfl
theorem zLk_X4_100 : Cond.methodLink RX4 100 mJ9_min_7cf53.1 ∈ zT := zT_of 667 (by decide +kernel) rfl
theorem zLk_X4_67 : Cond.methodLink RX4 67 mX4_traceMinutes.1 ∈ zT := zT_of 670 (by decide +kernel) rfl
theorem zLk_X8_176 : Cond.methodLink RX8 176 mX4_together.1 ∈ zT := zT_of 674 (by decide +kernel) rfl
theorem zLk_X8_179 : Cond.methodLink RX8 179 mX4_minutesAt.1 ∈ zT := zT_of 678 (by decide +kernel) rfl
theorem zLk_L_90 : Cond.methodLink RL 90 mX8_right.1 ∈ zT := zT_of 682 (by decide +kernel) rfl
theorem zLk_X8_182 : Cond.methodLink RX8 182 mX4_rightZones.1 ∈ zT := zT_of 686 (by decide +kernel) rfl
theorem zLk_L_94 : Cond.methodLink RL 94 mX8_work.1 ∈ zT := zT_of 690 (by decide +kernel) rfl
theorem zLk_X8_185 : Cond.methodLink RX8 185 mX4_strokesOf.1 ∈ zT := zT_of 694 (by decide +kernel) rfl
theorem zLk_X8_188 : Cond.methodLink RX8 188 mX4_carryOut.1 ∈ zT := zT_of 698 (by decide +kernel) rfl
theorem zLk_X4_50 : Cond.methodLink RX4 50 mX0_doStroke.1 ∈ zT := zT_of 702 (by decide +kernel) rfl
theorem zLk_L_98 : Cond.methodLink RL 98 mX8_bend.1 ∈ zT := zT_of 703 (by decide +kernel) rfl
theorem zLk_X8_191 : Cond.methodLink RX8 191 mX5_tellBend.1 ∈ zT := zT_of 707 (by decide +kernel) rfl
theorem zLk_L_102 : Cond.methodLink RL 102 mX8_bear.1 ∈ zT := zT_of 711 (by decide +kernel) rfl
theorem zLk_X8_194 : Cond.methodLink RX8 194 mX5_leastSpread.1 ∈ zT := zT_of 715 (by decide +kernel) rfl
theorem zLk_X5_40 : Cond.methodLink RX5 40 mX5_settle.1 ∈ zT := zT_of 719 (by decide +kernel) rfl
theorem zLk_X5_46 : Cond.methodLink RX5 46 mX5_place.1 ∈ zT := zT_of 723 (by decide +kernel) rfl
theorem zLk_X5_50 : Cond.methodLink RX5 50 mX5_keepIfBetter.1 ∈ zT := zT_of 727 (by decide +kernel) rfl
theorem zLk_X5_58 : Cond.methodLink RX5 58 mX5_spreadOf.1 ∈ zT := zT_of 731 (by decide +kernel) rfl
theorem zLk_X5_62 : Cond.methodLink RX5 62 mJ9_min_7cf53.1 ∈ zT := zT_of 735 (by decide +kernel) rfl
theorem zLk_X5_68 : Cond.methodLink RX5 68 mJ9_max_7cf53.1 ∈ zT := zT_of 736 (by decide +kernel) rfl
theorem zLk_X5_54 : Cond.methodLink RX5 54 mX5_placeShare.1 ∈ zT := zT_of 739 (by decide +kernel) rfl
theorem zLk_X8_197 : Cond.methodLink RX8 197 mX5_shareOf.1 ∈ zT := zT_of 743 (by decide +kernel) rfl
theorem zLk_L_106 : Cond.methodLink RL 106 mX8_warm.1 ∈ zT := zT_of 747 (by decide +kernel) rfl
theorem zLk_X8_200 : Cond.methodLink RX8 200 mX6_tellWarmth.1 ∈ zT := zT_of 751 (by decide +kernel) rfl
theorem zLk_X6_22 : Cond.methodLink RX6 22 mX6_warmthOf.1 ∈ zT := zT_of 755 (by decide +kernel) rfl
theorem zLk_L_110 : Cond.methodLink RL 110 mX8_cool.1 ∈ zT := zT_of 759 (by decide +kernel) rfl
theorem zLk_X8_203 : Cond.methodLink RX8 203 mX6_letGoBy.1 ∈ zT := zT_of 763 (by decide +kernel) rfl
theorem zLk_X6_26 : Cond.methodLink RX6 26 mX6_goOneMinute.1 ∈ zT := zT_of 767 (by decide +kernel) rfl
theorem zLk_X6_43 : Cond.methodLink RX6 43 mJ9_floorDiv_7cf53.1 ∈ zT := zT_of 771 (by decide +kernel) rfl
theorem zLk_X6_30 : Cond.methodLink RX6 30 mX6_greatest.1 ∈ zT := zT_of 774 (by decide +kernel) rfl
theorem zLk_X6_49 : Cond.methodLink RX6 49 mJ9_max_7cf53.1 ∈ zT := zT_of 777 (by decide +kernel) rfl
theorem zLk_X6_34 : Cond.methodLink RX6 34 mX6_least.1 ∈ zT := zT_of 778 (by decide +kernel) rfl
theorem zLk_X6_52 : Cond.methodLink RX6 52 mJ9_min_7cf53.1 ∈ zT := zT_of 781 (by decide +kernel) rfl
theorem zLk_L_114 : Cond.methodLink RL 114 mX8_still.1 ∈ zT := zT_of 782 (by decide +kernel) rfl
theorem zLk_X8_206 : Cond.methodLink RX8 206 mX6_minutesTillStill.1 ∈ zT := zT_of 786 (by decide +kernel) rfl
theorem zLk_X6_37 : Cond.methodLink RX6 37 arraycopyName ∈ zT := zT_of 790 (by decide +kernel) rfl
theorem zLk_L_118 : Cond.methodLink RL 118 mX8_warmth.1 ∈ zT := zT_of 791 (by decide +kernel) rfl
theorem zLk_X8_209 : Cond.methodLink RX8 209 mX6_warmthOf.1 ∈ zT := zT_of 795 (by decide +kernel) rfl
theorem zLk_L_122 : Cond.methodLink RL 122 mX8_grit.1 ∈ zT := zT_of 796 (by decide +kernel) rfl
theorem zLk_X8_212 : Cond.methodLink RX8 212 mX2_howMany.1 ∈ zT := zT_of 800 (by decide +kernel) rfl
theorem zLk_X8_213 : Cond.methodLink RX8 213 mX2_come.1 ∈ zT := zT_of 804 (by decide +kernel) rfl
theorem zLk_L_126 : Cond.methodLink RL 126 mX8_slack.1 ∈ zT := zT_of 808 (by decide +kernel) rfl
theorem zLk_X8_216 : Cond.methodLink RX8 216 mX2_tellSlack.1 ∈ zT := zT_of 812 (by decide +kernel) rfl
theorem zLk_L_130 : Cond.methodLink RL 130 mX8_wets.1 ∈ zT := zT_of 816 (by decide +kernel) rfl
theorem zLk_X8_219 : Cond.methodLink RX8 219 mX2_fewestFor.1 ∈ zT := zT_of 820 (by decide +kernel) rfl
theorem zLk_X2_34 : Cond.methodLink RX2 34 mX2_settle.1 ∈ zT := zT_of 824 (by decide +kernel) rfl
theorem zLk_X2_62 : Cond.methodLink RX2 62 mJ7_fill_53178.1 ∈ zT := zT_of 828 (by decide +kernel) rfl
theorem zLk_X2_68 : Cond.methodLink RX2 68 mX2_bring.1 ∈ zT := zT_of 829 (by decide +kernel) rfl
theorem zLk_X2_72 : Cond.methodLink RX2 72 mX2_bringFrom.1 ∈ zT := zT_of 833 (by decide +kernel) rfl
theorem zLk_X2_49 : Cond.methodLink RX2 49 mX2_clears.1 ∈ zT := zT_of 837 (by decide +kernel) rfl
theorem zLk_X2_59 : Cond.methodLink RX2 59 mJ9_min_7cf53.1 ∈ zT := zT_of 841 (by decide +kernel) rfl
theorem zLk_X2_37 : Cond.methodLink RX2 37 mX2_fewestWithin.1 ∈ zT := zT_of 842 (by decide +kernel) rfl
theorem zLk_X2_53 : Cond.methodLink RX2 53 mJ9_max_7cf53.1 ∈ zT := zT_of 846 (by decide +kernel) rfl
theorem zLk_X8_222 : Cond.methodLink RX8 222 mX2_wetsOf.1 ∈ zT := zT_of 847 (by decide +kernel) rfl
theorem zLk_X2_41 : Cond.methodLink RX2 41 mX2_fewestFor.1 ∈ zT := zT_of 851 (by decide +kernel) rfl
theorem zLk_X2_45 : Cond.methodLink RX2 45 mX2_mostThatServe.1 ∈ zT := zT_of 852 (by decide +kernel) rfl
theorem zLk_L_134 : Cond.methodLink RL 134 mX8_count.1 ∈ zT := zT_of 856 (by decide +kernel) rfl
theorem zLk_X8_225 : Cond.methodLink RX8 225 mX3_howManyTold.1 ∈ zT := zT_of 860 (by decide +kernel) rfl
theorem zLk_X8_228 : Cond.methodLink RX8 228 mX0_minutesTogether.1 ∈ zT := zT_of 861 (by decide +kernel) rfl
theorem zLk_L_12 : Cond.methodLink RL 12 mX9_init.1 ∈ zT := zT_of 867 (by decide +kernel) rfl
theorem zLk_X9_1 : Cond.methodLink RX9 1 objectInit ∈ zT := zT_of 870 (by decide +kernel) rfl
theorem zLk_X9_106 : Cond.methodLink RX9 106 mX9_begins.1 ∈ zT := zT_of 872 (by decide +kernel) rfl
theorem zLk_L_17 : Cond.methodLink RL 17 mX9_disc.1 ∈ zT := zT_of 989 (by decide +kernel) rfl
theorem zLk_X9_116 : Cond.methodLink RX9 116 mX9_in.1 ∈ zT := zT_of 993 (by decide +kernel) rfl
theorem zLk_L_22 : Cond.methodLink RL 22 mX9_aim.1 ∈ zT := zT_of 996 (by decide +kernel) rfl
theorem zLk_L_27 : Cond.methodLink RL 27 mX9_depth.1 ∈ zT := zT_of 1000 (by decide +kernel) rfl
theorem zLk_X9_126 : Cond.methodLink RX9 126 mX9_common.1 ∈ zT := zT_of 1007 (by decide +kernel) rfl
theorem zLk_L_32 : Cond.methodLink RL 32 mX9_height.1 ∈ zT := zT_of 1010 (by decide +kernel) rfl
theorem zLk_X9_130 : Cond.methodLink RX9 130 mX9_isZone.1 ∈ zT := zT_of 1014 (by decide +kernel) rfl
theorem zLk_L_36 : Cond.methodLink RL 36 mX9_at.1 ∈ zT := zT_of 1021 (by decide +kernel) rfl
theorem zLk_L_40 : Cond.methodLink RL 40 mX9_read.1 ∈ zT := zT_of 1025 (by decide +kernel) rfl
theorem zLk_L_44 : Cond.methodLink RL 44 mX9_lie.1 ∈ zT := zT_of 1029 (by decide +kernel) rfl
theorem zLk_L_48 : Cond.methodLink RL 48 mX9_joined.1 ∈ zT := zT_of 1033 (by decide +kernel) rfl
theorem zLk_X9_158 : Cond.methodLink RX9 158 mX9_joins.1 ∈ zT := zT_of 1037 (by decide +kernel) rfl
theorem zLk_X9_155 : Cond.methodLink RX9 155 mX9_dropped.1 ∈ zT := zT_of 1041 (by decide +kernel) rfl
theorem zLk_X9_137 : Cond.methodLink RX9 137 mX9_isRead.1 ∈ zT := zT_of 1045 (by decide +kernel) rfl
theorem zLk_X9_141 : Cond.methodLink RX9 141 mX9_shifted.1 ∈ zT := zT_of 1049 (by decide +kernel) rfl
theorem zLk_X9_152 : Cond.methodLink RX9 152 mX9_holds.1 ∈ zT := zT_of 1053 (by decide +kernel) rfl
theorem zLk_X9_145 : Cond.methodLink RX9 145 mX9_size.1 ∈ zT := zT_of 1057 (by decide +kernel) rfl
theorem zLk_L_52 : Cond.methodLink RL 52 mX9_step.1 ∈ zT := zT_of 1060 (by decide +kernel) rfl
theorem zLk_L_56 : Cond.methodLink RL 56 mX9_profile.1 ∈ zT := zT_of 1064 (by decide +kernel) rfl
theorem zLk_X9_164 : Cond.methodLink RX9 164 mX9_profileOf.1 ∈ zT := zT_of 1069 (by decide +kernel) rfl
theorem zLk_L_60 : Cond.methodLink RL 60 mX9_wire.1 ∈ zT := zT_of 1074 (by decide +kernel) rfl
theorem zLk_L_64 : Cond.methodLink RL 64 mX9_wires.1 ∈ zT := zT_of 1078 (by decide +kernel) rfl
theorem zLk_X9_167 : Cond.methodLink RX9 167 mX9_offOf.1 ∈ zT := zT_of 1082 (by decide +kernel) rfl
theorem zLk_L_68 : Cond.methodLink RL 68 mX9_pull.1 ∈ zT := zT_of 1086 (by decide +kernel) rfl
theorem zLk_L_72 : Cond.methodLink RL 72 mX9_rest.1 ∈ zT := zT_of 1090 (by decide +kernel) rfl
theorem zLk_L_76 : Cond.methodLink RL 76 mX9_stroke.1 ∈ zT := zT_of 1094 (by decide +kernel) rfl
theorem zLk_X9_170 : Cond.methodLink RX9 170 mX9_pullOf.1 ∈ zT := zT_of 1098 (by decide +kernel) rfl
theorem zLk_X9_175 : Cond.methodLink RX9 175 mX9_lays.1 ∈ zT := zT_of 1104 (by decide +kernel) rfl
theorem zLk_L_81 : Cond.methodLink RL 81 mX9_undo.1 ∈ zT := zT_of 1108 (by decide +kernel) rfl
theorem zLk_L_85 : Cond.methodLink RL 85 mX9_replay.1 ∈ zT := zT_of 1112 (by decide +kernel) rfl
theorem zLk_L_89 : Cond.methodLink RL 89 mX9_plan.1 ∈ zT := zT_of 1116 (by decide +kernel) rfl
theorem zLk_X9_195 : Cond.methodLink RX9 195 mX9_plans.1 ∈ zT := zT_of 1120 (by decide +kernel) rfl
theorem zLk_X9_192 : Cond.methodLink RX9 192 mX9_costs.1 ∈ zT := zT_of 1124 (by decide +kernel) rfl
theorem zLk_X9_182 : Cond.methodLink RX9 182 mX9_most.1 ∈ zT := zT_of 1128 (by decide +kernel) rfl
theorem zLk_X9_185 : Cond.methodLink RX9 185 mX9_isRight.1 ∈ zT := zT_of 1132 (by decide +kernel) rfl
theorem zLk_X9_179 : Cond.methodLink RX9 179 mX9_back.1 ∈ zT := zT_of 1136 (by decide +kernel) rfl
theorem zLk_X9_189 : Cond.methodLink RX9 189 mX9_next.1 ∈ zT := zT_of 1139 (by decide +kernel) rfl
theorem zLk_L_93 : Cond.methodLink RL 93 mX9_right.1 ∈ zT := zT_of 1142 (by decide +kernel) rfl
theorem zLk_L_97 : Cond.methodLink RL 97 mX9_work.1 ∈ zT := zT_of 1146 (by decide +kernel) rfl
theorem zLk_L_101 : Cond.methodLink RL 101 mX9_bend.1 ∈ zT := zT_of 1150 (by decide +kernel) rfl
theorem zLk_L_105 : Cond.methodLink RL 105 mX9_bear.1 ∈ zT := zT_of 1154 (by decide +kernel) rfl
theorem zLk_X9_201 : Cond.methodLink RX9 201 mX9_spreads.1 ∈ zT := zT_of 1158 (by decide +kernel) rfl
theorem zLk_L_109 : Cond.methodLink RL 109 mX9_warm.1 ∈ zT := zT_of 1162 (by decide +kernel) rfl
theorem zLk_L_113 : Cond.methodLink RL 113 mX9_cool.1 ∈ zT := zT_of 1166 (by decide +kernel) rfl
theorem zLk_X9_207 : Cond.methodLink RX9 207 mX9_passes.1 ∈ zT := zT_of 1170 (by decide +kernel) rfl
theorem zLk_X9_204 : Cond.methodLink RX9 204 mX9_down.1 ∈ zT := zT_of 1174 (by decide +kernel) rfl
theorem zLk_X9_210 : Cond.methodLink RX9 210 mX9_apart.1 ∈ zT := zT_of 1177 (by decide +kernel) rfl
theorem zLk_L_117 : Cond.methodLink RL 117 mX9_still.1 ∈ zT := zT_of 1181 (by decide +kernel) rfl
theorem zLk_L_121 : Cond.methodLink RL 121 mX9_warmth.1 ∈ zT := zT_of 1185 (by decide +kernel) rfl
theorem zLk_L_125 : Cond.methodLink RL 125 mX9_grit.1 ∈ zT := zT_of 1189 (by decide +kernel) rfl
theorem zLk_L_129 : Cond.methodLink RL 129 mX9_slack.1 ∈ zT := zT_of 1193 (by decide +kernel) rfl
theorem zLk_L_133 : Cond.methodLink RL 133 mX9_wets.1 ∈ zT := zT_of 1197 (by decide +kernel) rfl
theorem zLk_X9_227 : Cond.methodLink RX9 227 mX9_wetsBy.1 ∈ zT := zT_of 1201 (by decide +kernel) rfl
theorem zLk_X9_223 : Cond.methodLink RX9 223 mX9_with.1 ∈ zT := zT_of 1205 (by decide +kernel) rfl
theorem zLk_X9_219 : Cond.methodLink RX9 219 mX9_cell.1 ∈ zT := zT_of 1209 (by decide +kernel) rfl
theorem zLk_L_137 : Cond.methodLink RL 137 mX9_count.1 ∈ zT := zT_of 1212 (by decide +kernel) rfl
theorem zOb_i : Cond.instanceMethod objectInit ∈ zT := zT_of 73 (by decide +kernel) rfl
theorem zOb_c : Cond.code objectInit ⟨#[0xb1]⟩ 1 none ∈ zT := zT_of 74 (by decide +kernel) rfl
theorem zAc_i : Cond.initialized "java/lang/System" ∈ zT := zT_of 64 (by decide +kernel) rfl
theorem zAc_s : Cond.static arraycopyName ∈ zT := zT_of 364 (by decide +kernel) rfl
theorem zAc_n : Cond.native arraycopyName ∈ zT := zT_of 365 (by decide +kernel) rfl
theorem zK_0 : zK 0 = (8, 0) := by decide +kernel
theorem zKo_0 : (zK 0).1 = 8 := by decide +kernel
theorem zK_1 : zK 1 = (1, 0) := by decide +kernel
theorem zKo_1 : (zK 1).1 = 1 := by decide +kernel
theorem zK_2 : zK 2 = (3, 0) := by decide +kernel
theorem zKo_2 : (zK 2).1 = 3 := by decide +kernel
theorem zK_3 : zK 3 = (12, 3) := by decide +kernel
theorem zKin_3 : ∀ i, i < 3 → zK (3 + 1 + i) = (10, 15) := by decide +kernel
theorem zKlt_3 : ∀ i, i < 3 → 3 + 1 + i < 154 := fun i h => by omega
theorem zK_4 : zK 4 = (10, 15) := by decide +kernel
theorem zK_5 : zK 5 = (10, 15) := by decide +kernel
theorem zK_6 : zK 6 = (10, 15) := by decide +kernel
theorem zK_7 : zK 7 = (10, 3) := by decide +kernel
theorem zK_8 : zK 8 = (10, 15) := by decide +kernel
theorem zK_9 : zK 9 = (10, 16) := by decide +kernel
theorem zK_10 : zK 10 = (10, 41) := by decide +kernel
theorem zK_11 : zK 11 = (10, 41) := by decide +kernel
theorem zK_12 : zK 12 = (10, 81) := by decide +kernel
theorem zK_13 : zK 13 = (7, 0) := by decide +kernel
theorem zKo_13 : (zK 13).1 = 7 := by decide +kernel
theorem zK_14 : zK 14 = (10, 12) := by decide +kernel
theorem zK_15 : zK 15 = (10, 12) := by decide +kernel
theorem zK_16 : zK 16 = (10, 12) := by decide +kernel
theorem zK_17 : zK 17 = (0, 0) := by decide +kernel
theorem zKo_17 : (zK 17).1 = 0 := by decide +kernel
theorem zK_18 : zK 18 = (10, 16) := by decide +kernel
theorem zK_19 : zK 19 = (10, 16) := by decide +kernel
theorem zK_20 : zK 20 = (12, 3) := by decide +kernel
theorem zKin_20 : ∀ i, i < 3 → zK (20 + 1 + i) = (10, 5) := by decide +kernel
theorem zKlt_20 : ∀ i, i < 3 → 20 + 1 + i < 154 := fun i h => by omega
theorem zK_21 : zK 21 = (10, 5) := by decide +kernel
theorem zK_22 : zK 22 = (10, 5) := by decide +kernel
theorem zK_23 : zK 23 = (10, 5) := by decide +kernel
theorem zK_24 : zK 24 = (10, 60) := by decide +kernel
theorem zK_25 : zK 25 = (10, 60) := by decide +kernel
theorem zK_26 : zK 26 = (10, 60) := by decide +kernel
theorem zK_27 : zK 27 = (12, 60) := by decide +kernel
theorem zKin_27 : ∀ i, i < 60 → zK (27 + 1 + i) = (10, 5) := by decide +kernel
theorem zKlt_27 : ∀ i, i < 60 → 27 + 1 + i < 154 := fun i h => by omega
theorem zK_28 : zK 28 = (10, 5) := by decide +kernel
theorem zK_29 : zK 29 = (10, 5) := by decide +kernel
theorem zK_30 : zK 30 = (10, 5) := by decide +kernel
theorem zK_31 : zK 31 = (10, 5) := by decide +kernel
theorem zK_32 : zK 32 = (10, 5) := by decide +kernel
theorem zK_33 : zK 33 = (10, 5) := by decide +kernel
theorem zK_34 : zK 34 = (10, 5) := by decide +kernel
theorem zK_35 : zK 35 = (10, 5) := by decide +kernel
theorem zK_36 : zK 36 = (10, 5) := by decide +kernel
theorem zK_37 : zK 37 = (10, 5) := by decide +kernel
theorem zK_38 : zK 38 = (10, 5) := by decide +kernel
theorem zK_39 : zK 39 = (10, 5) := by decide +kernel
theorem zK_40 : zK 40 = (10, 5) := by decide +kernel
theorem zK_41 : zK 41 = (10, 5) := by decide +kernel
theorem zK_42 : zK 42 = (10, 5) := by decide +kernel
theorem zK_43 : zK 43 = (10, 5) := by decide +kernel
theorem zK_44 : zK 44 = (10, 5) := by decide +kernel
theorem zK_45 : zK 45 = (10, 5) := by decide +kernel
theorem zK_46 : zK 46 = (10, 5) := by decide +kernel
theorem zK_47 : zK 47 = (10, 5) := by decide +kernel
theorem zK_48 : zK 48 = (10, 5) := by decide +kernel
theorem zK_49 : zK 49 = (10, 5) := by decide +kernel
theorem zK_50 : zK 50 = (10, 5) := by decide +kernel
theorem zK_51 : zK 51 = (10, 5) := by decide +kernel
theorem zK_52 : zK 52 = (10, 5) := by decide +kernel
theorem zK_53 : zK 53 = (10, 5) := by decide +kernel
theorem zK_54 : zK 54 = (10, 5) := by decide +kernel
theorem zK_55 : zK 55 = (10, 5) := by decide +kernel
theorem zK_56 : zK 56 = (10, 5) := by decide +kernel
theorem zK_57 : zK 57 = (10, 5) := by decide +kernel
theorem zK_58 : zK 58 = (10, 5) := by decide +kernel
theorem zK_59 : zK 59 = (10, 5) := by decide +kernel
theorem zK_60 : zK 60 = (10, 5) := by decide +kernel
theorem zK_61 : zK 61 = (10, 5) := by decide +kernel
theorem zK_62 : zK 62 = (10, 5) := by decide +kernel
theorem zK_63 : zK 63 = (10, 5) := by decide +kernel
theorem zK_64 : zK 64 = (10, 5) := by decide +kernel
theorem zK_65 : zK 65 = (10, 5) := by decide +kernel
theorem zK_66 : zK 66 = (10, 5) := by decide +kernel
theorem zK_67 : zK 67 = (10, 5) := by decide +kernel
theorem zK_68 : zK 68 = (10, 5) := by decide +kernel
theorem zK_69 : zK 69 = (10, 5) := by decide +kernel
theorem zK_70 : zK 70 = (10, 5) := by decide +kernel
theorem zK_71 : zK 71 = (10, 5) := by decide +kernel
theorem zK_72 : zK 72 = (10, 5) := by decide +kernel
theorem zK_73 : zK 73 = (10, 5) := by decide +kernel
theorem zK_74 : zK 74 = (10, 5) := by decide +kernel
theorem zK_75 : zK 75 = (10, 5) := by decide +kernel
theorem zK_76 : zK 76 = (10, 5) := by decide +kernel
theorem zK_77 : zK 77 = (10, 5) := by decide +kernel
theorem zK_78 : zK 78 = (10, 5) := by decide +kernel
theorem zK_79 : zK 79 = (10, 5) := by decide +kernel
theorem zK_80 : zK 80 = (10, 5) := by decide +kernel
theorem zK_81 : zK 81 = (10, 5) := by decide +kernel
theorem zK_82 : zK 82 = (10, 5) := by decide +kernel
theorem zK_83 : zK 83 = (10, 5) := by decide +kernel
theorem zK_84 : zK 84 = (10, 5) := by decide +kernel
theorem zK_85 : zK 85 = (10, 5) := by decide +kernel
theorem zK_86 : zK 86 = (10, 5) := by decide +kernel
theorem zK_87 : zK 87 = (10, 5) := by decide +kernel
theorem zK_88 : zK 88 = (4, 0) := by decide +kernel
theorem zKo_88 : (zK 88).1 = 4 := by decide +kernel
theorem zK_89 : zK 89 = (10, 23328) := by decide +kernel
theorem zK_90 : zK 90 = (12, 3) := by decide +kernel
theorem zKin_90 : ∀ i, i < 3 → zK (90 + 1 + i) = (10, 16) := by decide +kernel
theorem zKlt_90 : ∀ i, i < 3 → 90 + 1 + i < 154 := fun i h => by omega
theorem zK_91 : zK 91 = (10, 16) := by decide +kernel
theorem zK_92 : zK 92 = (10, 16) := by decide +kernel
theorem zK_93 : zK 93 = (10, 16) := by decide +kernel
theorem zK_94 : zK 94 = (10, 3) := by decide +kernel
theorem zK_95 : zK 95 = (10, 3) := by decide +kernel
theorem zK_96 : zK 96 = (10, 16) := by decide +kernel
theorem zK_97 : zK 97 = (10, 5) := by decide +kernel
theorem zK_98 : zK 98 = (5, 0) := by decide +kernel
theorem zKo_98 : (zK 98).1 = 5 := by decide +kernel
theorem zK_99 : zK 99 = (12, 7) := by decide +kernel
theorem zKin_99 : ∀ i, i < 7 → zK (99 + 1 + i) = (10, 16) := by decide +kernel
theorem zKlt_99 : ∀ i, i < 7 → 99 + 1 + i < 154 := fun i h => by omega
theorem zK_100 : zK 100 = (10, 16) := by decide +kernel
theorem zK_101 : zK 101 = (10, 16) := by decide +kernel
theorem zK_102 : zK 102 = (10, 16) := by decide +kernel
theorem zK_103 : zK 103 = (10, 16) := by decide +kernel
theorem zK_104 : zK 104 = (10, 16) := by decide +kernel
theorem zK_105 : zK 105 = (10, 16) := by decide +kernel
theorem zK_106 : zK 106 = (10, 16) := by decide +kernel
theorem zK_107 : zK 107 = (12, 4) := by decide +kernel
theorem zKin_107 : ∀ i, i < 4 → zK (107 + 1 + i) = (10, 16) := by decide +kernel
theorem zKlt_107 : ∀ i, i < 4 → 107 + 1 + i < 154 := fun i h => by omega
theorem zK_108 : zK 108 = (10, 16) := by decide +kernel
theorem zK_109 : zK 109 = (10, 16) := by decide +kernel
theorem zK_110 : zK 110 = (10, 16) := by decide +kernel
theorem zK_111 : zK 111 = (10, 16) := by decide +kernel
theorem zK_112 : zK 112 = (10, 6) := by decide +kernel
theorem zK_113 : zK 113 = (10, 6) := by decide +kernel
theorem zK_114 : zK 114 = (6, 0) := by decide +kernel
theorem zKo_114 : (zK 114).1 = 6 := by decide +kernel
theorem zK_115 : zK 115 = (10, 8) := by decide +kernel
theorem zK_116 : zK 116 = (10, 8) := by decide +kernel
theorem zK_117 : zK 117 = (2, 0) := by decide +kernel
theorem zKo_117 : (zK 117).1 = 2 := by decide +kernel
theorem zK_118 : zK 118 = (10, 6) := by decide +kernel
theorem zK_119 : zK 119 = (10, 6) := by decide +kernel
theorem zK_120 : zK 120 = (12, 7) := by decide +kernel
theorem zKin_120 : ∀ i, i < 7 → zK (120 + 1 + i) = (10, 2101) := by decide +kernel
theorem zKlt_120 : ∀ i, i < 7 → 120 + 1 + i < 154 := fun i h => by omega
theorem zK_121 : zK 121 = (10, 2101) := by decide +kernel
theorem zK_122 : zK 122 = (10, 2101) := by decide +kernel
theorem zK_123 : zK 123 = (10, 2101) := by decide +kernel
theorem zK_124 : zK 124 = (10, 2101) := by decide +kernel
theorem zK_125 : zK 125 = (10, 2101) := by decide +kernel
theorem zK_126 : zK 126 = (10, 2101) := by decide +kernel
theorem zK_127 : zK 127 = (10, 2101) := by decide +kernel
theorem zK_128 : zK 128 = (9, 0) := by decide +kernel
theorem zKo_128 : (zK 128).1 = 9 := by decide +kernel
theorem zK_129 : zK 129 = (10, 16) := by decide +kernel
theorem zK_130 : zK 130 = (10, 16) := by decide +kernel
theorem zK_131 : zK 131 = (10, 45) := by decide +kernel
theorem zK_132 : zK 132 = (10, 12) := by decide +kernel
theorem zK_133 : zK 133 = (10, 12) := by decide +kernel
theorem zK_134 : zK 134 = (10, 12) := by decide +kernel
theorem zK_135 : zK 135 = (10, 15) := by decide +kernel
theorem zK_136 : zK 136 = (10, 60) := by decide +kernel
theorem zK_137 : zK 137 = (10, 60) := by decide +kernel
theorem zK_138 : zK 138 = (10, 60) := by decide +kernel
theorem zK_139 : zK 139 = (10, 300) := by decide +kernel
theorem zK_140 : zK 140 = (10, 112) := by decide +kernel
theorem zK_141 : zK 141 = (10, 9) := by decide +kernel
theorem zK_142 : zK 142 = (10, 6) := by decide +kernel
theorem zK_143 : zK 143 = (10, 6) := by decide +kernel
theorem zK_144 : zK 144 = (10, 3) := by decide +kernel
theorem zK_145 : zK 145 = (10, 3) := by decide +kernel
theorem zK_146 : zK 146 = (10, 24624) := by decide +kernel
theorem zK_147 : zK 147 = (10, 16) := by decide +kernel
theorem zK_148 : zK 148 = (11, 2592) := by decide +kernel
theorem zK_149 : zK 149 = (10, 6) := by decide +kernel
theorem zK_150 : zK 150 = (10, 6) := by decide +kernel
theorem zK_151 : zK 151 = (10, 10) := by decide +kernel
theorem zK_152 : zK 152 = (10, 9) := by decide +kernel
theorem zK_153 : zK 153 = (10, 102949) := by decide +kernel
theorem zRf_0_0 : zRF 0 0 = some 1 := by decide +kernel
theorem zRf_0_1 : zRF 0 1 = some 2 := by decide +kernel
theorem zRf_0_2 : zRF 0 2 = some 13 := by decide +kernel
theorem zRf_0_3 : zRF 0 3 = some 17 := by decide +kernel
theorem zRf_0_4 : zRF 0 4 = some 88 := by decide +kernel
theorem zRf_0_5 : zRF 0 5 = some 98 := by decide +kernel
theorem zRf_0_6 : zRF 0 6 = some 114 := by decide +kernel
theorem zRf_0_7 : zRF 0 7 = some 117 := by decide +kernel
theorem zRf_2_0 : zRF 2 0 = some 3 := by decide +kernel
theorem zRf_2_1 : zRF 2 1 = some 7 := by decide +kernel
theorem zRf_2_2 : zRF 2 2 = some 8 := by decide +kernel
theorem zRf_2_3 : zRF 2 3 = some 9 := by decide +kernel
theorem zRf_2_4 : zRF 2 4 = some 10 := by decide +kernel
theorem zRf_2_5 : zRF 2 5 = some 11 := by decide +kernel
theorem zRf_2_6 : zRF 2 6 = some 12 := by decide +kernel
theorem zRf_13_0 : zRF 13 0 = some 2 := by decide +kernel
theorem zRf_13_1 : zRF 13 1 = some 14 := by decide +kernel
theorem zRf_13_2 : zRF 13 2 = some 15 := by decide +kernel
theorem zRf_13_3 : zRF 13 3 = some 16 := by decide +kernel
theorem zRf_17_0 : zRF 17 0 = some 18 := by decide +kernel
theorem zRf_17_1 : zRF 17 1 = some 19 := by decide +kernel
theorem zRf_17_2 : zRF 17 2 = some 20 := by decide +kernel
theorem zRf_17_3 : zRF 17 3 = some 24 := by decide +kernel
theorem zRf_17_4 : zRF 17 4 = some 25 := by decide +kernel
theorem zRf_17_5 : zRF 17 5 = some 26 := by decide +kernel
theorem zRf_17_6 : zRF 17 6 = some 27 := by decide +kernel
theorem zRf_88_0 : zRF 88 0 = some 17 := by decide +kernel
theorem zRf_88_1 : zRF 88 1 = some 89 := by decide +kernel
theorem zRf_88_2 : zRF 88 2 = some 90 := by decide +kernel
theorem zRf_88_3 : zRF 88 3 = some 94 := by decide +kernel
theorem zRf_88_4 : zRF 88 4 = some 95 := by decide +kernel
theorem zRf_88_5 : zRF 88 5 = some 96 := by decide +kernel
theorem zRf_88_6 : zRF 88 6 = some 97 := by decide +kernel
theorem zRf_98_0 : zRF 98 0 = some 99 := by decide +kernel
theorem zRf_98_1 : zRF 98 1 = some 107 := by decide +kernel
theorem zRf_98_2 : zRF 98 2 = some 112 := by decide +kernel
theorem zRf_98_3 : zRF 98 3 = some 113 := by decide +kernel
theorem zRf_114_0 : zRF 114 0 = some 115 := by decide +kernel
theorem zRf_114_1 : zRF 114 1 = some 116 := by decide +kernel
theorem zRf_117_0 : zRF 117 0 = some 118 := by decide +kernel
theorem zRf_117_1 : zRF 117 1 = some 119 := by decide +kernel
theorem zRf_117_2 : zRF 117 2 = some 120 := by decide +kernel
theorem zRf_128_1 : zRF 128 1 = some 129 := by decide +kernel
theorem zRf_128_2 : zRF 128 2 = some 130 := by decide +kernel
theorem zRf_128_6 : zRF 128 6 = some 131 := by decide +kernel
theorem zRf_128_9 : zRF 128 9 = some 132 := by decide +kernel
theorem zRf_128_10 : zRF 128 10 = some 133 := by decide +kernel
theorem zRf_128_11 : zRF 128 11 = some 134 := by decide +kernel
theorem zRf_128_12 : zRF 128 12 = some 135 := by decide +kernel
theorem zRf_128_15 : zRF 128 15 = some 136 := by decide +kernel
theorem zRf_128_16 : zRF 128 16 = some 137 := by decide +kernel
theorem zRf_128_17 : zRF 128 17 = some 138 := by decide +kernel
theorem zRf_128_18 : zRF 128 18 = some 139 := by decide +kernel
theorem zRf_128_19 : zRF 128 19 = some 140 := by decide +kernel
theorem zRf_128_20 : zRF 128 20 = some 141 := by decide +kernel
theorem zRf_128_22 : zRF 128 22 = some 142 := by decide +kernel
theorem zRf_128_23 : zRF 128 23 = some 143 := by decide +kernel
theorem zRf_128_25 : zRF 128 25 = some 144 := by decide +kernel
theorem zRf_128_26 : zRF 128 26 = some 145 := by decide +kernel
theorem zRf_128_28 : zRF 128 28 = some 146 := by decide +kernel
theorem zRf_128_29 : zRF 128 29 = some 147 := by decide +kernel
theorem zRf_128_30 : zRF 128 30 = some 148 := by decide +kernel
theorem zRf_128_31 : zRF 128 31 = some 149 := by decide +kernel
theorem zRf_128_32 : zRF 128 32 = some 150 := by decide +kernel
theorem zRf_128_34 : zRF 128 34 = some 151 := by decide +kernel
theorem zRf_128_35 : zRF 128 35 = some 152 := by decide +kernel
theorem zRf_128_36 : zRF 128 36 = some 153 := by decide +kernel
