/-! ===== links: what the pools name, what the tables say (written by program) ===== -/
theorem tbl_list {ws : List Cond} (ps : List Nat) (hp : ws = ps.filterMap (fun i => lw_tbl[i]?)) (hg : ws.all fgood = true) : ∀ w ∈ ws, w ∈ TBL := by
  intro w hw
  have hg := List.all_eq_true.mp hg w hw
  rw [hp] at hw
  obtain ⟨i, -, hi⟩ := List.mem_filterMap.mp hw
  exact tbl_mem i hi hg
theorem inT0 : ∀ w ∈ u_ws RX0 TX0 2, w ∈ TBL := tbl_list [171, 173] (by decide +kernel) (by decide +kernel)
theorem inT1 : ∀ w ∈ u_ws RX1 TX1 15, w ∈ TBL := tbl_list [234, 236, 238, 240, 242, 244, 246, 248, 250, 252, 254, 256, 258, 260, 262] (by decide +kernel) (by decide +kernel)
theorem inT2 : ∀ w ∈ u_ws RX2 TX2 7, w ∈ TBL := tbl_list [192, 194, 196, 198, 200, 202, 204] (by decide +kernel) (by decide +kernel)
theorem inT3 : ∀ w ∈ u_ws RX3 TX3 12, w ∈ TBL := tbl_list [351, 353, 355, 357, 359, 361, 363, 365, 367, 369, 371, 373] (by decide +kernel) (by decide +kernel)
theorem inT4 : ∀ w ∈ u_ws RX4 TX4 5, w ∈ TBL := tbl_list [279, 281, 283, 285, 287] (by decide +kernel) (by decide +kernel)
theorem inT5 : ∀ w ∈ u_ws RX5 TX5 14, w ∈ TBL := tbl_list [130, 132, 134, 136, 138, 140, 142, 144, 146, 148, 150, 152, 154, 156] (by decide +kernel) (by decide +kernel)
theorem inT6 : ∀ w ∈ u_ws RX6 TX6 5, w ∈ TBL := tbl_list [302, 304, 306, 308, 310] (by decide +kernel) (by decide +kernel)
theorem inT7 : ∀ w ∈ u_ws RX7 TX7 11, w ∈ TBL := tbl_list [387, 389, 391, 393, 395, 397, 399, 401, 403, 405, 407] (by decide +kernel) (by decide +kernel)
theorem inT8 : ∀ w ∈ u_ws RX8 TX8 57, w ∈ TBL := tbl_list [1055, 1057, 1059, 1061, 1063, 1065, 1067, 1069, 1071, 1073, 1075, 1077, 1079, 1081, 1083, 1085, 1087, 1089, 1091, 1093, 1095, 1097, 1099, 1101, 1103, 1105, 1107, 1109, 1111, 1113, 1115, 1117, 1119, 1121, 1123, 1125, 1127, 1129, 1131, 1133, 1135, 1137, 1139, 1141, 1143, 1145, 1147, 1149, 1151, 1153, 1155, 1157, 1159, 1161, 1163, 1165, 1167] (by decide +kernel) (by decide +kernel)
theorem fl_X7_10 : FL RX7 10 7 0 3 true := ⟨RX7, TX7, 11, tyX7, rfl, inT7, by decide, tbl_mem 376 (by decide +kernel) rfl, rfl, rfl, tyX7_ok, nmX7, rfl, rfl, Or.inl ⟨_, rfl⟩⟩
theorem fl_X7_19 : FL RX7 19 7 1 3 true := ⟨RX7, TX7, 11, tyX7, rfl, inT7, by decide, tbl_mem 377 (by decide +kernel) rfl, rfl, rfl, tyX7_ok, nmX7, rfl, rfl, Or.inl ⟨_, rfl⟩⟩
theorem fl_X7_26 : FL RX7 26 7 2 3 true := ⟨RX7, TX7, 11, tyX7, rfl, inT7, by decide, tbl_mem 378 (by decide +kernel) rfl, rfl, rfl, tyX7_ok, nmX7, rfl, rfl, Or.inl ⟨_, rfl⟩⟩
theorem fl_X7_33 : FL RX7 33 7 3 3 true := ⟨RX7, TX7, 11, tyX7, rfl, inT7, by decide, tbl_mem 379 (by decide +kernel) rfl, rfl, rfl, tyX7_ok, nmX7, rfl, rfl, Or.inl ⟨_, rfl⟩⟩
theorem fl_X7_40 : FL RX7 40 7 4 3 true := ⟨RX7, TX7, 11, tyX7, rfl, inT7, by decide, tbl_mem 380 (by decide +kernel) rfl, rfl, rfl, tyX7_ok, nmX7, rfl, rfl, Or.inl ⟨_, rfl⟩⟩
theorem fl_X7_47 : FL RX7 47 7 5 3 true := ⟨RX7, TX7, 11, tyX7, rfl, inT7, by decide, tbl_mem 381 (by decide +kernel) rfl, rfl, rfl, tyX7_ok, nmX7, rfl, rfl, Or.inl ⟨_, rfl⟩⟩
theorem fl_X7_54 : FL RX7 54 7 6 3 false := ⟨RX7, TX7, 11, tyX7, rfl, inT7, by decide, tbl_mem 382 (by decide +kernel) rfl, rfl, rfl, tyX7_ok, nmX7, rfl, rfl, Or.inl ⟨_, rfl⟩⟩
theorem fl_X7_58 : FL RX7 58 7 7 3 false := ⟨RX7, TX7, 11, tyX7, rfl, inT7, by decide, tbl_mem 383 (by decide +kernel) rfl, rfl, rfl, tyX7_ok, nmX7, rfl, rfl, Or.inl ⟨_, rfl⟩⟩
theorem fl_X7_61 : FL RX7 61 7 8 0 false := ⟨RX7, TX7, 11, tyX7, rfl, inT7, by decide, tbl_mem 384 (by decide +kernel) rfl, rfl, rfl, tyX7_ok, nmX7, rfl, rfl, rfl⟩
theorem fl_X7_65 : FL RX7 65 7 9 1 false := ⟨RX7, TX7, 11, tyX7, rfl, inT7, by decide, tbl_mem 385 (by decide +kernel) rfl, rfl, rfl, tyX7_ok, nmX7, rfl, rfl, rfl⟩
theorem fl_X7_69 : FL RX7 69 7 10 1 false := ⟨RX7, TX7, 11, tyX7, rfl, inT7, by decide, tbl_mem 386 (by decide +kernel) rfl, rfl, rfl, tyX7_ok, nmX7, rfl, rfl, rfl⟩
theorem fl_X7_105 : FL RX7 105 0 0 3 true := ⟨RX0, TX0, 2, tyX0, rfl, inT0, by decide, tbl_mem 168 (by decide +kernel) rfl, rfl, rfl, tyX0_ok, nmX0, rfl, rfl, Or.inr ⟨_, rfl⟩⟩
theorem fl_X7_109 : FL RX7 109 0 1 3 true := ⟨RX0, TX0, 2, tyX0, rfl, inT0, by decide, tbl_mem 170 (by decide +kernel) rfl, rfl, rfl, tyX0_ok, nmX0, rfl, rfl, Or.inr ⟨_, rfl⟩⟩
theorem fl_X7_113 : FL RX7 113 6 0 3 true := ⟨RX6, TX6, 5, tyX6, rfl, inT6, by decide, tbl_mem 297 (by decide +kernel) rfl, rfl, rfl, tyX6_ok, nmX6, rfl, rfl, Or.inr ⟨_, rfl⟩⟩
theorem fl_X7_119 : FL RX7 119 5 8 3 true := ⟨RX5, TX5, 14, tyX5, rfl, inT5, by decide, tbl_mem 123 (by decide +kernel) rfl, rfl, rfl, tyX5_ok, nmX5, rfl, rfl, Or.inr ⟨_, rfl⟩⟩
theorem fl_X7_135 : FL RX7 135 5 0 3 true := ⟨RX5, TX5, 14, tyX5, rfl, inT5, by decide, tbl_mem 107 (by decide +kernel) rfl, rfl, rfl, tyX5_ok, nmX5, rfl, rfl, Or.inr ⟨_, rfl⟩⟩
theorem fl_X7_138 : FL RX7 138 5 1 3 true := ⟨RX5, TX5, 14, tyX5, rfl, inT5, by decide, tbl_mem 109 (by decide +kernel) rfl, rfl, rfl, tyX5_ok, nmX5, rfl, rfl, Or.inr ⟨_, rfl⟩⟩
theorem fl_X7_141 : FL RX7 141 5 2 3 true := ⟨RX5, TX5, 14, tyX5, rfl, inT5, by decide, tbl_mem 111 (by decide +kernel) rfl, rfl, rfl, tyX5_ok, nmX5, rfl, rfl, Or.inr ⟨_, rfl⟩⟩
theorem fl_X7_144 : FL RX7 144 5 3 3 true := ⟨RX5, TX5, 14, tyX5, rfl, inT5, by decide, tbl_mem 113 (by decide +kernel) rfl, rfl, rfl, tyX5_ok, nmX5, rfl, rfl, Or.inr ⟨_, rfl⟩⟩
theorem fl_X7_157 : FL RX7 157 5 13 0 false := ⟨RX5, TX5, 14, tyX5, rfl, inT5, by decide, tbl_mem 129 (by decide +kernel) rfl, rfl, rfl, tyX5_ok, nmX5, rfl, rfl, rfl⟩
theorem fl_X7_166 : FL RX7 166 3 11 0 false := ⟨RX3, TX3, 12, tyX3, rfl, inT3, by decide, tbl_mem 350 (by decide +kernel) rfl, rfl, rfl, tyX3_ok, nmX3, rfl, rfl, rfl⟩
theorem fl_X7_169 : FL RX7 169 2 1 0 false := ⟨RX2, TX2, 7, tyX2, rfl, inT2, by decide, tbl_mem 184 (by decide +kernel) rfl, rfl, rfl, tyX2_ok, nmX2, rfl, rfl, rfl⟩
theorem fl_X7_180 : FL RX7 180 2 2 0 false := ⟨RX2, TX2, 7, tyX2, rfl, inT2, by decide, tbl_mem 186 (by decide +kernel) rfl, rfl, rfl, tyX2_ok, nmX2, rfl, rfl, rfl⟩
theorem fl_X7_183 : FL RX7 183 2 3 0 false := ⟨RX2, TX2, 7, tyX2, rfl, inT2, by decide, tbl_mem 188 (by decide +kernel) rfl, rfl, rfl, tyX2_ok, nmX2, rfl, rfl, rfl⟩
theorem fl_X7_186 : FL RX7 186 3 0 3 true := ⟨RX3, TX3, 12, tyX3, rfl, inT3, by decide, tbl_mem 321 (by decide +kernel) rfl, rfl, rfl, tyX3_ok, nmX3, rfl, rfl, Or.inr ⟨_, rfl⟩⟩
theorem fl_X7_189 : FL RX7 189 3 1 3 true := ⟨RX3, TX3, 12, tyX3, rfl, inT3, by decide, tbl_mem 323 (by decide +kernel) rfl, rfl, rfl, tyX3_ok, nmX3, rfl, rfl, Or.inr ⟨_, rfl⟩⟩
theorem fl_X7_192 : FL RX7 192 3 2 3 true := ⟨RX3, TX3, 12, tyX3, rfl, inT3, by decide, tbl_mem 325 (by decide +kernel) rfl, rfl, rfl, tyX3_ok, nmX3, rfl, rfl, Or.inr ⟨_, rfl⟩⟩
theorem fl_X7_195 : FL RX7 195 3 3 3 true := ⟨RX3, TX3, 12, tyX3, rfl, inT3, by decide, tbl_mem 327 (by decide +kernel) rfl, rfl, rfl, tyX3_ok, nmX3, rfl, rfl, Or.inr ⟨_, rfl⟩⟩
theorem fl_X7_198 : FL RX7 198 3 5 0 false := ⟨RX3, TX3, 12, tyX3, rfl, inT3, by decide, tbl_mem 334 (by decide +kernel) rfl, rfl, rfl, tyX3_ok, nmX3, rfl, rfl, rfl⟩
theorem fl_X7_201 : FL RX7 201 3 6 0 false := ⟨RX3, TX3, 12, tyX3, rfl, inT3, by decide, tbl_mem 338 (by decide +kernel) rfl, rfl, rfl, tyX3_ok, nmX3, rfl, rfl, rfl⟩
theorem fl_X7_204 : FL RX7 204 3 4 3 true := ⟨RX3, TX3, 12, tyX3, rfl, inT3, by decide, tbl_mem 330 (by decide +kernel) rfl, rfl, rfl, tyX3_ok, nmX3, rfl, rfl, Or.inr ⟨_, rfl⟩⟩
theorem fl_X7_207 : FL RX7 207 3 7 0 false := ⟨RX3, TX3, 12, tyX3, rfl, inT3, by decide, tbl_mem 341 (by decide +kernel) rfl, rfl, rfl, tyX3_ok, nmX3, rfl, rfl, rfl⟩
theorem fl_X7_249 : FL RX7 249 4 2 0 false := ⟨RX4, TX4, 5, tyX4, rfl, inT4, by decide, tbl_mem 274 (by decide +kernel) rfl, rfl, rfl, tyX4_ok, nmX4, rfl, rfl, rfl⟩
theorem fl_X7_252 : FL RX7 252 4 3 0 false := ⟨RX4, TX4, 5, tyX4, rfl, inT4, by decide, tbl_mem 276 (by decide +kernel) rfl, rfl, rfl, tyX4_ok, nmX4, rfl, rfl, rfl⟩
theorem fl_X7_255 : FL RX7 255 4 4 0 false := ⟨RX4, TX4, 5, tyX4, rfl, inT4, by decide, tbl_mem 278 (by decide +kernel) rfl, rfl, rfl, tyX4_ok, nmX4, rfl, rfl, rfl⟩
theorem fl_X7_261 : FL RX7 261 1 14 3 true := ⟨RX1, TX1, 15, tyX1, rfl, inT1, by decide, tbl_mem 233 (by decide +kernel) rfl, rfl, rfl, tyX1_ok, nmX1, rfl, rfl, Or.inr ⟨_, rfl⟩⟩
theorem fl_X7_264 : FL RX7 264 1 13 3 true := ⟨RX1, TX1, 15, tyX1, rfl, inT1, by decide, tbl_mem 231 (by decide +kernel) rfl, rfl, rfl, tyX1_ok, nmX1, rfl, rfl, Or.inr ⟨_, rfl⟩⟩
theorem fl_X7_267 : FL RX7 267 1 12 3 true := ⟨RX1, TX1, 15, tyX1, rfl, inT1, by decide, tbl_mem 228 (by decide +kernel) rfl, rfl, rfl, tyX1_ok, nmX1, rfl, rfl, Or.inr ⟨_, rfl⟩⟩
theorem fl_X7_326 : FL RX7 326 3 8 3 true := ⟨RX3, TX3, 12, tyX3, rfl, inT3, by decide, tbl_mem 343 (by decide +kernel) rfl, rfl, rfl, tyX3_ok, nmX3, rfl, rfl, Or.inr ⟨_, rfl⟩⟩
theorem fl_X7_329 : FL RX7 329 3 9 3 true := ⟨RX3, TX3, 12, tyX3, rfl, inT3, by decide, tbl_mem 345 (by decide +kernel) rfl, rfl, rfl, tyX3_ok, nmX3, rfl, rfl, Or.inr ⟨_, rfl⟩⟩
theorem fl_X7_332 : FL RX7 332 3 10 3 true := ⟨RX3, TX3, 12, tyX3, rfl, inT3, by decide, tbl_mem 347 (by decide +kernel) rfl, rfl, rfl, tyX3_ok, nmX3, rfl, rfl, Or.inr ⟨_, rfl⟩⟩
theorem fl_X7_337 : FL RX7 337 5 4 3 true := ⟨RX5, TX5, 14, tyX5, rfl, inT5, by decide, tbl_mem 115 (by decide +kernel) rfl, rfl, rfl, tyX5_ok, nmX5, rfl, rfl, Or.inr ⟨_, rfl⟩⟩
theorem fl_X7_339 : FL RX7 339 5 6 3 true := ⟨RX5, TX5, 14, tyX5, rfl, inT5, by decide, tbl_mem 119 (by decide +kernel) rfl, rfl, rfl, tyX5_ok, nmX5, rfl, rfl, Or.inr ⟨_, rfl⟩⟩
theorem fl_X7_342 : FL RX7 342 5 7 3 true := ⟨RX5, TX5, 14, tyX5, rfl, inT5, by decide, tbl_mem 121 (by decide +kernel) rfl, rfl, rfl, tyX5_ok, nmX5, rfl, rfl, Or.inr ⟨_, rfl⟩⟩
theorem fl_X7_348 : FL RX7 348 5 5 3 true := ⟨RX5, TX5, 14, tyX5, rfl, inT5, by decide, tbl_mem 117 (by decide +kernel) rfl, rfl, rfl, tyX5_ok, nmX5, rfl, rfl, Or.inr ⟨_, rfl⟩⟩
theorem fl_X7_376 : FL RX7 376 1 11 3 true := ⟨RX1, TX1, 15, tyX1, rfl, inT1, by decide, tbl_mem 225 (by decide +kernel) rfl, rfl, rfl, tyX1_ok, nmX1, rfl, rfl, Or.inr ⟨_, rfl⟩⟩
theorem fl_X0_9 : FL RX0 9 0 0 3 true := ⟨RX0, TX0, 2, tyX0, rfl, inT0, by decide, tbl_mem 167 (by decide +kernel) rfl, rfl, rfl, tyX0_ok, nmX0, rfl, rfl, Or.inr ⟨_, rfl⟩⟩
theorem fl_X0_15 : FL RX0 15 0 1 3 true := ⟨RX0, TX0, 2, tyX0, rfl, inT0, by decide, tbl_mem 169 (by decide +kernel) rfl, rfl, rfl, tyX0_ok, nmX0, rfl, rfl, Or.inr ⟨_, rfl⟩⟩
theorem fl_X0_18 : FL RX0 18 3 5 0 false := ⟨RX3, TX3, 12, tyX3, rfl, inT3, by decide, tbl_mem 332 (by decide +kernel) rfl, rfl, rfl, tyX3_ok, nmX3, rfl, rfl, rfl⟩
theorem fl_X0_24 : FL RX0 24 3 6 0 false := ⟨RX3, TX3, 12, tyX3, rfl, inT3, by decide, tbl_mem 336 (by decide +kernel) rfl, rfl, rfl, tyX3_ok, nmX3, rfl, rfl, rfl⟩
theorem fl_X1_11 : FL RX1 11 1 0 3 true := ⟨RX1, TX1, 15, tyX1, rfl, inT1, by decide, tbl_mem 213 (by decide +kernel) rfl, rfl, rfl, tyX1_ok, nmX1, rfl, rfl, Or.inr ⟨_, rfl⟩⟩
theorem fl_X1_15 : FL RX1 15 1 1 3 true := ⟨RX1, TX1, 15, tyX1, rfl, inT1, by decide, tbl_mem 214 (by decide +kernel) rfl, rfl, rfl, tyX1_ok, nmX1, rfl, rfl, Or.inr ⟨_, rfl⟩⟩
theorem fl_X1_19 : FL RX1 19 1 2 3 true := ⟨RX1, TX1, 15, tyX1, rfl, inT1, by decide, tbl_mem 215 (by decide +kernel) rfl, rfl, rfl, tyX1_ok, nmX1, rfl, rfl, Or.inr ⟨_, rfl⟩⟩
theorem fl_X1_22 : FL RX1 22 1 3 3 true := ⟨RX1, TX1, 15, tyX1, rfl, inT1, by decide, tbl_mem 216 (by decide +kernel) rfl, rfl, rfl, tyX1_ok, nmX1, rfl, rfl, Or.inr ⟨_, rfl⟩⟩
theorem fl_X1_25 : FL RX1 25 1 4 3 true := ⟨RX1, TX1, 15, tyX1, rfl, inT1, by decide, tbl_mem 217 (by decide +kernel) rfl, rfl, rfl, tyX1_ok, nmX1, rfl, rfl, Or.inr ⟨_, rfl⟩⟩
theorem fl_X1_28 : FL RX1 28 1 5 3 true := ⟨RX1, TX1, 15, tyX1, rfl, inT1, by decide, tbl_mem 218 (by decide +kernel) rfl, rfl, rfl, tyX1_ok, nmX1, rfl, rfl, Or.inr ⟨_, rfl⟩⟩
theorem fl_X1_31 : FL RX1 31 1 6 3 true := ⟨RX1, TX1, 15, tyX1, rfl, inT1, by decide, tbl_mem 219 (by decide +kernel) rfl, rfl, rfl, tyX1_ok, nmX1, rfl, rfl, Or.inr ⟨_, rfl⟩⟩
theorem fl_X1_34 : FL RX1 34 1 7 0 false := ⟨RX1, TX1, 15, tyX1, rfl, inT1, by decide, tbl_mem 220 (by decide +kernel) rfl, rfl, rfl, tyX1_ok, nmX1, rfl, rfl, rfl⟩
theorem fl_X1_38 : FL RX1 38 1 8 0 false := ⟨RX1, TX1, 15, tyX1, rfl, inT1, by decide, tbl_mem 221 (by decide +kernel) rfl, rfl, rfl, tyX1_ok, nmX1, rfl, rfl, rfl⟩
theorem fl_X1_41 : FL RX1 41 1 9 3 true := ⟨RX1, TX1, 15, tyX1, rfl, inT1, by decide, tbl_mem 222 (by decide +kernel) rfl, rfl, rfl, tyX1_ok, nmX1, rfl, rfl, Or.inr ⟨_, rfl⟩⟩
theorem fl_X1_44 : FL RX1 44 1 10 3 true := ⟨RX1, TX1, 15, tyX1, rfl, inT1, by decide, tbl_mem 223 (by decide +kernel) rfl, rfl, rfl, tyX1_ok, nmX1, rfl, rfl, Or.inr ⟨_, rfl⟩⟩
theorem fl_X1_47 : FL RX1 47 1 11 3 true := ⟨RX1, TX1, 15, tyX1, rfl, inT1, by decide, tbl_mem 224 (by decide +kernel) rfl, rfl, rfl, tyX1_ok, nmX1, rfl, rfl, Or.inr ⟨_, rfl⟩⟩
theorem fl_X1_50 : FL RX1 50 1 12 3 true := ⟨RX1, TX1, 15, tyX1, rfl, inT1, by decide, tbl_mem 226 (by decide +kernel) rfl, rfl, rfl, tyX1_ok, nmX1, rfl, rfl, Or.inr ⟨_, rfl⟩⟩
theorem fl_X1_53 : FL RX1 53 1 13 3 true := ⟨RX1, TX1, 15, tyX1, rfl, inT1, by decide, tbl_mem 229 (by decide +kernel) rfl, rfl, rfl, tyX1_ok, nmX1, rfl, rfl, Or.inr ⟨_, rfl⟩⟩
theorem fl_X1_56 : FL RX1 56 1 14 3 true := ⟨RX1, TX1, 15, tyX1, rfl, inT1, by decide, tbl_mem 232 (by decide +kernel) rfl, rfl, rfl, tyX1_ok, nmX1, rfl, rfl, Or.inr ⟨_, rfl⟩⟩
theorem fl_X2_11 : FL RX2 11 2 0 3 true := ⟨RX2, TX2, 7, tyX2, rfl, inT2, by decide, tbl_mem 182 (by decide +kernel) rfl, rfl, rfl, tyX2_ok, nmX2, rfl, rfl, Or.inr ⟨_, rfl⟩⟩
theorem fl_X2_15 : FL RX2 15 2 1 0 false := ⟨RX2, TX2, 7, tyX2, rfl, inT2, by decide, tbl_mem 183 (by decide +kernel) rfl, rfl, rfl, tyX2_ok, nmX2, rfl, rfl, rfl⟩
theorem fl_X2_19 : FL RX2 19 2 2 0 false := ⟨RX2, TX2, 7, tyX2, rfl, inT2, by decide, tbl_mem 185 (by decide +kernel) rfl, rfl, rfl, tyX2_ok, nmX2, rfl, rfl, rfl⟩
theorem fl_X2_22 : FL RX2 22 2 3 0 false := ⟨RX2, TX2, 7, tyX2, rfl, inT2, by decide, tbl_mem 187 (by decide +kernel) rfl, rfl, rfl, tyX2_ok, nmX2, rfl, rfl, rfl⟩
theorem fl_X2_25 : FL RX2 25 2 4 0 false := ⟨RX2, TX2, 7, tyX2, rfl, inT2, by decide, tbl_mem 189 (by decide +kernel) rfl, rfl, rfl, tyX2_ok, nmX2, rfl, rfl, rfl⟩
theorem fl_X2_28 : FL RX2 28 2 5 3 true := ⟨RX2, TX2, 7, tyX2, rfl, inT2, by decide, tbl_mem 190 (by decide +kernel) rfl, rfl, rfl, tyX2_ok, nmX2, rfl, rfl, Or.inr ⟨_, rfl⟩⟩
theorem fl_X2_31 : FL RX2 31 2 6 0 false := ⟨RX2, TX2, 7, tyX2, rfl, inT2, by decide, tbl_mem 191 (by decide +kernel) rfl, rfl, rfl, tyX2_ok, nmX2, rfl, rfl, rfl⟩
theorem fl_X2_68 : FL RX2 68 3 11 0 false := ⟨RX3, TX3, 12, tyX3, rfl, inT3, by decide, tbl_mem 349 (by decide +kernel) rfl, rfl, rfl, tyX3_ok, nmX3, rfl, rfl, rfl⟩
theorem fl_X2_119 : FL RX2 119 3 5 0 false := ⟨RX3, TX3, 12, tyX3, rfl, inT3, by decide, tbl_mem 333 (by decide +kernel) rfl, rfl, rfl, tyX3_ok, nmX3, rfl, rfl, rfl⟩
theorem fl_X2_122 : FL RX2 122 3 6 0 false := ⟨RX3, TX3, 12, tyX3, rfl, inT3, by decide, tbl_mem 337 (by decide +kernel) rfl, rfl, rfl, tyX3_ok, nmX3, rfl, rfl, rfl⟩
theorem fl_X2_127 : FL RX2 127 3 4 3 true := ⟨RX3, TX3, 12, tyX3, rfl, inT3, by decide, tbl_mem 329 (by decide +kernel) rfl, rfl, rfl, tyX3_ok, nmX3, rfl, rfl, Or.inr ⟨_, rfl⟩⟩
theorem fl_X2_129 : FL RX2 129 3 7 0 false := ⟨RX3, TX3, 12, tyX3, rfl, inT3, by decide, tbl_mem 340 (by decide +kernel) rfl, rfl, rfl, tyX3_ok, nmX3, rfl, rfl, rfl⟩
theorem fl_X3_9 : FL RX3 9 3 0 3 true := ⟨RX3, TX3, 12, tyX3, rfl, inT3, by decide, tbl_mem 320 (by decide +kernel) rfl, rfl, rfl, tyX3_ok, nmX3, rfl, rfl, Or.inr ⟨_, rfl⟩⟩
theorem fl_X3_15 : FL RX3 15 3 1 3 true := ⟨RX3, TX3, 12, tyX3, rfl, inT3, by decide, tbl_mem 322 (by decide +kernel) rfl, rfl, rfl, tyX3_ok, nmX3, rfl, rfl, Or.inr ⟨_, rfl⟩⟩
theorem fl_X3_18 : FL RX3 18 3 2 3 true := ⟨RX3, TX3, 12, tyX3, rfl, inT3, by decide, tbl_mem 324 (by decide +kernel) rfl, rfl, rfl, tyX3_ok, nmX3, rfl, rfl, Or.inr ⟨_, rfl⟩⟩
theorem fl_X3_21 : FL RX3 21 3 3 3 true := ⟨RX3, TX3, 12, tyX3, rfl, inT3, by decide, tbl_mem 326 (by decide +kernel) rfl, rfl, rfl, tyX3_ok, nmX3, rfl, rfl, Or.inr ⟨_, rfl⟩⟩
theorem fl_X3_24 : FL RX3 24 3 4 3 true := ⟨RX3, TX3, 12, tyX3, rfl, inT3, by decide, tbl_mem 328 (by decide +kernel) rfl, rfl, rfl, tyX3_ok, nmX3, rfl, rfl, Or.inr ⟨_, rfl⟩⟩
theorem fl_X3_27 : FL RX3 27 3 5 0 false := ⟨RX3, TX3, 12, tyX3, rfl, inT3, by decide, tbl_mem 331 (by decide +kernel) rfl, rfl, rfl, tyX3_ok, nmX3, rfl, rfl, rfl⟩
theorem fl_X3_31 : FL RX3 31 3 6 0 false := ⟨RX3, TX3, 12, tyX3, rfl, inT3, by decide, tbl_mem 335 (by decide +kernel) rfl, rfl, rfl, tyX3_ok, nmX3, rfl, rfl, rfl⟩
theorem fl_X3_34 : FL RX3 34 3 7 0 false := ⟨RX3, TX3, 12, tyX3, rfl, inT3, by decide, tbl_mem 339 (by decide +kernel) rfl, rfl, rfl, tyX3_ok, nmX3, rfl, rfl, rfl⟩
theorem fl_X3_37 : FL RX3 37 3 8 3 true := ⟨RX3, TX3, 12, tyX3, rfl, inT3, by decide, tbl_mem 342 (by decide +kernel) rfl, rfl, rfl, tyX3_ok, nmX3, rfl, rfl, Or.inr ⟨_, rfl⟩⟩
theorem fl_X3_40 : FL RX3 40 3 9 3 true := ⟨RX3, TX3, 12, tyX3, rfl, inT3, by decide, tbl_mem 344 (by decide +kernel) rfl, rfl, rfl, tyX3_ok, nmX3, rfl, rfl, Or.inr ⟨_, rfl⟩⟩
theorem fl_X3_43 : FL RX3 43 3 10 3 true := ⟨RX3, TX3, 12, tyX3, rfl, inT3, by decide, tbl_mem 346 (by decide +kernel) rfl, rfl, rfl, tyX3_ok, nmX3, rfl, rfl, Or.inr ⟨_, rfl⟩⟩
theorem fl_X3_47 : FL RX3 47 3 11 0 false := ⟨RX3, TX3, 12, tyX3, rfl, inT3, by decide, tbl_mem 348 (by decide +kernel) rfl, rfl, rfl, tyX3_ok, nmX3, rfl, rfl, rfl⟩
theorem fl_X4_11 : FL RX4 11 4 0 3 true := ⟨RX4, TX4, 5, tyX4, rfl, inT4, by decide, tbl_mem 271 (by decide +kernel) rfl, rfl, rfl, tyX4_ok, nmX4, rfl, rfl, Or.inr ⟨_, rfl⟩⟩
theorem fl_X4_17 : FL RX4 17 4 1 3 true := ⟨RX4, TX4, 5, tyX4, rfl, inT4, by decide, tbl_mem 272 (by decide +kernel) rfl, rfl, rfl, tyX4_ok, nmX4, rfl, rfl, Or.inr ⟨_, rfl⟩⟩
theorem fl_X4_20 : FL RX4 20 4 2 0 false := ⟨RX4, TX4, 5, tyX4, rfl, inT4, by decide, tbl_mem 273 (by decide +kernel) rfl, rfl, rfl, tyX4_ok, nmX4, rfl, rfl, rfl⟩
theorem fl_X4_24 : FL RX4 24 4 3 0 false := ⟨RX4, TX4, 5, tyX4, rfl, inT4, by decide, tbl_mem 275 (by decide +kernel) rfl, rfl, rfl, tyX4_ok, nmX4, rfl, rfl, rfl⟩
theorem fl_X4_27 : FL RX4 27 4 4 0 false := ⟨RX4, TX4, 5, tyX4, rfl, inT4, by decide, tbl_mem 277 (by decide +kernel) rfl, rfl, rfl, tyX4_ok, nmX4, rfl, rfl, rfl⟩
theorem fl_X5_9 : FL RX5 9 5 0 3 true := ⟨RX5, TX5, 14, tyX5, rfl, inT5, by decide, tbl_mem 106 (by decide +kernel) rfl, rfl, rfl, tyX5_ok, nmX5, rfl, rfl, Or.inr ⟨_, rfl⟩⟩
theorem fl_X5_15 : FL RX5 15 5 1 3 true := ⟨RX5, TX5, 14, tyX5, rfl, inT5, by decide, tbl_mem 108 (by decide +kernel) rfl, rfl, rfl, tyX5_ok, nmX5, rfl, rfl, Or.inr ⟨_, rfl⟩⟩
theorem fl_X5_18 : FL RX5 18 5 2 3 true := ⟨RX5, TX5, 14, tyX5, rfl, inT5, by decide, tbl_mem 110 (by decide +kernel) rfl, rfl, rfl, tyX5_ok, nmX5, rfl, rfl, Or.inr ⟨_, rfl⟩⟩
theorem fl_X5_21 : FL RX5 21 5 3 3 true := ⟨RX5, TX5, 14, tyX5, rfl, inT5, by decide, tbl_mem 112 (by decide +kernel) rfl, rfl, rfl, tyX5_ok, nmX5, rfl, rfl, Or.inr ⟨_, rfl⟩⟩
theorem fl_X5_24 : FL RX5 24 5 4 3 true := ⟨RX5, TX5, 14, tyX5, rfl, inT5, by decide, tbl_mem 114 (by decide +kernel) rfl, rfl, rfl, tyX5_ok, nmX5, rfl, rfl, Or.inr ⟨_, rfl⟩⟩
theorem fl_X5_27 : FL RX5 27 5 5 3 true := ⟨RX5, TX5, 14, tyX5, rfl, inT5, by decide, tbl_mem 116 (by decide +kernel) rfl, rfl, rfl, tyX5_ok, nmX5, rfl, rfl, Or.inr ⟨_, rfl⟩⟩
theorem fl_X5_30 : FL RX5 30 5 6 3 true := ⟨RX5, TX5, 14, tyX5, rfl, inT5, by decide, tbl_mem 118 (by decide +kernel) rfl, rfl, rfl, tyX5_ok, nmX5, rfl, rfl, Or.inr ⟨_, rfl⟩⟩
theorem fl_X5_33 : FL RX5 33 5 7 3 true := ⟨RX5, TX5, 14, tyX5, rfl, inT5, by decide, tbl_mem 120 (by decide +kernel) rfl, rfl, rfl, tyX5_ok, nmX5, rfl, rfl, Or.inr ⟨_, rfl⟩⟩
theorem fl_X5_36 : FL RX5 36 5 8 3 true := ⟨RX5, TX5, 14, tyX5, rfl, inT5, by decide, tbl_mem 122 (by decide +kernel) rfl, rfl, rfl, tyX5_ok, nmX5, rfl, rfl, Or.inr ⟨_, rfl⟩⟩
theorem fl_X5_40 : FL RX5 40 5 9 3 true := ⟨RX5, TX5, 14, tyX5, rfl, inT5, by decide, tbl_mem 124 (by decide +kernel) rfl, rfl, rfl, tyX5_ok, nmX5, rfl, rfl, Or.inr ⟨_, rfl⟩⟩
theorem fl_X5_43 : FL RX5 43 5 10 3 true := ⟨RX5, TX5, 14, tyX5, rfl, inT5, by decide, tbl_mem 125 (by decide +kernel) rfl, rfl, rfl, tyX5_ok, nmX5, rfl, rfl, Or.inr ⟨_, rfl⟩⟩
theorem fl_X5_46 : FL RX5 46 5 11 0 false := ⟨RX5, TX5, 14, tyX5, rfl, inT5, by decide, tbl_mem 126 (by decide +kernel) rfl, rfl, rfl, tyX5_ok, nmX5, rfl, rfl, rfl⟩
theorem fl_X5_50 : FL RX5 50 5 12 3 true := ⟨RX5, TX5, 14, tyX5, rfl, inT5, by decide, tbl_mem 127 (by decide +kernel) rfl, rfl, rfl, tyX5_ok, nmX5, rfl, rfl, Or.inr ⟨_, rfl⟩⟩
theorem fl_X5_53 : FL RX5 53 5 13 0 false := ⟨RX5, TX5, 14, tyX5, rfl, inT5, by decide, tbl_mem 128 (by decide +kernel) rfl, rfl, rfl, tyX5_ok, nmX5, rfl, rfl, rfl⟩
theorem fl_X6_9 : FL RX6 9 6 0 3 true := ⟨RX6, TX6, 5, tyX6, rfl, inT6, by decide, tbl_mem 296 (by decide +kernel) rfl, rfl, rfl, tyX6_ok, nmX6, rfl, rfl, Or.inr ⟨_, rfl⟩⟩
theorem fl_X6_15 : FL RX6 15 6 1 3 true := ⟨RX6, TX6, 5, tyX6, rfl, inT6, by decide, tbl_mem 298 (by decide +kernel) rfl, rfl, rfl, tyX6_ok, nmX6, rfl, rfl, Or.inr ⟨_, rfl⟩⟩
theorem fl_X6_19 : FL RX6 19 6 2 3 true := ⟨RX6, TX6, 5, tyX6, rfl, inT6, by decide, tbl_mem 299 (by decide +kernel) rfl, rfl, rfl, tyX6_ok, nmX6, rfl, rfl, Or.inr ⟨_, rfl⟩⟩
theorem fl_X6_23 : FL RX6 23 6 3 3 true := ⟨RX6, TX6, 5, tyX6, rfl, inT6, by decide, tbl_mem 300 (by decide +kernel) rfl, rfl, rfl, tyX6_ok, nmX6, rfl, rfl, Or.inr ⟨_, rfl⟩⟩
theorem fl_X6_26 : FL RX6 26 6 4 0 false := ⟨RX6, TX6, 5, tyX6, rfl, inT6, by decide, tbl_mem 301 (by decide +kernel) rfl, rfl, rfl, tyX6_ok, nmX6, rfl, rfl, rfl⟩
theorem fl_X6_50 : FL RX6 50 1 12 3 true := ⟨RX1, TX1, 15, tyX1, rfl, inT1, by decide, tbl_mem 227 (by decide +kernel) rfl, rfl, rfl, tyX1_ok, nmX1, rfl, rfl, Or.inr ⟨_, rfl⟩⟩
theorem fl_X6_53 : FL RX6 53 1 13 3 true := ⟨RX1, TX1, 15, tyX1, rfl, inT1, by decide, tbl_mem 230 (by decide +kernel) rfl, rfl, rfl, tyX1_ok, nmX1, rfl, rfl, Or.inr ⟨_, rfl⟩⟩
theorem fl_X8_7 : FL RX8 7 8 1 3 true := ⟨RX8, TX8, 57, tyX8, rfl, inT8, by decide, tbl_mem 999 (by decide +kernel) rfl, rfl, rfl, tyX8_ok, nmX8, rfl, rfl, Or.inr ⟨_, rfl⟩⟩
theorem fl_X8_13 : FL RX8 13 8 2 3 true := ⟨RX8, TX8, 57, tyX8, rfl, inT8, by decide, tbl_mem 1000 (by decide +kernel) rfl, rfl, rfl, tyX8_ok, nmX8, rfl, rfl, Or.inr ⟨_, rfl⟩⟩
theorem fl_X8_16 : FL RX8 16 8 3 3 true := ⟨RX8, TX8, 57, tyX8, rfl, inT8, by decide, tbl_mem 1001 (by decide +kernel) rfl, rfl, rfl, tyX8_ok, nmX8, rfl, rfl, Or.inr ⟨_, rfl⟩⟩
theorem fl_X8_19 : FL RX8 19 8 4 3 true := ⟨RX8, TX8, 57, tyX8, rfl, inT8, by decide, tbl_mem 1002 (by decide +kernel) rfl, rfl, rfl, tyX8_ok, nmX8, rfl, rfl, Or.inr ⟨_, rfl⟩⟩
theorem fl_X8_22 : FL RX8 22 8 5 3 true := ⟨RX8, TX8, 57, tyX8, rfl, inT8, by decide, tbl_mem 1003 (by decide +kernel) rfl, rfl, rfl, tyX8_ok, nmX8, rfl, rfl, Or.inr ⟨_, rfl⟩⟩
theorem fl_X8_25 : FL RX8 25 8 6 3 true := ⟨RX8, TX8, 57, tyX8, rfl, inT8, by decide, tbl_mem 1004 (by decide +kernel) rfl, rfl, rfl, tyX8_ok, nmX8, rfl, rfl, Or.inr ⟨_, rfl⟩⟩
theorem fl_X8_28 : FL RX8 28 8 7 3 true := ⟨RX8, TX8, 57, tyX8, rfl, inT8, by decide, tbl_mem 1005 (by decide +kernel) rfl, rfl, rfl, tyX8_ok, nmX8, rfl, rfl, Or.inr ⟨_, rfl⟩⟩
theorem fl_X8_31 : FL RX8 31 8 8 3 true := ⟨RX8, TX8, 57, tyX8, rfl, inT8, by decide, tbl_mem 1006 (by decide +kernel) rfl, rfl, rfl, tyX8_ok, nmX8, rfl, rfl, Or.inr ⟨_, rfl⟩⟩
theorem fl_X8_34 : FL RX8 34 8 9 3 true := ⟨RX8, TX8, 57, tyX8, rfl, inT8, by decide, tbl_mem 1007 (by decide +kernel) rfl, rfl, rfl, tyX8_ok, nmX8, rfl, rfl, Or.inr ⟨_, rfl⟩⟩
theorem fl_X8_38 : FL RX8 38 8 10 3 true := ⟨RX8, TX8, 57, tyX8, rfl, inT8, by decide, tbl_mem 1008 (by decide +kernel) rfl, rfl, rfl, tyX8_ok, nmX8, rfl, rfl, Or.inr ⟨_, rfl⟩⟩
theorem fl_X8_41 : FL RX8 41 8 11 3 true := ⟨RX8, TX8, 57, tyX8, rfl, inT8, by decide, tbl_mem 1009 (by decide +kernel) rfl, rfl, rfl, tyX8_ok, nmX8, rfl, rfl, Or.inr ⟨_, rfl⟩⟩
theorem fl_X8_44 : FL RX8 44 8 13 3 true := ⟨RX8, TX8, 57, tyX8, rfl, inT8, by decide, tbl_mem 1011 (by decide +kernel) rfl, rfl, rfl, tyX8_ok, nmX8, rfl, rfl, Or.inr ⟨_, rfl⟩⟩
theorem fl_X8_47 : FL RX8 47 8 14 3 true := ⟨RX8, TX8, 57, tyX8, rfl, inT8, by decide, tbl_mem 1012 (by decide +kernel) rfl, rfl, rfl, tyX8_ok, nmX8, rfl, rfl, Or.inr ⟨_, rfl⟩⟩
theorem fl_X8_50 : FL RX8 50 8 15 3 true := ⟨RX8, TX8, 57, tyX8, rfl, inT8, by decide, tbl_mem 1013 (by decide +kernel) rfl, rfl, rfl, tyX8_ok, nmX8, rfl, rfl, Or.inr ⟨_, rfl⟩⟩
theorem fl_X8_53 : FL RX8 53 8 16 3 true := ⟨RX8, TX8, 57, tyX8, rfl, inT8, by decide, tbl_mem 1014 (by decide +kernel) rfl, rfl, rfl, tyX8_ok, nmX8, rfl, rfl, Or.inr ⟨_, rfl⟩⟩
theorem fl_X8_56 : FL RX8 56 8 19 3 true := ⟨RX8, TX8, 57, tyX8, rfl, inT8, by decide, tbl_mem 1017 (by decide +kernel) rfl, rfl, rfl, tyX8_ok, nmX8, rfl, rfl, Or.inr ⟨_, rfl⟩⟩
theorem fl_X8_59 : FL RX8 59 8 22 3 true := ⟨RX8, TX8, 57, tyX8, rfl, inT8, by decide, tbl_mem 1020 (by decide +kernel) rfl, rfl, rfl, tyX8_ok, nmX8, rfl, rfl, Or.inr ⟨_, rfl⟩⟩
theorem fl_X8_62 : FL RX8 62 8 23 3 true := ⟨RX8, TX8, 57, tyX8, rfl, inT8, by decide, tbl_mem 1021 (by decide +kernel) rfl, rfl, rfl, tyX8_ok, nmX8, rfl, rfl, Or.inr ⟨_, rfl⟩⟩
theorem fl_X8_65 : FL RX8 65 8 24 3 true := ⟨RX8, TX8, 57, tyX8, rfl, inT8, by decide, tbl_mem 1022 (by decide +kernel) rfl, rfl, rfl, tyX8_ok, nmX8, rfl, rfl, Or.inr ⟨_, rfl⟩⟩
theorem fl_X8_68 : FL RX8 68 8 25 3 true := ⟨RX8, TX8, 57, tyX8, rfl, inT8, by decide, tbl_mem 1023 (by decide +kernel) rfl, rfl, rfl, tyX8_ok, nmX8, rfl, rfl, Or.inr ⟨_, rfl⟩⟩
theorem fl_X8_71 : FL RX8 71 8 26 3 true := ⟨RX8, TX8, 57, tyX8, rfl, inT8, by decide, tbl_mem 1024 (by decide +kernel) rfl, rfl, rfl, tyX8_ok, nmX8, rfl, rfl, Or.inr ⟨_, rfl⟩⟩
theorem fl_X8_74 : FL RX8 74 8 31 3 true := ⟨RX8, TX8, 57, tyX8, rfl, inT8, by decide, tbl_mem 1029 (by decide +kernel) rfl, rfl, rfl, tyX8_ok, nmX8, rfl, rfl, Or.inr ⟨_, rfl⟩⟩
theorem fl_X8_77 : FL RX8 77 8 32 3 true := ⟨RX8, TX8, 57, tyX8, rfl, inT8, by decide, tbl_mem 1030 (by decide +kernel) rfl, rfl, rfl, tyX8_ok, nmX8, rfl, rfl, Or.inr ⟨_, rfl⟩⟩
theorem fl_X8_80 : FL RX8 80 8 33 3 true := ⟨RX8, TX8, 57, tyX8, rfl, inT8, by decide, tbl_mem 1031 (by decide +kernel) rfl, rfl, rfl, tyX8_ok, nmX8, rfl, rfl, Or.inr ⟨_, rfl⟩⟩
theorem fl_X8_83 : FL RX8 83 8 34 3 true := ⟨RX8, TX8, 57, tyX8, rfl, inT8, by decide, tbl_mem 1032 (by decide +kernel) rfl, rfl, rfl, tyX8_ok, nmX8, rfl, rfl, Or.inr ⟨_, rfl⟩⟩
theorem fl_X8_86 : FL RX8 86 8 38 0 false := ⟨RX8, TX8, 57, tyX8, rfl, inT8, by decide, tbl_mem 1036 (by decide +kernel) rfl, rfl, rfl, tyX8_ok, nmX8, rfl, rfl, rfl⟩
theorem fl_X8_90 : FL RX8 90 8 41 3 true := ⟨RX8, TX8, 57, tyX8, rfl, inT8, by decide, tbl_mem 1039 (by decide +kernel) rfl, rfl, rfl, tyX8_ok, nmX8, rfl, rfl, Or.inr ⟨_, rfl⟩⟩
theorem fl_X8_94 : FL RX8 94 8 42 0 false := ⟨RX8, TX8, 57, tyX8, rfl, inT8, by decide, tbl_mem 1040 (by decide +kernel) rfl, rfl, rfl, tyX8_ok, nmX8, rfl, rfl, rfl⟩
theorem fl_X8_97 : FL RX8 97 8 43 0 false := ⟨RX8, TX8, 57, tyX8, rfl, inT8, by decide, tbl_mem 1041 (by decide +kernel) rfl, rfl, rfl, tyX8_ok, nmX8, rfl, rfl, rfl⟩
theorem fl_X8_100 : FL RX8 100 8 44 0 false := ⟨RX8, TX8, 57, tyX8, rfl, inT8, by decide, tbl_mem 1042 (by decide +kernel) rfl, rfl, rfl, tyX8_ok, nmX8, rfl, rfl, rfl⟩
theorem fl_X8_103 : FL RX8 103 8 46 3 true := ⟨RX8, TX8, 57, tyX8, rfl, inT8, by decide, tbl_mem 1044 (by decide +kernel) rfl, rfl, rfl, tyX8_ok, nmX8, rfl, rfl, Or.inr ⟨_, rfl⟩⟩
theorem fl_X8_106 : FL RX8 106 8 47 3 true := ⟨RX8, TX8, 57, tyX8, rfl, inT8, by decide, tbl_mem 1045 (by decide +kernel) rfl, rfl, rfl, tyX8_ok, nmX8, rfl, rfl, Or.inr ⟨_, rfl⟩⟩
theorem fl_X8_109 : FL RX8 109 8 48 3 true := ⟨RX8, TX8, 57, tyX8, rfl, inT8, by decide, tbl_mem 1046 (by decide +kernel) rfl, rfl, rfl, tyX8_ok, nmX8, rfl, rfl, Or.inr ⟨_, rfl⟩⟩
theorem fl_X8_112 : FL RX8 112 8 49 3 true := ⟨RX8, TX8, 57, tyX8, rfl, inT8, by decide, tbl_mem 1047 (by decide +kernel) rfl, rfl, rfl, tyX8_ok, nmX8, rfl, rfl, Or.inr ⟨_, rfl⟩⟩
theorem fl_X8_115 : FL RX8 115 8 50 3 true := ⟨RX8, TX8, 57, tyX8, rfl, inT8, by decide, tbl_mem 1048 (by decide +kernel) rfl, rfl, rfl, tyX8_ok, nmX8, rfl, rfl, Or.inr ⟨_, rfl⟩⟩
theorem fl_X8_118 : FL RX8 118 8 53 3 true := ⟨RX8, TX8, 57, tyX8, rfl, inT8, by decide, tbl_mem 1051 (by decide +kernel) rfl, rfl, rfl, tyX8_ok, nmX8, rfl, rfl, Or.inr ⟨_, rfl⟩⟩
theorem fl_X8_136 : FL RX8 136 8 0 0 false := ⟨RX8, TX8, 57, tyX8, rfl, inT8, by decide, tbl_mem 998 (by decide +kernel) rfl, rfl, rfl, tyX8_ok, nmX8, rfl, rfl, rfl⟩
theorem fl_X8_140 : FL RX8 140 8 12 0 false := ⟨RX8, TX8, 57, tyX8, rfl, inT8, by decide, tbl_mem 1010 (by decide +kernel) rfl, rfl, rfl, tyX8_ok, nmX8, rfl, rfl, rfl⟩
theorem fl_X8_189 : FL RX8 189 8 17 0 false := ⟨RX8, TX8, 57, tyX8, rfl, inT8, by decide, tbl_mem 1015 (by decide +kernel) rfl, rfl, rfl, tyX8_ok, nmX8, rfl, rfl, rfl⟩
theorem fl_X8_192 : FL RX8 192 8 18 0 false := ⟨RX8, TX8, 57, tyX8, rfl, inT8, by decide, tbl_mem 1016 (by decide +kernel) rfl, rfl, rfl, tyX8_ok, nmX8, rfl, rfl, rfl⟩
theorem fl_X8_197 : FL RX8 197 8 35 0 false := ⟨RX8, TX8, 57, tyX8, rfl, inT8, by decide, tbl_mem 1033 (by decide +kernel) rfl, rfl, rfl, tyX8_ok, nmX8, rfl, rfl, rfl⟩
theorem fl_X8_202 : FL RX8 202 8 36 0 false := ⟨RX8, TX8, 57, tyX8, rfl, inT8, by decide, tbl_mem 1034 (by decide +kernel) rfl, rfl, rfl, tyX8_ok, nmX8, rfl, rfl, rfl⟩
theorem fl_X8_205 : FL RX8 205 8 37 0 false := ⟨RX8, TX8, 57, tyX8, rfl, inT8, by decide, tbl_mem 1035 (by decide +kernel) rfl, rfl, rfl, tyX8_ok, nmX8, rfl, rfl, rfl⟩
theorem fl_X8_212 : FL RX8 212 8 39 0 false := ⟨RX8, TX8, 57, tyX8, rfl, inT8, by decide, tbl_mem 1037 (by decide +kernel) rfl, rfl, rfl, tyX8_ok, nmX8, rfl, rfl, rfl⟩
theorem fl_X8_219 : FL RX8 219 8 40 0 false := ⟨RX8, TX8, 57, tyX8, rfl, inT8, by decide, tbl_mem 1038 (by decide +kernel) rfl, rfl, rfl, tyX8_ok, nmX8, rfl, rfl, rfl⟩
theorem fl_X8_252 : FL RX8 252 8 30 0 false := ⟨RX8, TX8, 57, tyX8, rfl, inT8, by decide, tbl_mem 1028 (by decide +kernel) rfl, rfl, rfl, tyX8_ok, nmX8, rfl, rfl, rfl⟩
theorem fl_X8_258 : FL RX8 258 8 27 0 false := ⟨RX8, TX8, 57, tyX8, rfl, inT8, by decide, tbl_mem 1025 (by decide +kernel) rfl, rfl, rfl, tyX8_ok, nmX8, rfl, rfl, rfl⟩
theorem fl_X8_261 : FL RX8 261 8 28 0 false := ⟨RX8, TX8, 57, tyX8, rfl, inT8, by decide, tbl_mem 1026 (by decide +kernel) rfl, rfl, rfl, tyX8_ok, nmX8, rfl, rfl, rfl⟩
theorem fl_X8_267 : FL RX8 267 8 29 0 false := ⟨RX8, TX8, 57, tyX8, rfl, inT8, by decide, tbl_mem 1027 (by decide +kernel) rfl, rfl, rfl, tyX8_ok, nmX8, rfl, rfl, rfl⟩
theorem fl_X8_273 : FL RX8 273 8 20 0 false := ⟨RX8, TX8, 57, tyX8, rfl, inT8, by decide, tbl_mem 1018 (by decide +kernel) rfl, rfl, rfl, tyX8_ok, nmX8, rfl, rfl, rfl⟩
theorem fl_X8_276 : FL RX8 276 8 21 0 false := ⟨RX8, TX8, 57, tyX8, rfl, inT8, by decide, tbl_mem 1019 (by decide +kernel) rfl, rfl, rfl, tyX8_ok, nmX8, rfl, rfl, rfl⟩
theorem fl_X8_323 : FL RX8 323 8 45 2 false := ⟨RX8, TX8, 57, tyX8, rfl, inT8, by decide, tbl_mem 1043 (by decide +kernel) rfl, rfl, rfl, tyX8_ok, nmX8, rfl, rfl, rfl⟩
theorem fl_X8_344 : FL RX8 344 8 55 1 false := ⟨RX8, TX8, 57, tyX8, rfl, inT8, by decide, tbl_mem 1053 (by decide +kernel) rfl, rfl, rfl, tyX8_ok, nmX8, rfl, rfl, rfl⟩
theorem fl_X8_348 : FL RX8 348 8 56 1 false := ⟨RX8, TX8, 57, tyX8, rfl, inT8, by decide, tbl_mem 1054 (by decide +kernel) rfl, rfl, rfl, tyX8_ok, nmX8, rfl, rfl, rfl⟩
theorem fl_X8_358 : FL RX8 358 8 54 0 false := ⟨RX8, TX8, 57, tyX8, rfl, inT8, by decide, tbl_mem 1052 (by decide +kernel) rfl, rfl, rfl, tyX8_ok, nmX8, rfl, rfl, rfl⟩
theorem fl_X8_379 : FL RX8 379 8 51 0 false := ⟨RX8, TX8, 57, tyX8, rfl, inT8, by decide, tbl_mem 1049 (by decide +kernel) rfl, rfl, rfl, tyX8_ok, nmX8, rfl, rfl, rfl⟩
theorem fl_X8_382 : FL RX8 382 8 52 0 false := ⟨RX8, TX8, 57, tyX8, rfl, inT8, by decide, tbl_mem 1050 (by decide +kernel) rfl, rfl, rfl, tyX8_ok, nmX8, rfl, rfl, rfl⟩
theorem ft_X6_30 : Cond.fieldLink RX6 30 "FarCandles$Wide" "TABLE" "[I" ∈ TBL := tbl_mem 909 (by decide +kernel) rfl
theorem cn_X7_82 : Cond.constant RX7 82 (Int32.ofInt (-1000001)) ∈ TBL := tbl_mem 426 (by decide +kernel) rfl
theorem cn_X7_87 : Cond.constant RX7 87 (Int32.ofInt (-1000002)) ∈ TBL := tbl_mem 427 (by decide +kernel) rfl
theorem cn_X7_92 : Cond.constant RX7 92 (Int32.ofInt (-1000004)) ∈ TBL := tbl_mem 432 (by decide +kernel) rfl
theorem cn_X7_112 : Cond.constant RX7 112 (Int32.ofInt (99999)) ∈ TBL := tbl_mem 467 (by decide +kernel) rfl
theorem cn_X7_131 : Cond.constant RX7 131 (Int32.ofInt (-1000003)) ∈ TBL := tbl_mem 484 (by decide +kernel) rfl
theorem cn_X7_222 : Cond.constant RX7 222 (Int32.ofInt (-1000005)) ∈ TBL := tbl_mem 791 (by decide +kernel) rfl
theorem cn_X7_230 : Cond.constant RX7 230 (Int32.ofInt (-1000006)) ∈ TBL := tbl_mem 792 (by decide +kernel) rfl
theorem cn_X7_273 : Cond.constant RX7 273 (Int32.ofInt (-1000007)) ∈ TBL := tbl_mem 865 (by decide +kernel) rfl
theorem cn_X7_335 : Cond.constant RX7 335 (Int32.ofInt (40000)) ∈ TBL := tbl_mem 454 (by decide +kernel) rfl
theorem cn_X7_336 : Cond.constant RX7 336 (Int32.ofInt (-40000)) ∈ TBL := tbl_mem 453 (by decide +kernel) rfl
theorem cn_X1_71 : Cond.constant RX1 71 (Int32.ofInt (2000000000)) ∈ TBL := tbl_mem 586 (by decide +kernel) rfl
theorem cn_X1_83 : Cond.constant RX1 83 (Int32.ofInt (40000)) ∈ TBL := tbl_mem 932 (by decide +kernel) rfl
theorem cn_X2_135 : Cond.constant RX2 135 (Int32.ofInt (-40000)) ∈ TBL := tbl_mem 765 (by decide +kernel) rfl
theorem cn_X2_136 : Cond.constant RX2 136 (Int32.ofInt (40000)) ∈ TBL := tbl_mem 766 (by decide +kernel) rfl
theorem cn_X4_34 : Cond.constant RX4 34 (Int32.ofInt (65536)) ∈ TBL := tbl_mem 810 (by decide +kernel) rfl
theorem cn_X5_56 : Cond.constant RX5 56 (Int32.ofInt (-1000004)) ∈ TBL := tbl_mem 437 (by decide +kernel) rfl
theorem cn_X8_139 : Cond.constant RX8 139 (Int32.ofInt (-1000004)) ∈ TBL := tbl_mem 1199 (by decide +kernel) rfl
theorem cn_X8_153 : Cond.constant RX8 153 (Int32.ofInt (-1000001)) ∈ TBL := tbl_mem 1188 (by decide +kernel) rfl
theorem cn_X8_164 : Cond.constant RX8 164 (Int32.ofInt (-1000002)) ∈ TBL := tbl_mem 1194 (by decide +kernel) rfl
theorem cn_X8_188 : Cond.constant RX8 188 (Int32.ofInt (-1000003)) ∈ TBL := tbl_mem 1238 (by decide +kernel) rfl
theorem cn_X8_230 : Cond.constant RX8 230 (Int32.ofInt (99999)) ∈ TBL := tbl_mem 1289 (by decide +kernel) rfl
theorem cn_X8_250 : Cond.constant RX8 250 (Int32.ofInt (-40000)) ∈ TBL := tbl_mem 1306 (by decide +kernel) rfl
theorem cn_X8_251 : Cond.constant RX8 251 (Int32.ofInt (40000)) ∈ TBL := tbl_mem 1307 (by decide +kernel) rfl
theorem cn_X8_357 : Cond.constant RX8 357 (Int32.ofInt (-1000005)) ∈ TBL := tbl_mem 1396 (by decide +kernel) rfl
theorem cn_X8_361 : Cond.constant RX8 361 (Int32.ofInt (-1000006)) ∈ TBL := tbl_mem 1397 (by decide +kernel) rfl
theorem cn_X8_398 : Cond.constant RX8 398 (Int32.ofInt (-1000007)) ∈ TBL := tbl_mem 1452 (by decide +kernel) rfl
theorem cn_X7_284 : Cond.constantLong RX7 284 (Int64.ofInt (-1000002)) ∈ TBL := tbl_mem 905 (by decide +kernel) rfl
theorem cn_X7_306 : Cond.constantLong RX7 306 (Int64.ofInt (-1000001)) ∈ TBL := tbl_mem 964 (by decide +kernel) rfl
theorem cn_X7_308 : Cond.constantLong RX7 308 (Int64.ofInt (2000000000)) ∈ TBL := tbl_mem 965 (by decide +kernel) rfl
theorem cn_X7_310 : Cond.constantLong RX7 310 (Int64.ofInt (-1000005)) ∈ TBL := tbl_mem 966 (by decide +kernel) rfl
theorem cn_X7_315 : Cond.constantLong RX7 315 (Int64.ofInt (-1000003)) ∈ TBL := tbl_mem 968 (by decide +kernel) rfl
theorem cn_X6_40 : Cond.constantLong RX6 40 (Int64.ofInt (10000)) ∈ TBL := tbl_mem 919 (by decide +kernel) rfl
theorem cn_X6_42 : Cond.constantLong RX6 42 (Int64.ofInt (10)) ∈ TBL := tbl_mem 914 (by decide +kernel) rfl
theorem cn_X6_71 : Cond.constantLong RX6 71 (Int64.ofInt (1000)) ∈ TBL := tbl_mem 951 (by decide +kernel) rfl
theorem cn_L_60 : Cond.constantLong RL 60 (Int64.ofInt (4294967295)) ∈ TBL := tbl_mem 1526 (by decide +kernel) rfl
theorem cn_X8_128 : Cond.constantLong RX8 128 (Int64.ofInt (5)) ∈ TBL := tbl_mem 1177 (by decide +kernel) rfl
theorem cn_X8_134 : Cond.constantLong RX8 134 (Int64.ofInt (9)) ∈ TBL := tbl_mem 1187 (by decide +kernel) rfl
theorem cn_X8_154 : Cond.constantLong RX8 154 (Int64.ofInt (-5000)) ∈ TBL := tbl_mem 1189 (by decide +kernel) rfl
theorem cn_X8_156 : Cond.constantLong RX8 156 (Int64.ofInt (30000)) ∈ TBL := tbl_mem 1190 (by decide +kernel) rfl
theorem cn_X8_158 : Cond.constantLong RX8 158 (Int64.ofInt (999)) ∈ TBL := tbl_mem 1191 (by decide +kernel) rfl
theorem cn_X8_160 : Cond.constantLong RX8 160 (Int64.ofInt (3000)) ∈ TBL := tbl_mem 1192 (by decide +kernel) rfl
theorem cn_X8_162 : Cond.constantLong RX8 162 (Int64.ofInt (-500)) ∈ TBL := tbl_mem 1193 (by decide +kernel) rfl
theorem cn_X8_169 : Cond.constantLong RX8 169 (Int64.ofInt (-40000)) ∈ TBL := tbl_mem 1207 (by decide +kernel) rfl
theorem cn_X8_171 : Cond.constantLong RX8 171 (Int64.ofInt (40000)) ∈ TBL := tbl_mem 1208 (by decide +kernel) rfl
theorem cn_X8_177 : Cond.constantLong RX8 177 (Int64.ofInt (-1)) ∈ TBL := tbl_mem 1221 (by decide +kernel) rfl
theorem cn_X8_179 : Cond.constantLong RX8 179 (Int64.ofInt (99999)) ∈ TBL := tbl_mem 1222 (by decide +kernel) rfl
theorem cn_X8_195 : Cond.constantLong RX8 195 (Int64.ofInt (8)) ∈ TBL := tbl_mem 1247 (by decide +kernel) rfl
theorem cn_X8_200 : Cond.constantLong RX8 200 (Int64.ofInt (255)) ∈ TBL := tbl_mem 1248 (by decide +kernel) rfl
theorem cn_X8_215 : Cond.constantLong RX8 215 (Int64.ofInt (97)) ∈ TBL := tbl_mem 1261 (by decide +kernel) rfl
theorem cn_X8_217 : Cond.constantLong RX8 217 (Int64.ofInt (122)) ∈ TBL := tbl_mem 1262 (by decide +kernel) rfl
theorem cn_X8_222 : Cond.constantLong RX8 222 (Int64.ofInt (48)) ∈ TBL := tbl_mem 1287 (by decide +kernel) rfl
theorem cn_X8_224 : Cond.constantLong RX8 224 (Int64.ofInt (57)) ∈ TBL := tbl_mem 1288 (by decide +kernel) rfl
theorem cn_X8_288 : Cond.constantLong RX8 288 (Int64.ofInt (7)) ∈ TBL := tbl_mem 1320 (by decide +kernel) rfl
theorem cn_X8_293 : Cond.constantLong RX8 293 (Int64.ofInt (1000)) ∈ TBL := tbl_mem 1336 (by decide +kernel) rfl
theorem cn_X8_298 : Cond.constantLong RX8 298 (Int64.ofInt (10)) ∈ TBL := tbl_mem 1343 (by decide +kernel) rfl
theorem cn_X8_303 : Cond.constantLong RX8 303 (Int64.ofInt (1000000000000)) ∈ TBL := tbl_mem 1367 (by decide +kernel) rfl
theorem cn_X8_333 : Cond.constantLong RX8 333 (Int64.ofInt (-1000000000000)) ∈ TBL := tbl_mem 1379 (by decide +kernel) rfl
theorem cn_X8_368 : Cond.constantLong RX8 368 (Int64.ofInt (400000)) ∈ TBL := tbl_mem 1414 (by decide +kernel) rfl
theorem cn_X8_370 : Cond.constantLong RX8 370 (Int64.ofInt (2)) ∈ TBL := tbl_mem 1415 (by decide +kernel) rfl
theorem cn_X8_405 : Cond.constantLong RX8 405 (Int64.ofInt (10000)) ∈ TBL := tbl_mem 1477 (by decide +kernel) rfl
theorem cn_X8_414 : Cond.constantLong RX8 414 (Int64.ofInt (-1000002)) ∈ TBL := tbl_mem 1478 (by decide +kernel) rfl
theorem cn_X8_422 : Cond.constantLong RX8 422 (Int64.ofInt (3)) ∈ TBL := tbl_mem 1483 (by decide +kernel) rfl
theorem cn_X8_427 : Cond.constantLong RX8 427 (Int64.ofInt (200)) ∈ TBL := tbl_mem 1500 (by decide +kernel) rfl
theorem cn_X8_429 : Cond.constantLong RX8 429 (Int64.ofInt (-1000001)) ∈ TBL := tbl_mem 1505 (by decide +kernel) rfl
theorem cn_X8_431 : Cond.constantLong RX8 431 (Int64.ofInt (2000000000)) ∈ TBL := tbl_mem 1506 (by decide +kernel) rfl
theorem cn_X8_433 : Cond.constantLong RX8 433 (Int64.ofInt (-1000005)) ∈ TBL := tbl_mem 1507 (by decide +kernel) rfl
theorem cn_X8_435 : Cond.constantLong RX8 435 (Int64.ofInt (-1000003)) ∈ TBL := tbl_mem 1508 (by decide +kernel) rfl
theorem cn_X8_437 : Cond.constantLong RX8 437 (Int64.ofInt (-999)) ∈ TBL := tbl_mem 1513 (by decide +kernel) rfl
theorem nl_X7_7 : NL RX7 7 5 := ⟨RX5, TX5, 14, tyX5, rfl, inT5, tyX5_ok, tbl_mem 100 (by decide +kernel) rfl, tbl_mem 101 (by decide +kernel) rfl, tbl_mem 79 (by decide +kernel) rfl, rfl, fun k t h => by
    have hk : k < 14 := (List.getElem?_eq_some_iff.mp h).1
    match k, hk, h with
    | 0, _, h => cases h; exact ⟨Or.inr ⟨_, rfl⟩, by decide⟩
    | 1, _, h => cases h; exact ⟨Or.inr ⟨_, rfl⟩, by decide⟩
    | 2, _, h => cases h; exact ⟨Or.inr ⟨_, rfl⟩, by decide⟩
    | 3, _, h => cases h; exact ⟨Or.inr ⟨_, rfl⟩, by decide⟩
    | 4, _, h => cases h; exact ⟨Or.inr ⟨_, rfl⟩, by decide⟩
    | 5, _, h => cases h; exact ⟨Or.inr ⟨_, rfl⟩, by decide⟩
    | 6, _, h => cases h; exact ⟨Or.inr ⟨_, rfl⟩, by decide⟩
    | 7, _, h => cases h; exact ⟨Or.inr ⟨_, rfl⟩, by decide⟩
    | 8, _, h => cases h; exact ⟨Or.inr ⟨_, rfl⟩, by decide⟩
    | 9, _, h => cases h; exact ⟨Or.inr ⟨_, rfl⟩, by decide⟩
    | 10, _, h => cases h; exact ⟨Or.inr ⟨_, rfl⟩, by decide⟩
    | 11, _, h => cases h; exact ⟨rfl, by decide⟩
    | 12, _, h => cases h; exact ⟨Or.inr ⟨_, rfl⟩, by decide⟩
    | 13, _, h => cases h; exact ⟨rfl, by decide⟩
    ⟩
theorem nl_X7_16 : NL RX7 16 0 := ⟨RX0, TX0, 2, tyX0, rfl, inT0, tyX0_ok, tbl_mem 161 (by decide +kernel) rfl, tbl_mem 162 (by decide +kernel) rfl, tbl_mem 80 (by decide +kernel) rfl, rfl, fun k t h => by
    have hk : k < 2 := (List.getElem?_eq_some_iff.mp h).1
    match k, hk, h with
    | 0, _, h => cases h; exact ⟨Or.inr ⟨_, rfl⟩, by decide⟩
    | 1, _, h => cases h; exact ⟨Or.inr ⟨_, rfl⟩, by decide⟩
    ⟩
theorem nl_X7_23 : NL RX7 23 2 := ⟨RX2, TX2, 7, tyX2, rfl, inT2, tyX2_ok, tbl_mem 176 (by decide +kernel) rfl, tbl_mem 177 (by decide +kernel) rfl, tbl_mem 81 (by decide +kernel) rfl, rfl, fun k t h => by
    have hk : k < 7 := (List.getElem?_eq_some_iff.mp h).1
    match k, hk, h with
    | 0, _, h => cases h; exact ⟨Or.inr ⟨_, rfl⟩, by decide⟩
    | 1, _, h => cases h; exact ⟨rfl, by decide⟩
    | 2, _, h => cases h; exact ⟨rfl, by decide⟩
    | 3, _, h => cases h; exact ⟨rfl, by decide⟩
    | 4, _, h => cases h; exact ⟨rfl, by decide⟩
    | 5, _, h => cases h; exact ⟨Or.inr ⟨_, rfl⟩, by decide⟩
    | 6, _, h => cases h; exact ⟨rfl, by decide⟩
    ⟩
theorem nl_X7_30 : NL RX7 30 1 := ⟨RX1, TX1, 15, tyX1, rfl, inT1, tyX1_ok, tbl_mem 207 (by decide +kernel) rfl, tbl_mem 208 (by decide +kernel) rfl, tbl_mem 82 (by decide +kernel) rfl, rfl, fun k t h => by
    have hk : k < 15 := (List.getElem?_eq_some_iff.mp h).1
    match k, hk, h with
    | 0, _, h => cases h; exact ⟨Or.inr ⟨_, rfl⟩, by decide⟩
    | 1, _, h => cases h; exact ⟨Or.inr ⟨_, rfl⟩, by decide⟩
    | 2, _, h => cases h; exact ⟨Or.inr ⟨_, rfl⟩, by decide⟩
    | 3, _, h => cases h; exact ⟨Or.inr ⟨_, rfl⟩, by decide⟩
    | 4, _, h => cases h; exact ⟨Or.inr ⟨_, rfl⟩, by decide⟩
    | 5, _, h => cases h; exact ⟨Or.inr ⟨_, rfl⟩, by decide⟩
    | 6, _, h => cases h; exact ⟨Or.inr ⟨_, rfl⟩, by decide⟩
    | 7, _, h => cases h; exact ⟨rfl, by decide⟩
    | 8, _, h => cases h; exact ⟨rfl, by decide⟩
    | 9, _, h => cases h; exact ⟨Or.inr ⟨_, rfl⟩, by decide⟩
    | 10, _, h => cases h; exact ⟨Or.inr ⟨_, rfl⟩, by decide⟩
    | 11, _, h => cases h; exact ⟨Or.inr ⟨_, rfl⟩, by decide⟩
    | 12, _, h => cases h; exact ⟨Or.inr ⟨_, rfl⟩, by decide⟩
    | 13, _, h => cases h; exact ⟨Or.inr ⟨_, rfl⟩, by decide⟩
    | 14, _, h => cases h; exact ⟨Or.inr ⟨_, rfl⟩, by decide⟩
    ⟩
theorem nl_X7_37 : NL RX7 37 4 := ⟨RX4, TX4, 5, tyX4, rfl, inT4, tyX4_ok, tbl_mem 265 (by decide +kernel) rfl, tbl_mem 266 (by decide +kernel) rfl, tbl_mem 83 (by decide +kernel) rfl, rfl, fun k t h => by
    have hk : k < 5 := (List.getElem?_eq_some_iff.mp h).1
    match k, hk, h with
    | 0, _, h => cases h; exact ⟨Or.inr ⟨_, rfl⟩, by decide⟩
    | 1, _, h => cases h; exact ⟨Or.inr ⟨_, rfl⟩, by decide⟩
    | 2, _, h => cases h; exact ⟨rfl, by decide⟩
    | 3, _, h => cases h; exact ⟨rfl, by decide⟩
    | 4, _, h => cases h; exact ⟨rfl, by decide⟩
    ⟩
theorem nl_X7_44 : NL RX7 44 6 := ⟨RX6, TX6, 5, tyX6, rfl, inT6, tyX6_ok, tbl_mem 290 (by decide +kernel) rfl, tbl_mem 291 (by decide +kernel) rfl, tbl_mem 84 (by decide +kernel) rfl, rfl, fun k t h => by
    have hk : k < 5 := (List.getElem?_eq_some_iff.mp h).1
    match k, hk, h with
    | 0, _, h => cases h; exact ⟨Or.inr ⟨_, rfl⟩, by decide⟩
    | 1, _, h => cases h; exact ⟨Or.inr ⟨_, rfl⟩, by decide⟩
    | 2, _, h => cases h; exact ⟨Or.inr ⟨_, rfl⟩, by decide⟩
    | 3, _, h => cases h; exact ⟨Or.inr ⟨_, rfl⟩, by decide⟩
    | 4, _, h => cases h; exact ⟨rfl, by decide⟩
    ⟩
theorem nl_X7_51 : NL RX7 51 3 := ⟨RX3, TX3, 12, tyX3, rfl, inT3, tyX3_ok, tbl_mem 314 (by decide +kernel) rfl, tbl_mem 315 (by decide +kernel) rfl, tbl_mem 85 (by decide +kernel) rfl, rfl, fun k t h => by
    have hk : k < 12 := (List.getElem?_eq_some_iff.mp h).1
    match k, hk, h with
    | 0, _, h => cases h; exact ⟨Or.inr ⟨_, rfl⟩, by decide⟩
    | 1, _, h => cases h; exact ⟨Or.inr ⟨_, rfl⟩, by decide⟩
    | 2, _, h => cases h; exact ⟨Or.inr ⟨_, rfl⟩, by decide⟩
    | 3, _, h => cases h; exact ⟨Or.inr ⟨_, rfl⟩, by decide⟩
    | 4, _, h => cases h; exact ⟨Or.inr ⟨_, rfl⟩, by decide⟩
    | 5, _, h => cases h; exact ⟨rfl, by decide⟩
    | 6, _, h => cases h; exact ⟨rfl, by decide⟩
    | 7, _, h => cases h; exact ⟨rfl, by decide⟩
    | 8, _, h => cases h; exact ⟨Or.inr ⟨_, rfl⟩, by decide⟩
    | 9, _, h => cases h; exact ⟨Or.inr ⟨_, rfl⟩, by decide⟩
    | 10, _, h => cases h; exact ⟨Or.inr ⟨_, rfl⟩, by decide⟩
    | 11, _, h => cases h; exact ⟨rfl, by decide⟩
    ⟩
theorem nl_L_7 : NL RL 7 7 := ⟨RX7, TX7, 11, tyX7, rfl, inT7, tyX7_ok, tbl_mem 92 (by decide +kernel) rfl, tbl_mem 93 (by decide +kernel) rfl, tbl_mem 78 (by decide +kernel) rfl, rfl, fun k t h => by
    have hk : k < 11 := (List.getElem?_eq_some_iff.mp h).1
    match k, hk, h with
    | 0, _, h => cases h; exact ⟨Or.inl ⟨_, rfl⟩, by decide⟩
    | 1, _, h => cases h; exact ⟨Or.inl ⟨_, rfl⟩, by decide⟩
    | 2, _, h => cases h; exact ⟨Or.inl ⟨_, rfl⟩, by decide⟩
    | 3, _, h => cases h; exact ⟨Or.inl ⟨_, rfl⟩, by decide⟩
    | 4, _, h => cases h; exact ⟨Or.inl ⟨_, rfl⟩, by decide⟩
    | 5, _, h => cases h; exact ⟨Or.inl ⟨_, rfl⟩, by decide⟩
    | 6, _, h => cases h; exact ⟨Or.inl ⟨_, rfl⟩, by decide⟩
    | 7, _, h => cases h; exact ⟨Or.inl ⟨_, rfl⟩, by decide⟩
    | 8, _, h => cases h; exact ⟨rfl, by decide⟩
    | 9, _, h => cases h; exact ⟨rfl, by decide⟩
    | 10, _, h => cases h; exact ⟨rfl, by decide⟩
    ⟩
theorem nl_L_10 : NL RL 10 8 := ⟨RX8, TX8, 57, tyX8, rfl, inT8, tyX8_ok, tbl_mem 988 (by decide +kernel) rfl, tbl_mem 989 (by decide +kernel) rfl, tbl_mem 86 (by decide +kernel) rfl, rfl, fun k t h => by
    have hk : k < 57 := (List.getElem?_eq_some_iff.mp h).1
    match k, hk, h with
    | 0, _, h => cases h; exact ⟨rfl, by decide⟩
    | 1, _, h => cases h; exact ⟨Or.inr ⟨_, rfl⟩, by decide⟩
    | 2, _, h => cases h; exact ⟨Or.inr ⟨_, rfl⟩, by decide⟩
    | 3, _, h => cases h; exact ⟨Or.inr ⟨_, rfl⟩, by decide⟩
    | 4, _, h => cases h; exact ⟨Or.inr ⟨_, rfl⟩, by decide⟩
    | 5, _, h => cases h; exact ⟨Or.inr ⟨_, rfl⟩, by decide⟩
    | 6, _, h => cases h; exact ⟨Or.inr ⟨_, rfl⟩, by decide⟩
    | 7, _, h => cases h; exact ⟨Or.inr ⟨_, rfl⟩, by decide⟩
    | 8, _, h => cases h; exact ⟨Or.inr ⟨_, rfl⟩, by decide⟩
    | 9, _, h => cases h; exact ⟨Or.inr ⟨_, rfl⟩, by decide⟩
    | 10, _, h => cases h; exact ⟨Or.inr ⟨_, rfl⟩, by decide⟩
    | 11, _, h => cases h; exact ⟨Or.inr ⟨_, rfl⟩, by decide⟩
    | 12, _, h => cases h; exact ⟨rfl, by decide⟩
    | 13, _, h => cases h; exact ⟨Or.inr ⟨_, rfl⟩, by decide⟩
    | 14, _, h => cases h; exact ⟨Or.inr ⟨_, rfl⟩, by decide⟩
    | 15, _, h => cases h; exact ⟨Or.inr ⟨_, rfl⟩, by decide⟩
    | 16, _, h => cases h; exact ⟨Or.inr ⟨_, rfl⟩, by decide⟩
    | 17, _, h => cases h; exact ⟨rfl, by decide⟩
    | 18, _, h => cases h; exact ⟨rfl, by decide⟩
    | 19, _, h => cases h; exact ⟨Or.inr ⟨_, rfl⟩, by decide⟩
    | 20, _, h => cases h; exact ⟨rfl, by decide⟩
    | 21, _, h => cases h; exact ⟨rfl, by decide⟩
    | 22, _, h => cases h; exact ⟨Or.inr ⟨_, rfl⟩, by decide⟩
    | 23, _, h => cases h; exact ⟨Or.inr ⟨_, rfl⟩, by decide⟩
    | 24, _, h => cases h; exact ⟨Or.inr ⟨_, rfl⟩, by decide⟩
    | 25, _, h => cases h; exact ⟨Or.inr ⟨_, rfl⟩, by decide⟩
    | 26, _, h => cases h; exact ⟨Or.inr ⟨_, rfl⟩, by decide⟩
    | 27, _, h => cases h; exact ⟨rfl, by decide⟩
    | 28, _, h => cases h; exact ⟨rfl, by decide⟩
    | 29, _, h => cases h; exact ⟨rfl, by decide⟩
    | 30, _, h => cases h; exact ⟨rfl, by decide⟩
    | 31, _, h => cases h; exact ⟨Or.inr ⟨_, rfl⟩, by decide⟩
    | 32, _, h => cases h; exact ⟨Or.inr ⟨_, rfl⟩, by decide⟩
    | 33, _, h => cases h; exact ⟨Or.inr ⟨_, rfl⟩, by decide⟩
    | 34, _, h => cases h; exact ⟨Or.inr ⟨_, rfl⟩, by decide⟩
    | 35, _, h => cases h; exact ⟨rfl, by decide⟩
    | 36, _, h => cases h; exact ⟨rfl, by decide⟩
    | 37, _, h => cases h; exact ⟨rfl, by decide⟩
    | 38, _, h => cases h; exact ⟨rfl, by decide⟩
    | 39, _, h => cases h; exact ⟨rfl, by decide⟩
    | 40, _, h => cases h; exact ⟨rfl, by decide⟩
    | 41, _, h => cases h; exact ⟨Or.inr ⟨_, rfl⟩, by decide⟩
    | 42, _, h => cases h; exact ⟨rfl, by decide⟩
    | 43, _, h => cases h; exact ⟨rfl, by decide⟩
    | 44, _, h => cases h; exact ⟨rfl, by decide⟩
    | 45, _, h => cases h; exact ⟨rfl, by decide⟩
    | 46, _, h => cases h; exact ⟨Or.inr ⟨_, rfl⟩, by decide⟩
    | 47, _, h => cases h; exact ⟨Or.inr ⟨_, rfl⟩, by decide⟩
    | 48, _, h => cases h; exact ⟨Or.inr ⟨_, rfl⟩, by decide⟩
    | 49, _, h => cases h; exact ⟨Or.inr ⟨_, rfl⟩, by decide⟩
    | 50, _, h => cases h; exact ⟨Or.inr ⟨_, rfl⟩, by decide⟩
    | 51, _, h => cases h; exact ⟨rfl, by decide⟩
    | 52, _, h => cases h; exact ⟨rfl, by decide⟩
    | 53, _, h => cases h; exact ⟨Or.inr ⟨_, rfl⟩, by decide⟩
    | 54, _, h => cases h; exact ⟨rfl, by decide⟩
    | 55, _, h => cases h; exact ⟨rfl, by decide⟩
    | 56, _, h => cases h; exact ⟨rfl, by decide⟩
    ⟩
theorem ac_0 : Cond.arrayClass .int ∈ TBL := tbl_mem 159 (by decide +kernel) rfl
theorem ac_1 : Cond.arrayClass .boolean ∈ TBL := tbl_mem 160 (by decide +kernel) rfl
theorem ac_2 : Cond.arrayClass .long ∈ TBL := tbl_mem 313 (by decide +kernel) rfl
theorem nr_0_6 : ∀ q ∈ fRefs, ¬ (q.1 = 0 ∧ q.2.1 = ((6 : Nat) : Int)) := by decide
theorem nr_0_7 : ∀ q ∈ fRefs, ¬ (q.1 = 0 ∧ q.2.1 = ((7 : Nat) : Int)) := by decide
theorem nr_0_8 : ∀ q ∈ fRefs, ¬ (q.1 = 0 ∧ q.2.1 = ((8 : Nat) : Int)) := by decide
theorem nr_0_9 : ∀ q ∈ fRefs, ¬ (q.1 = 0 ∧ q.2.1 = ((9 : Nat) : Int)) := by decide
theorem nr_0_10 : ∀ q ∈ fRefs, ¬ (q.1 = 0 ∧ q.2.1 = ((10 : Nat) : Int)) := by decide
theorem nr_1_11 : ∀ q ∈ fRefs, ¬ (q.1 = 1 ∧ q.2.1 = ((11 : Nat) : Int)) := by decide
theorem nr_1_13 : ∀ q ∈ fRefs, ¬ (q.1 = 1 ∧ q.2.1 = ((13 : Nat) : Int)) := by decide
theorem nr_17_1 : ∀ q ∈ fRefs, ¬ (q.1 = 17 ∧ q.2.1 = ((1 : Nat) : Int)) := by decide
theorem nr_17_2 : ∀ q ∈ fRefs, ¬ (q.1 = 17 ∧ q.2.1 = ((2 : Nat) : Int)) := by decide
theorem nr_17_3 : ∀ q ∈ fRefs, ¬ (q.1 = 17 ∧ q.2.1 = ((3 : Nat) : Int)) := by decide
theorem nr_17_4 : ∀ q ∈ fRefs, ¬ (q.1 = 17 ∧ q.2.1 = ((4 : Nat) : Int)) := by decide
theorem nr_17_6 : ∀ q ∈ fRefs, ¬ (q.1 = 17 ∧ q.2.1 = ((6 : Nat) : Int)) := by decide
theorem nr_20_7 : ∀ q ∈ fRefs, ¬ (q.1 = 20 ∧ q.2.1 = ((7 : Nat) : Int)) := by decide
theorem nr_20_8 : ∀ q ∈ fRefs, ¬ (q.1 = 20 ∧ q.2.1 = ((8 : Nat) : Int)) := by decide
theorem nr_34_2 : ∀ q ∈ fRefs, ¬ (q.1 = 34 ∧ q.2.1 = ((2 : Nat) : Int)) := by decide
theorem nr_34_3 : ∀ q ∈ fRefs, ¬ (q.1 = 34 ∧ q.2.1 = ((3 : Nat) : Int)) := by decide
theorem nr_34_4 : ∀ q ∈ fRefs, ¬ (q.1 = 34 ∧ q.2.1 = ((4 : Nat) : Int)) := by decide
theorem nr_37_4 : ∀ q ∈ fRefs, ¬ (q.1 = 37 ∧ q.2.1 = ((4 : Nat) : Int)) := by decide
theorem nr_42_5 : ∀ q ∈ fRefs, ¬ (q.1 = 42 ∧ q.2.1 = ((5 : Nat) : Int)) := by decide
theorem nr_42_6 : ∀ q ∈ fRefs, ¬ (q.1 = 42 ∧ q.2.1 = ((6 : Nat) : Int)) := by decide
theorem nr_42_7 : ∀ q ∈ fRefs, ¬ (q.1 = 42 ∧ q.2.1 = ((7 : Nat) : Int)) := by decide
theorem nr_42_11 : ∀ q ∈ fRefs, ¬ (q.1 = 42 ∧ q.2.1 = ((11 : Nat) : Int)) := by decide
theorem nr_51_5 : ∀ q ∈ fRefs, ¬ (q.1 = 51 ∧ q.2.1 = ((5 : Nat) : Int)) := by decide
theorem nr_51_6 : ∀ q ∈ fRefs, ¬ (q.1 = 51 ∧ q.2.1 = ((6 : Nat) : Int)) := by decide
theorem nr_51_7 : ∀ q ∈ fRefs, ¬ (q.1 = 51 ∧ q.2.1 = ((7 : Nat) : Int)) := by decide
theorem nr_51_11 : ∀ q ∈ fRefs, ¬ (q.1 = 51 ∧ q.2.1 = ((11 : Nat) : Int)) := by decide
theorem nr_60_0 : ∀ q ∈ fRefs, ¬ (q.1 = 60 ∧ q.2.1 = ((0 : Nat) : Int)) := by decide
theorem nr_60_12 : ∀ q ∈ fRefs, ¬ (q.1 = 60 ∧ q.2.1 = ((12 : Nat) : Int)) := by decide
theorem nr_60_17 : ∀ q ∈ fRefs, ¬ (q.1 = 60 ∧ q.2.1 = ((17 : Nat) : Int)) := by decide
theorem nr_60_18 : ∀ q ∈ fRefs, ¬ (q.1 = 60 ∧ q.2.1 = ((18 : Nat) : Int)) := by decide
theorem nr_60_20 : ∀ q ∈ fRefs, ¬ (q.1 = 60 ∧ q.2.1 = ((20 : Nat) : Int)) := by decide
theorem nr_60_21 : ∀ q ∈ fRefs, ¬ (q.1 = 60 ∧ q.2.1 = ((21 : Nat) : Int)) := by decide
theorem nr_60_27 : ∀ q ∈ fRefs, ¬ (q.1 = 60 ∧ q.2.1 = ((27 : Nat) : Int)) := by decide
theorem nr_60_28 : ∀ q ∈ fRefs, ¬ (q.1 = 60 ∧ q.2.1 = ((28 : Nat) : Int)) := by decide
theorem nr_60_29 : ∀ q ∈ fRefs, ¬ (q.1 = 60 ∧ q.2.1 = ((29 : Nat) : Int)) := by decide
theorem nr_60_30 : ∀ q ∈ fRefs, ¬ (q.1 = 60 ∧ q.2.1 = ((30 : Nat) : Int)) := by decide
theorem nr_60_35 : ∀ q ∈ fRefs, ¬ (q.1 = 60 ∧ q.2.1 = ((35 : Nat) : Int)) := by decide
theorem nr_60_36 : ∀ q ∈ fRefs, ¬ (q.1 = 60 ∧ q.2.1 = ((36 : Nat) : Int)) := by decide
theorem nr_60_37 : ∀ q ∈ fRefs, ¬ (q.1 = 60 ∧ q.2.1 = ((37 : Nat) : Int)) := by decide
theorem nr_60_38 : ∀ q ∈ fRefs, ¬ (q.1 = 60 ∧ q.2.1 = ((38 : Nat) : Int)) := by decide
theorem nr_60_39 : ∀ q ∈ fRefs, ¬ (q.1 = 60 ∧ q.2.1 = ((39 : Nat) : Int)) := by decide
theorem nr_60_40 : ∀ q ∈ fRefs, ¬ (q.1 = 60 ∧ q.2.1 = ((40 : Nat) : Int)) := by decide
theorem nr_60_42 : ∀ q ∈ fRefs, ¬ (q.1 = 60 ∧ q.2.1 = ((42 : Nat) : Int)) := by decide
theorem nr_60_43 : ∀ q ∈ fRefs, ¬ (q.1 = 60 ∧ q.2.1 = ((43 : Nat) : Int)) := by decide
theorem nr_60_44 : ∀ q ∈ fRefs, ¬ (q.1 = 60 ∧ q.2.1 = ((44 : Nat) : Int)) := by decide
theorem nr_60_45 : ∀ q ∈ fRefs, ¬ (q.1 = 60 ∧ q.2.1 = ((45 : Nat) : Int)) := by decide
theorem nr_60_51 : ∀ q ∈ fRefs, ¬ (q.1 = 60 ∧ q.2.1 = ((51 : Nat) : Int)) := by decide
theorem nr_60_52 : ∀ q ∈ fRefs, ¬ (q.1 = 60 ∧ q.2.1 = ((52 : Nat) : Int)) := by decide
theorem nr_60_54 : ∀ q ∈ fRefs, ¬ (q.1 = 60 ∧ q.2.1 = ((54 : Nat) : Int)) := by decide
theorem nr_60_55 : ∀ q ∈ fRefs, ¬ (q.1 = 60 ∧ q.2.1 = ((55 : Nat) : Int)) := by decide
theorem nr_60_56 : ∀ q ∈ fRefs, ¬ (q.1 = 60 ∧ q.2.1 = ((56 : Nat) : Int)) := by decide
theorem clr0 {f f' : FI} {n : Nat} (hc : f'.2.2.2.2.cells = 0) (hs : f'.2.2.2.2.slots = 0) (h1 : f'.2.2.2.2.frames + 1 ≤ f.2.2.2.2.frames) (h2 : 8 + (f'.2.2.1 + 11) + f'.2.2.2.2.locals ≤ f.2.2.2.2.locals) : CLr f f' n n := by
  unfold CLr
  rw [hc, hs]
  refine ⟨⟨h1, h2⟩, ⟨by omega, by omega⟩, rfl⟩
abbrev fi_X0_init : FI := (yX0_init, cX0_init, 1, none, { frames := 1, cells := 2, slots := 20, locals := 20 })
set_option maxRecDepth 100000 in
theorem cb_X0_init : CLb fi_X0_init 0 := ⟨tbl_mem 165 (by rfl) rfl, tbl_mem 80 (by decide +kernel) rfl, by decide +kernel, by decide +kernel⟩
abbrev fi_X0_leastOf : FI := (yX0_leastOf, cX0_leastOf, 3, some .int, { frames := 0, cells := 0, slots := 0, locals := 0 })
set_option maxRecDepth 100000 in
theorem cb_X0_leastOf : CLb fi_X0_leastOf 2 := ⟨tbl_mem 527 (by rfl) rfl, tbl_mem 80 (by decide +kernel) rfl, by decide +kernel, by decide +kernel⟩
abbrev fi_X0_greatestOf : FI := (yX0_greatestOf, cX0_greatestOf, 3, some .int, { frames := 0, cells := 0, slots := 0, locals := 0 })
set_option maxRecDepth 100000 in
theorem cb_X0_greatestOf : CLb fi_X0_greatestOf 2 := ⟨tbl_mem 515 (by rfl) rfl, tbl_mem 80 (by decide +kernel) rfl, by decide +kernel, by decide +kernel⟩
abbrev fi_X1_init : FI := (yX1_init, cX1_init, 1, none, { frames := 1, cells := 13, slots := 704, locals := 20 })
set_option maxRecDepth 100000 in
theorem cb_X1_init : CLb fi_X1_init 0 := ⟨tbl_mem 211 (by rfl) rfl, tbl_mem 82 (by decide +kernel) rfl, by decide +kernel, by decide +kernel⟩
abbrev fi_X1_clear : FI := (yX1_clear, cX1_clear, 2, none, { frames := 0, cells := 0, slots := 0, locals := 0 })
set_option maxRecDepth 100000 in
theorem cb_X1_clear : CLb fi_X1_clear 0 := ⟨tbl_mem 557 (by rfl) rfl, tbl_mem 82 (by decide +kernel) rfl, by decide +kernel, by decide +kernel⟩
abbrev fi_X1_tie : FI := (yX1_tie, cX1_tie, 5, none, { frames := 0, cells := 0, slots := 0, locals := 0 })
set_option maxRecDepth 100000 in
theorem cb_X1_tie : CLb fi_X1_tie 4 := ⟨tbl_mem 561 (by rfl) rfl, tbl_mem 82 (by decide +kernel) rfl, by decide +kernel, by decide +kernel⟩
abbrev fi_X1_span : FI := (yX1_span, cX1_span, 4, none, { frames := 0, cells := 0, slots := 0, locals := 0 })
set_option maxRecDepth 100000 in
theorem cb_X1_span : CLb fi_X1_span 3 := ⟨tbl_mem 565 (by rfl) rfl, tbl_mem 82 (by decide +kernel) rfl, by decide +kernel, by decide +kernel⟩
abbrev fi_X1_leaveOut : FI := (yX1_leaveOut, cX1_leaveOut, 5, none, { frames := 0, cells := 0, slots := 0, locals := 0 })
set_option maxRecDepth 100000 in
theorem cb_X1_leaveOut : CLb fi_X1_leaveOut 3 := ⟨tbl_mem 569 (by rfl) rfl, tbl_mem 82 (by decide +kernel) rfl, by decide +kernel, by decide +kernel⟩
abbrev fi_X1_widen : FI := (yX1_widen, cX1_widen, 2, none, { frames := 0, cells := 0, slots := 0, locals := 0 })
set_option maxRecDepth 100000 in
theorem cb_X1_widen : CLb fi_X1_widen 1 := ⟨tbl_mem 814 (by rfl) rfl, tbl_mem 82 (by decide +kernel) rfl, by decide +kernel, by decide +kernel⟩
abbrev fi_X1_quarrels : FI := (yX1_quarrels, cX1_quarrels, 1, some .boolean, { frames := 3, cells := 0, slots := 0, locals := 72 })
set_option maxRecDepth 100000 in
theorem cb_X1_quarrels : CLb fi_X1_quarrels 0 := ⟨tbl_mem 573 (by rfl) rfl, tbl_mem 82 (by decide +kernel) rfl, by decide +kernel, by decide +kernel⟩
abbrev fi_X1_findRing : FI := (yX1_findRing, cX1_findRing, 5, some .int, { frames := 3, cells := 0, slots := 0, locals := 72 })
set_option maxRecDepth 100000 in
theorem cb_X1_findRing : CLb fi_X1_findRing 1 := ⟨tbl_mem 835 (by rfl) rfl, tbl_mem 82 (by decide +kernel) rfl, by decide +kernel, by decide +kernel⟩
abbrev fi_X1_findUnrest : FI := (yX1_findUnrest, cX1_findUnrest, 3, some .int, { frames := 2, cells := 0, slots := 0, locals := 50 })
set_option maxRecDepth 100000 in
theorem cb_X1_findUnrest : CLb fi_X1_findUnrest 0 := ⟨tbl_mem 577 (by rfl) rfl, tbl_mem 82 (by decide +kernel) rfl, by decide +kernel, by decide +kernel⟩
abbrev fi_X1_reach : FI := (yX1_reach, cX1_reach, 5, none, { frames := 2, cells := 0, slots := 0, locals := 50 })
set_option maxRecDepth 100000 in
theorem cb_X1_reach : CLb fi_X1_reach 2 := ⟨tbl_mem 590 (by rfl) rfl, tbl_mem 82 (by decide +kernel) rfl, by decide +kernel, by decide +kernel⟩
abbrev fi_X1_isReached : FI := (yX1_isReached, cX1_isReached, 2, some .boolean, { frames := 0, cells := 0, slots := 0, locals := 0 })
set_option maxRecDepth 100000 in
theorem cb_X1_isReached : CLb fi_X1_isReached 1 := ⟨tbl_mem 594 (by rfl) rfl, tbl_mem 82 (by decide +kernel) rfl, by decide +kernel, by decide +kernel⟩
abbrev fi_X1_bound : FI := (yX1_bound, cX1_bound, 3, some .int, { frames := 0, cells := 0, slots := 0, locals := 0 })
set_option maxRecDepth 100000 in
theorem cb_X1_bound : CLb fi_X1_bound 2 := ⟨tbl_mem 796 (by rfl) rfl, tbl_mem 82 (by decide +kernel) rfl, by decide +kernel, by decide +kernel⟩
abbrev fi_X1_markWay : FI := (yX1_markWay, cX1_markWay, 4, none, { frames := 1, cells := 0, slots := 0, locals := 22 })
set_option maxRecDepth 100000 in
theorem cb_X1_markWay : CLb fi_X1_markWay 1 := ⟨tbl_mem 877 (by rfl) rfl, tbl_mem 82 (by decide +kernel) rfl, by decide +kernel, by decide +kernel⟩
abbrev fi_X1_findEnds : FI := (yX1_findEnds, cX1_findEnds, 2, none, { frames := 3, cells := 0, slots := 0, locals := 74 })
set_option maxRecDepth 100000 in
theorem cb_X1_findEnds : CLb fi_X1_findEnds 0 := ⟨tbl_mem 861 (by rfl) rfl, tbl_mem 82 (by decide +kernel) rfl, by decide +kernel, by decide +kernel⟩
abbrev fi_X1_liesWithinFar : FI := (yX1_liesWithinFar, cX1_liesWithinFar, 2, some .boolean, { frames := 0, cells := 0, slots := 0, locals := 0 })
set_option maxRecDepth 100000 in
theorem cb_X1_liesWithinFar : CLb fi_X1_liesWithinFar 1 := ⟨tbl_mem 931 (by rfl) rfl, tbl_mem 82 (by decide +kernel) rfl, by decide +kernel, by decide +kernel⟩
abbrev fi_X1_otherEnd : FI := (yX1_otherEnd, cX1_otherEnd, 3, some .int, { frames := 0, cells := 0, slots := 0, locals := 0 })
set_option maxRecDepth 100000 in
theorem cb_X1_otherEnd : CLb fi_X1_otherEnd 2 := ⟨tbl_mem 839 (by rfl) rfl, tbl_mem 82 (by decide +kernel) rfl, by decide +kernel, by decide +kernel⟩
abbrev fi_X1_relaxAll : FI := (yX1_relaxAll, cX1_relaxAll, 7, some .int, { frames := 1, cells := 0, slots := 0, locals := 24 })
set_option maxRecDepth 100000 in
theorem cb_X1_relaxAll : CLb fi_X1_relaxAll 1 := ⟨tbl_mem 581 (by rfl) rfl, tbl_mem 82 (by decide +kernel) rfl, by decide +kernel, by decide +kernel⟩
abbrev fi_X1_relax : FI := (yX1_relax, cX1_relax, 5, some .boolean, { frames := 0, cells := 0, slots := 0, locals := 0 })
set_option maxRecDepth 100000 in
theorem cb_X1_relax : CLb fi_X1_relax 4 := ⟨tbl_mem 585 (by rfl) rfl, tbl_mem 82 (by decide +kernel) rfl, by decide +kernel, by decide +kernel⟩
abbrev fi_X2_init : FI := (yX2_init, cX2_init, 1, none, { frames := 1, cells := 2, slots := 245, locals := 20 })
set_option maxRecDepth 100000 in
theorem cb_X2_init : CLb fi_X2_init 0 := ⟨tbl_mem 180 (by rfl) rfl, tbl_mem 81 (by decide +kernel) rfl, by decide +kernel, by decide +kernel⟩
abbrev fi_X2_append : FI := (yX2_append, cX2_append, 2, none, { frames := 0, cells := 0, slots := 0, locals := 0 })
set_option maxRecDepth 100000 in
theorem cb_X2_append : CLb fi_X2_append 1 := ⟨tbl_mem 602 (by rfl) rfl, tbl_mem 81 (by decide +kernel) rfl, by decide +kernel, by decide +kernel⟩
abbrev fi_X2_readInto : FI := (yX2_readInto, cX2_readInto, 4, some .int, { frames := 9, cells := 0, slots := 0, locals := 193 })
set_option maxRecDepth 100000 in
theorem cb_X2_readInto : CLb fi_X2_readInto 1 := ⟨tbl_mem 610 (by rfl) rfl, tbl_mem 81 (by decide +kernel) rfl, by decide +kernel, by decide +kernel⟩
abbrev fi_X2_mayBegin : FI := (yX2_mayBegin, cX2_mayBegin, 4, some .boolean, { frames := 6, cells := 0, slots := 0, locals := 128 })
set_option maxRecDepth 100000 in
theorem cb_X2_mayBegin : CLb fi_X2_mayBegin 2 := ⟨tbl_mem 622 (by rfl) rfl, tbl_mem 81 (by decide +kernel) rfl, by decide +kernel, by decide +kernel⟩
abbrev fi_X2_readClause : FI := (yX2_readClause, cX2_readClause, 2, some .boolean, { frames := 8, cells := 0, slots := 0, locals := 172 })
set_option maxRecDepth 100000 in
theorem cb_X2_readClause : CLb fi_X2_readClause 1 := ⟨tbl_mem 694 (by rfl) rfl, tbl_mem 81 (by decide +kernel) rfl, by decide +kernel, by decide +kernel⟩
abbrev fi_X2_readSort : FI := (yX2_readSort, cX2_readSort, 3, some .boolean, { frames := 7, cells := 0, slots := 0, locals := 149 })
set_option maxRecDepth 100000 in
theorem cb_X2_readSort : CLb fi_X2_readSort 1 := ⟨tbl_mem 702 (by rfl) rfl, tbl_mem 81 (by decide +kernel) rfl, by decide +kernel, by decide +kernel⟩
abbrev fi_X2_readDust : FI := (yX2_readDust, cX2_readDust, 3, some .boolean, { frames := 7, cells := 0, slots := 0, locals := 149 })
set_option maxRecDepth 100000 in
theorem cb_X2_readDust : CLb fi_X2_readDust 1 := ⟨tbl_mem 749 (by rfl) rfl, tbl_mem 81 (by decide +kernel) rfl, by decide +kernel, by decide +kernel⟩
abbrev fi_X2_readBlur : FI := (yX2_readBlur, cX2_readBlur, 3, some .boolean, { frames := 7, cells := 0, slots := 0, locals := 149 })
set_option maxRecDepth 100000 in
theorem cb_X2_readBlur : CLb fi_X2_readBlur 1 := ⟨tbl_mem 753 (by rfl) rfl, tbl_mem 81 (by decide +kernel) rfl, by decide +kernel, by decide +kernel⟩
abbrev fi_X2_readOwn : FI := (yX2_readOwn, cX2_readOwn, 3, some .boolean, { frames := 3, cells := 0, slots := 0, locals := 70 })
set_option maxRecDepth 100000 in
theorem cb_X2_readOwn : CLb fi_X2_readOwn 1 := ⟨tbl_mem 758 (by rfl) rfl, tbl_mem 81 (by decide +kernel) rfl, by decide +kernel, by decide +kernel⟩
abbrev fi_X2_readClaim : FI := (yX2_readClaim, cX2_readClaim, 4, some .boolean, { frames := 7, cells := 0, slots := 0, locals := 149 })
set_option maxRecDepth 100000 in
theorem cb_X2_readClaim : CLb fi_X2_readClaim 1 := ⟨tbl_mem 762 (by rfl) rfl, tbl_mem 81 (by decide +kernel) rfl, by decide +kernel, by decide +kernel⟩
abbrev fi_X2_readEnd : FI := (yX2_readEnd, cX2_readEnd, 1, some .boolean, { frames := 1, cells := 0, slots := 0, locals := 22 })
set_option maxRecDepth 100000 in
theorem cb_X2_readEnd : CLb fi_X2_readEnd 0 := ⟨tbl_mem 737 (by rfl) rfl, tbl_mem 81 (by decide +kernel) rfl, by decide +kernel, by decide +kernel⟩
abbrev fi_X2_readWord : FI := (yX2_readWord, cX2_readWord, 2, some .boolean, { frames := 6, cells := 0, slots := 0, locals := 128 })
set_option maxRecDepth 100000 in
theorem cb_X2_readWord : CLb fi_X2_readWord 1 := ⟨tbl_mem 723 (by rfl) rfl, tbl_mem 81 (by decide +kernel) rfl, by decide +kernel, by decide +kernel⟩
abbrev fi_X2_tookWord : FI := (yX2_tookWord, cX2_tookWord, 2, some .boolean, { frames := 6, cells := 0, slots := 0, locals := 128 })
set_option maxRecDepth 100000 in
theorem cb_X2_tookWord : CLb fi_X2_tookWord 1 := ⟨tbl_mem 698 (by rfl) rfl, tbl_mem 81 (by decide +kernel) rfl, by decide +kernel, by decide +kernel⟩
abbrev fi_X2_isWord : FI := (yX2_isWord, cX2_isWord, 3, some .boolean, { frames := 5, cells := 0, slots := 0, locals := 106 })
set_option maxRecDepth 100000 in
theorem cb_X2_isWord : CLb fi_X2_isWord 1 := ⟨tbl_mem 627 (by rfl) rfl, tbl_mem 81 (by decide +kernel) rfl, by decide +kernel, by decide +kernel⟩
abbrev fi_X2_readNumber : FI := (yX2_readNumber, cX2_readNumber, 3, some .boolean, { frames := 2, cells := 0, slots := 0, locals := 48 })
set_option maxRecDepth 100000 in
theorem cb_X2_readNumber : CLb fi_X2_readNumber 2 := ⟨tbl_mem 706 (by rfl) rfl, tbl_mem 81 (by decide +kernel) rfl, by decide +kernel, by decide +kernel⟩
abbrev fi_X2_readSigned : FI := (yX2_readSigned, cX2_readSigned, 4, some .boolean, { frames := 2, cells := 0, slots := 0, locals := 48 })
set_option maxRecDepth 100000 in
theorem cb_X2_readSigned : CLb fi_X2_readSigned 2 := ⟨tbl_mem 727 (by rfl) rfl, tbl_mem 81 (by decide +kernel) rfl, by decide +kernel, by decide +kernel⟩
abbrev fi_X2_readFigures : FI := (yX2_readFigures, cX2_readFigures, 7, some .boolean, { frames := 1, cells := 0, slots := 0, locals := 22 })
set_option maxRecDepth 100000 in
theorem cb_X2_readFigures : CLb fi_X2_readFigures 3 := ⟨tbl_mem 710 (by rfl) rfl, tbl_mem 81 (by decide +kernel) rfl, by decide +kernel, by decide +kernel⟩
abbrev fi_X2_keep : FI := (yX2_keep, cX2_keep, 2, none, { frames := 0, cells := 0, slots := 0, locals := 0 })
set_option maxRecDepth 100000 in
theorem cb_X2_keep : CLb fi_X2_keep 1 := ⟨tbl_mem 718 (by rfl) rfl, tbl_mem 81 (by decide +kernel) rfl, by decide +kernel, by decide +kernel⟩
abbrev fi_X2_latest : FI := (yX2_latest, cX2_latest, 1, some .int, { frames := 0, cells := 0, slots := 0, locals := 0 })
set_option maxRecDepth 100000 in
theorem cb_X2_latest : CLb fi_X2_latest 0 := ⟨tbl_mem 732 (by rfl) rfl, tbl_mem 81 (by decide +kernel) rfl, by decide +kernel, by decide +kernel⟩
abbrev fi_X2_skipBlanks : FI := (yX2_skipBlanks, cX2_skipBlanks, 1, none, { frames := 0, cells := 0, slots := 0, locals := 0 })
set_option maxRecDepth 100000 in
theorem cb_X2_skipBlanks : CLb fi_X2_skipBlanks 0 := ⟨tbl_mem 618 (by rfl) rfl, tbl_mem 81 (by decide +kernel) rfl, by decide +kernel, by decide +kernel⟩
abbrev fi_X2_byteAt : FI := (yX2_byteAt, cX2_byteAt, 2, some .int, { frames := 0, cells := 0, slots := 0, locals := 0 })
set_option maxRecDepth 100000 in
theorem cb_X2_byteAt : CLb fi_X2_byteAt 1 := ⟨tbl_mem 641 (by rfl) rfl, tbl_mem 81 (by decide +kernel) rfl, by decide +kernel, by decide +kernel⟩
abbrev fi_X2_isLetter : FI := (yX2_isLetter, cX2_isLetter, 1, some .boolean, { frames := 0, cells := 0, slots := 0, locals := 0 })
set_option maxRecDepth 100000 in
theorem cb_X2_isLetter : CLb fi_X2_isLetter 1 := ⟨tbl_mem 682 (by rfl) rfl, tbl_mem 81 (by decide +kernel) rfl, by decide +kernel, by decide +kernel⟩
abbrev fi_X2_isFigure : FI := (yX2_isFigure, cX2_isFigure, 1, some .boolean, { frames := 0, cells := 0, slots := 0, locals := 0 })
set_option maxRecDepth 100000 in
theorem cb_X2_isFigure : CLb fi_X2_isFigure 1 := ⟨tbl_mem 713 (by rfl) rfl, tbl_mem 81 (by decide +kernel) rfl, by decide +kernel, by decide +kernel⟩
abbrev fi_X2_fail : FI := (yX2_fail, cX2_fail, 3, some .boolean, { frames := 0, cells := 0, slots := 0, locals := 0 })
set_option maxRecDepth 100000 in
theorem cb_X2_fail : CLb fi_X2_fail 2 := ⟨tbl_mem 690 (by rfl) rfl, tbl_mem 81 (by decide +kernel) rfl, by decide +kernel, by decide +kernel⟩
abbrev fi_X3_init : FI := (yX3_init, cX3_init, 1, none, { frames := 1, cells := 8, slots := 54, locals := 20 })
set_option maxRecDepth 100000 in
theorem cb_X3_init : CLb fi_X3_init 0 := ⟨tbl_mem 318 (by rfl) rfl, tbl_mem 85 (by decide +kernel) rfl, by decide +kernel, by decide +kernel⟩
abbrev fi_X3_setAsAtFirst : FI := (yX3_setAsAtFirst, cX3_setAsAtFirst, 2, none, { frames := 0, cells := 0, slots := 0, locals := 0 })
set_option maxRecDepth 100000 in
theorem cb_X3_setAsAtFirst : CLb fi_X3_setAsAtFirst 0 := ⟨tbl_mem 614 (by rfl) rfl, tbl_mem 85 (by decide +kernel) rfl, by decide +kernel, by decide +kernel⟩
abbrev fi_X3_setTime : FI := (yX3_setTime, cX3_setTime, 4, none, { frames := 0, cells := 0, slots := 0, locals := 0 })
set_option maxRecDepth 100000 in
theorem cb_X3_setTime : CLb fi_X3_setTime 3 := ⟨tbl_mem 741 (by rfl) rfl, tbl_mem 85 (by decide +kernel) rfl, by decide +kernel, by decide +kernel⟩
abbrev fi_X3_setColour : FI := (yX3_setColour, cX3_setColour, 4, none, { frames := 0, cells := 0, slots := 0, locals := 0 })
set_option maxRecDepth 100000 in
theorem cb_X3_setColour : CLb fi_X3_setColour 3 := ⟨tbl_mem 745 (by rfl) rfl, tbl_mem 85 (by decide +kernel) rfl, by decide +kernel, by decide +kernel⟩
abbrev fi_X3_addClaim : FI := (yX3_addClaim, cX3_addClaim, 4, none, { frames := 0, cells := 0, slots := 0, locals := 0 })
set_option maxRecDepth 100000 in
theorem cb_X3_addClaim : CLb fi_X3_addClaim 3 := ⟨tbl_mem 770 (by rfl) rfl, tbl_mem 85 (by decide +kernel) rfl, by decide +kernel, by decide +kernel⟩
abbrev fi_X3_evenGreatest : FI := (yX3_evenGreatest, cX3_evenGreatest, 5, some .int, { frames := 0, cells := 0, slots := 0, locals := 0 })
set_option maxRecDepth 100000 in
theorem cb_X3_evenGreatest : CLb fi_X3_evenGreatest 3 := ⟨tbl_mem 508 (by rfl) rfl, tbl_mem 85 (by decide +kernel) rfl, by decide +kernel, by decide +kernel⟩
abbrev fi_X3_evenLeast : FI := (yX3_evenLeast, cX3_evenLeast, 5, some .int, { frames := 0, cells := 0, slots := 0, locals := 0 })
set_option maxRecDepth 100000 in
theorem cb_X3_evenLeast : CLb fi_X3_evenLeast 3 := ⟨tbl_mem 523 (by rfl) rfl, tbl_mem 85 (by decide +kernel) rfl, by decide +kernel, by decide +kernel⟩
abbrev fi_X4_init : FI := (yX4_init, cX4_init, 1, none, { frames := 1, cells := 2, slots := 34, locals := 20 })
set_option maxRecDepth 100000 in
theorem cb_X4_init : CLb fi_X4_init 0 := ⟨tbl_mem 269 (by rfl) rfl, tbl_mem 83 (by decide +kernel) rfl, by decide +kernel, by decide +kernel⟩
abbrev fi_X4_leastWidening : FI := (yX4_leastWidening, cX4_leastWidening, 4, some .int, { frames := 4, cells := 0, slots := 0, locals := 92 })
set_option maxRecDepth 100000 in
theorem cb_X4_leastWidening : CLb fi_X4_leastWidening 1 := ⟨tbl_mem 808 (by rfl) rfl, tbl_mem 83 (by decide +kernel) rfl, by decide +kernel, by decide +kernel⟩
abbrev fi_X4_listsThatEndIt : FI := (yX4_listsThatEndIt, cX4_listsThatEndIt, 4, some .int, { frames := 4, cells := 0, slots := 0, locals := 92 })
set_option maxRecDepth 100000 in
theorem cb_X4_listsThatEndIt : CLb fi_X4_listsThatEndIt 1 := ⟨tbl_mem 822 (by rfl) rfl, tbl_mem 83 (by decide +kernel) rfl, by decide +kernel, by decide +kernel⟩
abbrev fi_X4_seekFewest : FI := (yX4_seekFewest, cX4_seekFewest, 4, none, { frames := 5, cells := 0, slots := 0, locals := 122 })
set_option maxRecDepth 100000 in
theorem cb_X4_seekFewest : CLb fi_X4_seekFewest 1 := ⟨tbl_mem 831 (by rfl) rfl, tbl_mem 83 (by decide +kernel) rfl, by decide +kernel, by decide +kernel⟩
abbrev fi_X4_seekPairs : FI := (yX4_seekPairs, cX4_seekPairs, 7, none, { frames := 4, cells := 0, slots := 0, locals := 96 })
set_option maxRecDepth 100000 in
theorem cb_X4_seekPairs : CLb fi_X4_seekPairs 2 := ⟨tbl_mem 843 (by rfl) rfl, tbl_mem 83 (by decide +kernel) rfl, by decide +kernel, by decide +kernel⟩
abbrev fi_X4_isAhead : FI := (yX4_isAhead, cX4_isAhead, 3, some .boolean, { frames := 0, cells := 0, slots := 0, locals := 0 })
set_option maxRecDepth 100000 in
theorem cb_X4_isAhead : CLb fi_X4_isAhead 2 := ⟨tbl_mem 853 (by rfl) rfl, tbl_mem 83 (by decide +kernel) rfl, by decide +kernel, by decide +kernel⟩
abbrev fi_X5_init : FI := (yX5_init, cX5_init, 1, none, { frames := 1, cells := 12, slots := 890, locals := 20 })
set_option maxRecDepth 100000 in
theorem cb_X5_init : CLb fi_X5_init 0 := ⟨tbl_mem 104 (by rfl) rfl, tbl_mem 79 (by decide +kernel) rfl, by decide +kernel, by decide +kernel⟩
abbrev fi_X5_isFull : FI := (yX5_isFull, cX5_isFull, 1, some .boolean, { frames := 0, cells := 0, slots := 0, locals := 0 })
set_option maxRecDepth 100000 in
theorem cb_X5_isFull : CLb fi_X5_isFull 0 := ⟨tbl_mem 431 (by rfl) rfl, tbl_mem 79 (by decide +kernel) rfl, by decide +kernel, by decide +kernel⟩
abbrev fi_X5_has : FI := (yX5_has, cX5_has, 2, some .boolean, { frames := 0, cells := 0, slots := 0, locals := 0 })
set_option maxRecDepth 100000 in
theorem cb_X5_has : CLb fi_X5_has 1 := ⟨tbl_mem 445 (by rfl) rfl, tbl_mem 79 (by decide +kernel) rfl, by decide +kernel, by decide +kernel⟩
abbrev fi_X5_isInNet : FI := (yX5_isInNet, cX5_isInNet, 2, some .boolean, { frames := 0, cells := 0, slots := 0, locals := 0 })
set_option maxRecDepth 100000 in
theorem cb_X5_isInNet : CLb fi_X5_isInNet 1 := ⟨tbl_mem 500 (by rfl) rfl, tbl_mem 79 (by decide +kernel) rfl, by decide +kernel, by decide +kernel⟩
abbrev fi_X5_add : FI := (yX5_add, cX5_add, 8, some .int, { frames := 0, cells := 0, slots := 0, locals := 0 })
set_option maxRecDepth 100000 in
theorem cb_X5_add : CLb fi_X5_add 6 := ⟨tbl_mem 436 (by rfl) rfl, tbl_mem 79 (by decide +kernel) rfl, by decide +kernel, by decide +kernel⟩
abbrev fi_X5_dress : FI := (yX5_dress, cX5_dress, 4, none, { frames := 1, cells := 0, slots := 0, locals := 21 })
set_option maxRecDepth 100000 in
theorem cb_X5_dress : CLb fi_X5_dress 3 := ⟨tbl_mem 441 (by rfl) rfl, tbl_mem 79 (by decide +kernel) rfl, by decide +kernel, by decide +kernel⟩
abbrev fi_X5_takeBack : FI := (yX5_takeBack, cX5_takeBack, 2, some .int, { frames := 0, cells := 0, slots := 0, locals := 0 })
set_option maxRecDepth 100000 in
theorem cb_X5_takeBack : CLb fi_X5_takeBack 0 := ⟨tbl_mem 483 (by rfl) rfl, tbl_mem 79 (by decide +kernel) rfl, by decide +kernel, by decide +kernel⟩
abbrev fi_X5_putBack : FI := (yX5_putBack, cX5_putBack, 2, some .int, { frames := 0, cells := 0, slots := 0, locals := 0 })
set_option maxRecDepth 100000 in
theorem cb_X5_putBack : CLb fi_X5_putBack 0 := ⟨tbl_mem 492 (by rfl) rfl, tbl_mem 79 (by decide +kernel) rfl, by decide +kernel, by decide +kernel⟩
abbrev fi_X5_howMany : FI := (yX5_howMany, cX5_howMany, 4, some .int, { frames := 2, cells := 0, slots := 0, locals := 43 })
set_option maxRecDepth 100000 in
theorem cb_X5_howMany : CLb fi_X5_howMany 1 := ⟨tbl_mem 535 (by rfl) rfl, tbl_mem 79 (by decide +kernel) rfl, by decide +kernel, by decide +kernel⟩
abbrev fi_X5_isOne : FI := (yX5_isOne, cX5_isOne, 3, some .boolean, { frames := 1, cells := 0, slots := 0, locals := 21 })
set_option maxRecDepth 100000 in
theorem cb_X5_isOne : CLb fi_X5_isOne 2 := ⟨tbl_mem 539 (by rfl) rfl, tbl_mem 79 (by decide +kernel) rfl, by decide +kernel, by decide +kernel⟩
abbrev fi_X5_fewestLights : FI := (yX5_fewestLights, cX5_fewestLights, 4, some .int, { frames := 2, cells := 0, slots := 0, locals := 43 })
set_option maxRecDepth 100000 in
theorem cb_X5_fewestLights : CLb fi_X5_fewestLights 1 := ⟨tbl_mem 885 (by rfl) rfl, tbl_mem 79 (by decide +kernel) rfl, by decide +kernel, by decide +kernel⟩
abbrev fi_X5_noteSortsOfHomes : FI := (yX5_noteSortsOfHomes, cX5_noteSortsOfHomes, 2, none, { frames := 1, cells := 0, slots := 0, locals := 21 })
set_option maxRecDepth 100000 in
theorem cb_X5_noteSortsOfHomes : CLb fi_X5_noteSortsOfHomes 0 := ⟨tbl_mem 889 (by rfl) rfl, tbl_mem 79 (by decide +kernel) rfl, by decide +kernel, by decide +kernel⟩
abbrev fi_X5_homesWithShift : FI := (yX5_homesWithShift, cX5_homesWithShift, 3, some .int, { frames := 1, cells := 0, slots := 0, locals := 21 })
set_option maxRecDepth 100000 in
theorem cb_X5_homesWithShift : CLb fi_X5_homesWithShift 0 := ⟨tbl_mem 893 (by rfl) rfl, tbl_mem 79 (by decide +kernel) rfl, by decide +kernel, by decide +kernel⟩
abbrev fi_X5_oneStepOn : FI := (yX5_oneStepOn, cX5_oneStepOn, 5, some .int, { frames := 0, cells := 0, slots := 0, locals := 0 })
set_option maxRecDepth 100000 in
theorem cb_X5_oneStepOn : CLb fi_X5_oneStepOn 1 := ⟨tbl_mem 897 (by rfl) rfl, tbl_mem 79 (by decide +kernel) rfl, by decide +kernel, by decide +kernel⟩
abbrev fi_X6_init : FI := (yX6_init, cX6_init, 2, none, { frames := 1, cells := 4, slots := 40, locals := 20 })
set_option maxRecDepth 100000 in
theorem cb_X6_init : CLb fi_X6_init 0 := ⟨tbl_mem 294 (by rfl) rfl, tbl_mem 84 (by decide +kernel) rfl, by decide +kernel, by decide +kernel⟩
abbrev fi_X6_atLeast : FI := (yX6_atLeast, cX6_atLeast, 2, some .long, { frames := 1, cells := 0, slots := 0, locals := 23 })
set_option maxRecDepth 100000 in
theorem cb_X6_atLeast : CLb fi_X6_atLeast 1 := ⟨tbl_mem 908 (by rfl) rfl, tbl_mem 84 (by decide +kernel) rfl, by decide +kernel, by decide +kernel⟩
abbrev fi_X6_atMost : FI := (yX6_atMost, cX6_atMost, 4, some .long, { frames := 2, cells := 0, slots := 0, locals := 44 })
set_option maxRecDepth 100000 in
theorem cb_X6_atMost : CLb fi_X6_atMost 1 := ⟨tbl_mem 917 (by rfl) rfl, tbl_mem 84 (by decide +kernel) rfl, by decide +kernel, by decide +kernel⟩
abbrev fi_X6_tenTimes : FI := (yX6_tenTimes, cX6_tenTimes, 4, some .long, { frames := 0, cells := 0, slots := 0, locals := 0 })
set_option maxRecDepth 100000 in
theorem cb_X6_tenTimes : CLb fi_X6_tenTimes 1 := ⟨tbl_mem 913 (by rfl) rfl, tbl_mem 84 (by decide +kernel) rfl, by decide +kernel, by decide +kernel⟩
abbrev fi_X6_hear : FI := (yX6_hear, cX6_hear, 4, none, { frames := 3, cells := 0, slots := 0, locals := 67 })
set_option maxRecDepth 100000 in
theorem cb_X6_hear : CLb fi_X6_hear 2 := ⟨tbl_mem 927 (by rfl) rfl, tbl_mem 84 (by decide +kernel) rfl, by decide +kernel, by decide +kernel⟩
abbrev fi_X6_howManySpeak : FI := (yX6_howManySpeak, cX6_howManySpeak, 3, some .int, { frames := 1, cells := 0, slots := 0, locals := 20 })
set_option maxRecDepth 100000 in
theorem cb_X6_howManySpeak : CLb fi_X6_howManySpeak 0 := ⟨tbl_mem 937 (by rfl) rfl, tbl_mem 84 (by decide +kernel) rfl, by decide +kernel, by decide +kernel⟩
abbrev fi_X6_keptBoxes : FI := (yX6_keptBoxes, cX6_keptBoxes, 6, some .int, { frames := 3, cells := 0, slots := 0, locals := 73 })
set_option maxRecDepth 100000 in
theorem cb_X6_keptBoxes : CLb fi_X6_keptBoxes 1 := ⟨tbl_mem 942 (by rfl) rfl, tbl_mem 84 (by decide +kernel) rfl, by decide +kernel, by decide +kernel⟩
abbrev fi_X6_firstAgainst : FI := (yX6_firstAgainst, cX6_firstAgainst, 3, some .int, { frames := 2, cells := 0, slots := 0, locals := 51 })
set_option maxRecDepth 100000 in
theorem cb_X6_firstAgainst : CLb fi_X6_firstAgainst 1 := ⟨tbl_mem 946 (by rfl) rfl, tbl_mem 84 (by decide +kernel) rfl, by decide +kernel, by decide +kernel⟩
abbrev fi_X6_couldHave : FI := (yX6_couldHave, cX6_couldHave, 7, some .boolean, { frames := 1, cells := 0, slots := 0, locals := 25 })
set_option maxRecDepth 100000 in
theorem cb_X6_couldHave : CLb fi_X6_couldHave 2 := ⟨tbl_mem 950 (by rfl) rfl, tbl_mem 84 (by decide +kernel) rfl, by decide +kernel, by decide +kernel⟩
abbrev fi_X7_init : FI := (yX7_init, cX7_init, 1, none, { frames := 2, cells := 59, slots := 2113, locals := 41 })
set_option maxRecDepth 100000 in
theorem cb_X7_init : CLb fi_X7_init 0 := ⟨tbl_mem 96 (by rfl) rfl, tbl_mem 78 (by decide +kernel) rfl, by decide +kernel, by decide +kernel⟩
abbrev fi_X7_light : FI := (yX7_light, cX7_light, 10, some .int, { frames := 2, cells := 0, slots := 0, locals := 44 })
set_option maxRecDepth 100000 in
theorem cb_X7_light : CLb fi_X7_light 7 := ⟨tbl_mem 413 (by rfl) rfl, tbl_mem 78 (by decide +kernel) rfl, by decide +kernel, by decide +kernel⟩
abbrev fi_X7_shift : FI := (yX7_shift, cX7_shift, 5, some .int, { frames := 2, cells := 0, slots := 0, locals := 42 })
set_option maxRecDepth 100000 in
theorem cb_X7_shift : CLb fi_X7_shift 4 := ⟨tbl_mem 449 (by rfl) rfl, tbl_mem 78 (by decide +kernel) rfl, by decide +kernel, by decide +kernel⟩
abbrev fi_X7_anchor : FI := (yX7_anchor, cX7_anchor, 5, some .int, { frames := 2, cells := 0, slots := 0, locals := 42 })
set_option maxRecDepth 100000 in
theorem cb_X7_anchor : CLb fi_X7_anchor 4 := ⟨tbl_mem 458 (by rfl) rfl, tbl_mem 78 (by decide +kernel) rfl, by decide +kernel, by decide +kernel⟩
abbrev fi_X7_redden : FI := (yX7_redden, cX7_redden, 4, some .int, { frames := 2, cells := 0, slots := 0, locals := 42 })
set_option maxRecDepth 100000 in
theorem cb_X7_redden : CLb fi_X7_redden 3 := ⟨tbl_mem 462 (by rfl) rfl, tbl_mem 78 (by decide +kernel) rfl, by decide +kernel, by decide +kernel⟩
abbrev fi_X7_redness : FI := (yX7_redness, cX7_redness, 4, some .int, { frames := 2, cells := 0, slots := 0, locals := 42 })
set_option maxRecDepth 100000 in
theorem cb_X7_redness : CLb fi_X7_redness 2 := ⟨tbl_mem 466 (by rfl) rfl, tbl_mem 78 (by decide +kernel) rfl, by decide +kernel, by decide +kernel⟩
abbrev fi_X7_leave : FI := (yX7_leave, cX7_leave, 4, some .int, { frames := 1, cells := 0, slots := 0, locals := 21 })
set_option maxRecDepth 100000 in
theorem cb_X7_leave : CLb fi_X7_leave 2 := ⟨tbl_mem 471 (by rfl) rfl, tbl_mem 78 (by decide +kernel) rfl, by decide +kernel, by decide +kernel⟩
abbrev fi_X7_undo : FI := (yX7_undo, cX7_undo, 2, some .int, { frames := 1, cells := 0, slots := 0, locals := 21 })
set_option maxRecDepth 100000 in
theorem cb_X7_undo : CLb fi_X7_undo 0 := ⟨tbl_mem 479 (by rfl) rfl, tbl_mem 78 (by decide +kernel) rfl, by decide +kernel, by decide +kernel⟩
abbrev fi_X7_redo : FI := (yX7_redo, cX7_redo, 2, some .int, { frames := 1, cells := 0, slots := 0, locals := 21 })
set_option maxRecDepth 100000 in
theorem cb_X7_redo : CLb fi_X7_redo 0 := ⟨tbl_mem 488 (by rfl) rfl, tbl_mem 78 (by decide +kernel) rfl, by decide +kernel, by decide +kernel⟩
abbrev fi_X7_told : FI := (yX7_told, cX7_told, 3, some .int, { frames := 2, cells := 0, slots := 0, locals := 48 })
set_option maxRecDepth 100000 in
theorem cb_X7_told : CLb fi_X7_told 2 := ⟨tbl_mem 496 (by rfl) rfl, tbl_mem 78 (by decide +kernel) rfl, by decide +kernel, by decide +kernel⟩
abbrev fi_X7_count : FI := (yX7_count, cX7_count, 2, some .int, { frames := 6, cells := 0, slots := 0, locals := 134 })
set_option maxRecDepth 100000 in
theorem cb_X7_count : CLb fi_X7_count 1 := ⟨tbl_mem 531 (by rfl) rfl, tbl_mem 78 (by decide +kernel) rfl, by decide +kernel, by decide +kernel⟩
abbrev fi_X7_feed : FI := (yX7_feed, cX7_feed, 5, some .int, { frames := 1, cells := 0, slots := 0, locals := 22 })
set_option maxRecDepth 100000 in
theorem cb_X7_feed : CLb fi_X7_feed 2 := ⟨tbl_mem 598 (by rfl) rfl, tbl_mem 78 (by decide +kernel) rfl, by decide +kernel, by decide +kernel⟩
abbrev fi_X7_read : FI := (yX7_read, cX7_read, 3, some .int, { frames := 10, cells := 0, slots := 0, locals := 216 })
set_option maxRecDepth 100000 in
theorem cb_X7_read : CLb fi_X7_read 0 := ⟨tbl_mem 606 (by rfl) rfl, tbl_mem 78 (by decide +kernel) rfl, by decide +kernel, by decide +kernel⟩
abbrev fi_X7_fault : FI := (yX7_fault, cX7_fault, 1, some .int, { frames := 0, cells := 0, slots := 0, locals := 0 })
set_option maxRecDepth 100000 in
theorem cb_X7_fault : CLb fi_X7_fault 0 := ⟨tbl_mem 775 (by rfl) rfl, tbl_mem 78 (by decide +kernel) rfl, by decide +kernel, by decide +kernel⟩
abbrev fi_X7_rule : FI := (yX7_rule, cX7_rule, 3, some .int, { frames := 2, cells := 0, slots := 0, locals := 42 })
set_option maxRecDepth 100000 in
theorem cb_X7_rule : CLb fi_X7_rule 2 := ⟨tbl_mem 779 (by rfl) rfl, tbl_mem 78 (by decide +kernel) rfl, by decide +kernel, by decide +kernel⟩
abbrev fi_X7_ends : FI := (yX7_ends, cX7_ends, 4, some .int, { frames := 4, cells := 0, slots := 0, locals := 92 })
set_option maxRecDepth 100000 in
theorem cb_X7_ends : CLb fi_X7_ends 3 := ⟨tbl_mem 783 (by rfl) rfl, tbl_mem 78 (by decide +kernel) rfl, by decide +kernel, by decide +kernel⟩
abbrev fi_X7_between : FI := (yX7_between, cX7_between, 4, some .int, { frames := 5, cells := 0, slots := 0, locals := 112 })
set_option maxRecDepth 100000 in
theorem cb_X7_between : CLb fi_X7_between 3 := ⟨tbl_mem 800 (by rfl) rfl, tbl_mem 78 (by decide +kernel) rfl, by decide +kernel, by decide +kernel⟩
abbrev fi_X7_widening : FI := (yX7_widening, cX7_widening, 2, some .int, { frames := 5, cells := 0, slots := 0, locals := 115 })
set_option maxRecDepth 100000 in
theorem cb_X7_widening : CLb fi_X7_widening 1 := ⟨tbl_mem 804 (by rfl) rfl, tbl_mem 78 (by decide +kernel) rfl, by decide +kernel, by decide +kernel⟩
abbrev fi_X7_blame : FI := (yX7_blame, cX7_blame, 1, some .int, { frames := 5, cells := 0, slots := 0, locals := 115 })
set_option maxRecDepth 100000 in
theorem cb_X7_blame : CLb fi_X7_blame 0 := ⟨tbl_mem 818 (by rfl) rfl, tbl_mem 78 (by decide +kernel) rfl, by decide +kernel, by decide +kernel⟩
abbrev fi_X7_odd : FI := (yX7_odd, cX7_odd, 2, some .int, { frames := 6, cells := 0, slots := 0, locals := 145 })
set_option maxRecDepth 100000 in
theorem cb_X7_odd : CLb fi_X7_odd 1 := ⟨tbl_mem 827 (by rfl) rfl, tbl_mem 78 (by decide +kernel) rfl, by decide +kernel, by decide +kernel⟩
abbrev fi_X7_worth : FI := (yX7_worth, cX7_worth, 4, some .int, { frames := 5, cells := 0, slots := 0, locals := 112 })
set_option maxRecDepth 100000 in
theorem cb_X7_worth : CLb fi_X7_worth 2 := ⟨tbl_mem 857 (by rfl) rfl, tbl_mem 78 (by decide +kernel) rfl, by decide +kernel, by decide +kernel⟩
abbrev fi_X7_lead : FI := (yX7_lead, cX7_lead, 4, some .int, { frames := 5, cells := 0, slots := 0, locals := 112 })
set_option maxRecDepth 100000 in
theorem cb_X7_lead : CLb fi_X7_lead 3 := ⟨tbl_mem 869 (by rfl) rfl, tbl_mem 78 (by decide +kernel) rfl, by decide +kernel, by decide +kernel⟩
abbrev fi_X7_steps : FI := (yX7_steps, cX7_steps, 2, some .int, { frames := 3, cells := 0, slots := 0, locals := 66 })
set_option maxRecDepth 100000 in
theorem cb_X7_steps : CLb fi_X7_steps 1 := ⟨tbl_mem 881 (by rfl) rfl, tbl_mem 78 (by decide +kernel) rfl, by decide +kernel, by decide +kernel⟩
abbrev fi_X7_far : FI := (yX7_far, cX7_far, 3, some .long, { frames := 3, cells := 0, slots := 0, locals := 67 })
set_option maxRecDepth 100000 in
theorem cb_X7_far : CLb fi_X7_far 2 := ⟨tbl_mem 901 (by rfl) rfl, tbl_mem 78 (by decide +kernel) rfl, by decide +kernel, by decide +kernel⟩
abbrev fi_X7_boxes : FI := (yX7_boxes, cX7_boxes, 2, some .int, { frames := 5, cells := 0, slots := 0, locals := 112 })
set_option maxRecDepth 100000 in
theorem cb_X7_boxes : CLb fi_X7_boxes 1 := ⟨tbl_mem 923 (by rfl) rfl, tbl_mem 78 (by decide +kernel) rfl, by decide +kernel, by decide +kernel⟩
abbrev fi_X7_box : FI := (yX7_box, cX7_box, 2, some .int, { frames := 5, cells := 0, slots := 0, locals := 112 })
set_option maxRecDepth 100000 in
theorem cb_X7_box : CLb fi_X7_box 1 := ⟨tbl_mem 958 (by rfl) rfl, tbl_mem 78 (by decide +kernel) rfl, by decide +kernel, by decide +kernel⟩
abbrev fi_X7_delay : FI := (yX7_delay, cX7_delay, 10, some .long, { frames := 5, cells := 0, slots := 0, locals := 112 })
set_option maxRecDepth 100000 in
theorem cb_X7_delay : CLb fi_X7_delay 3 := ⟨tbl_mem 963 (by rfl) rfl, tbl_mem 78 (by decide +kernel) rfl, by decide +kernel, by decide +kernel⟩
abbrev fi_X7_blind : FI := (yX7_blind, cX7_blind, 2, some .int, { frames := 1, cells := 0, slots := 0, locals := 22 })
set_option maxRecDepth 100000 in
theorem cb_X7_blind : CLb fi_X7_blind 1 := ⟨tbl_mem 975 (by rfl) rfl, tbl_mem 78 (by decide +kernel) rfl, by decide +kernel, by decide +kernel⟩
abbrev fi_X7_open : FI := (yX7_open, cX7_open, 1, some .int, { frames := 0, cells := 0, slots := 0, locals := 0 })
set_option maxRecDepth 100000 in
theorem cb_X7_open : CLb fi_X7_open 0 := ⟨tbl_mem 979 (by rfl) rfl, tbl_mem 78 (by decide +kernel) rfl, by decide +kernel, by decide +kernel⟩
abbrev fi_X7_claim : FI := (yX7_claim, cX7_claim, 3, some .int, { frames := 6, cells := 0, slots := 0, locals := 139 })
set_option maxRecDepth 100000 in
theorem cb_X7_claim : CLb fi_X7_claim 2 := ⟨tbl_mem 983 (by rfl) rfl, tbl_mem 78 (by decide +kernel) rfl, by decide +kernel, by decide +kernel⟩
abbrev fi_X7_isFrom : FI := (yX7_isFrom, cX7_isFrom, 3, some .boolean, { frames := 0, cells := 0, slots := 0, locals := 0 })
set_option maxRecDepth 100000 in
theorem cb_X7_isFrom : CLb fi_X7_isFrom 3 := ⟨tbl_mem 419 (by rfl) rfl, tbl_mem 78 (by decide +kernel) rfl, by decide +kernel, by decide +kernel⟩
abbrev fi_X7_isList : FI := (yX7_isList, cX7_isList, 1, some .boolean, { frames := 1, cells := 0, slots := 0, locals := 22 })
set_option maxRecDepth 100000 in
theorem cb_X7_isList : CLb fi_X7_isList 1 := ⟨tbl_mem 416 (by rfl) rfl, tbl_mem 78 (by decide +kernel) rfl, by decide +kernel, by decide +kernel⟩
abbrev fi_X7_isSort : FI := (yX7_isSort, cX7_isSort, 1, some .boolean, { frames := 1, cells := 0, slots := 0, locals := 22 })
set_option maxRecDepth 100000 in
theorem cb_X7_isSort : CLb fi_X7_isSort 1 := ⟨tbl_mem 422 (by rfl) rfl, tbl_mem 78 (by decide +kernel) rfl, by decide +kernel, by decide +kernel⟩
abbrev fi_X7_isHome : FI := (yX7_isHome, cX7_isHome, 1, some .boolean, { frames := 1, cells := 0, slots := 0, locals := 22 })
set_option maxRecDepth 100000 in
theorem cb_X7_isHome : CLb fi_X7_isHome 1 := ⟨tbl_mem 425 (by rfl) rfl, tbl_mem 78 (by decide +kernel) rfl, by decide +kernel, by decide +kernel⟩
abbrev fi_X7_isEnd : FI := (yX7_isEnd, cX7_isEnd, 1, some .boolean, { frames := 0, cells := 0, slots := 0, locals := 0 })
set_option maxRecDepth 100000 in
theorem cb_X7_isEnd : CLb fi_X7_isEnd 1 := ⟨tbl_mem 790 (by rfl) rfl, tbl_mem 78 (by decide +kernel) rfl, by decide +kernel, by decide +kernel⟩
abbrev fi_X7_isFarness : FI := (yX7_isFarness, cX7_isFarness, 1, some .boolean, { frames := 1, cells := 0, slots := 0, locals := 22 })
set_option maxRecDepth 100000 in
theorem cb_X7_isFarness : CLb fi_X7_isFarness 1 := ⟨tbl_mem 904 (by rfl) rfl, tbl_mem 78 (by decide +kernel) rfl, by decide +kernel, by decide +kernel⟩
abbrev fi_X7_isSpan : FI := (yX7_isSpan, cX7_isSpan, 2, some .boolean, { frames := 0, cells := 0, slots := 0, locals := 0 })
set_option maxRecDepth 100000 in
theorem cb_X7_isSpan : CLb fi_X7_isSpan 2 := ⟨tbl_mem 452 (by rfl) rfl, tbl_mem 78 (by decide +kernel) rfl, by decide +kernel, by decide +kernel⟩
abbrev fi_X7_isKnownBy : FI := (yX7_isKnownBy, cX7_isKnownBy, 2, some .boolean, { frames := 1, cells := 0, slots := 0, locals := 22 })
set_option maxRecDepth 100000 in
theorem cb_X7_isKnownBy : CLb fi_X7_isKnownBy 1 := ⟨tbl_mem 787 (by rfl) rfl, tbl_mem 78 (by decide +kernel) rfl, by decide +kernel, by decide +kernel⟩
abbrev fi_X7_asNumber : FI := (yX7_asNumber, cX7_asNumber, 1, some .int, { frames := 0, cells := 0, slots := 0, locals := 0 })
set_option maxRecDepth 100000 in
theorem cb_X7_asNumber : CLb fi_X7_asNumber 1 := ⟨tbl_mem 475 (by rfl) rfl, tbl_mem 78 (by decide +kernel) rfl, by decide +kernel, by decide +kernel⟩
abbrev fi_X7_lowOf : FI := (yX7_lowOf, cX7_lowOf, 5, some .int, { frames := 1, cells := 0, slots := 0, locals := 24 })
set_option maxRecDepth 100000 in
theorem cb_X7_lowOf : CLb fi_X7_lowOf 1 := ⟨tbl_mem 504 (by rfl) rfl, tbl_mem 78 (by decide +kernel) rfl, by decide +kernel, by decide +kernel⟩
abbrev fi_X7_highOf : FI := (yX7_highOf, cX7_highOf, 5, some .int, { frames := 1, cells := 0, slots := 0, locals := 24 })
set_option maxRecDepth 100000 in
theorem cb_X7_highOf : CLb fi_X7_highOf 1 := ⟨tbl_mem 519 (by rfl) rfl, tbl_mem 78 (by decide +kernel) rfl, by decide +kernel, by decide +kernel⟩
abbrev fi_X7_load : FI := (yX7_load, cX7_load, 6, none, { frames := 2, cells := 0, slots := 0, locals := 48 })
set_option maxRecDepth 100000 in
theorem cb_X7_load : CLb fi_X7_load 1 := ⟨tbl_mem 553 (by rfl) rfl, tbl_mem 78 (by decide +kernel) rfl, by decide +kernel, by decide +kernel⟩
abbrev fi_X7_quarrelsNow : FI := (yX7_quarrelsNow, cX7_quarrelsNow, 1, some .boolean, { frames := 4, cells := 0, slots := 0, locals := 92 })
set_option maxRecDepth 100000 in
theorem cb_X7_quarrelsNow : CLb fi_X7_quarrelsNow 0 := ⟨tbl_mem 549 (by rfl) rfl, tbl_mem 78 (by decide +kernel) rfl, by decide +kernel, by decide +kernel⟩
abbrev fi_X7_howManyLoose : FI := (yX7_howManyLoose, cX7_howManyLoose, 3, some .int, { frames := 5, cells := 0, slots := 0, locals := 112 })
set_option maxRecDepth 100000 in
theorem cb_X7_howManyLoose : CLb fi_X7_howManyLoose 0 := ⟨tbl_mem 545 (by rfl) rfl, tbl_mem 78 (by decide +kernel) rfl, by decide +kernel, by decide +kernel⟩
abbrev fi_X7_leadOf : FI := (yX7_leadOf, cX7_leadOf, 7, some .int, { frames := 3, cells := 0, slots := 0, locals := 74 })
set_option maxRecDepth 100000 in
theorem cb_X7_leadOf : CLb fi_X7_leadOf 3 := ⟨tbl_mem 873 (by rfl) rfl, tbl_mem 78 (by decide +kernel) rfl, by decide +kernel, by decide +kernel⟩
abbrev fi_X7_standOfClaim : FI := (yX7_standOfClaim, cX7_standOfClaim, 8, some .int, { frames := 5, cells := 0, slots := 0, locals := 112 })
set_option maxRecDepth 100000 in
theorem cb_X7_standOfClaim : CLb fi_X7_standOfClaim 1 := ⟨tbl_mem 987 (by rfl) rfl, tbl_mem 78 (by decide +kernel) rfl, by decide +kernel, by decide +kernel⟩
abbrev fi_X8_init : FI := (yX8_init, cX8_init, 2, none, { frames := 1, cells := 32, slots := 1644, locals := 20 })
set_option maxRecDepth 100000 in
theorem cb_X8_init : CLb fi_X8_init 0 := ⟨tbl_mem 992 (by rfl) rfl, tbl_mem 86 (by decide +kernel) rfl, by decide +kernel, by decide +kernel⟩
abbrev fi_X8_in : FI := (yX8_in, cX8_in, 6, some .boolean, { frames := 0, cells := 0, slots := 0, locals := 0 })
set_option maxRecDepth 100000 in
theorem cb_X8_in : CLb fi_X8_in 3 := ⟨tbl_mem 1180 (by rfl) rfl, tbl_mem 86 (by decide +kernel) rfl, by decide +kernel, by decide +kernel⟩
abbrev fi_X8_one : FI := (yX8_one, cX8_one, 1, some .int, { frames := 0, cells := 0, slots := 0, locals := 0 })
set_option maxRecDepth 100000 in
theorem cb_X8_one : CLb fi_X8_one 1 := ⟨tbl_mem 1233 (by rfl) rfl, tbl_mem 86 (by decide +kernel) rfl, by decide +kernel, by decide +kernel⟩
abbrev fi_X8_floor : FI := (yX8_floor, cX8_floor, 4, some .long, { frames := 0, cells := 0, slots := 0, locals := 0 })
set_option maxRecDepth 100000 in
theorem cb_X8_floor : CLb fi_X8_floor 2 := ⟨tbl_mem 1342 (by rfl) rfl, tbl_mem 86 (by decide +kernel) rfl, by decide +kernel, by decide +kernel⟩
abbrev fi_X8_ceiling : FI := (yX8_ceiling, cX8_ceiling, 4, some .long, { frames := 1, cells := 0, slots := 0, locals := 23 })
set_option maxRecDepth 100000 in
theorem cb_X8_ceiling : CLb fi_X8_ceiling 2 := ⟨tbl_mem 1339 (by rfl) rfl, tbl_mem 86 (by decide +kernel) rfl, by decide +kernel, by decide +kernel⟩
abbrev fi_X8_isSort : FI := (yX8_isSort, cX8_isSort, 1, some .boolean, { frames := 1, cells := 0, slots := 0, locals := 25 })
set_option maxRecDepth 100000 in
theorem cb_X8_isSort : CLb fi_X8_isSort 1 := ⟨tbl_mem 1183 (by rfl) rfl, tbl_mem 86 (by decide +kernel) rfl, by decide +kernel, by decide +kernel⟩
abbrev fi_X8_isHome : FI := (yX8_isHome, cX8_isHome, 1, some .boolean, { frames := 1, cells := 0, slots := 0, locals := 25 })
set_option maxRecDepth 100000 in
theorem cb_X8_isHome : CLb fi_X8_isHome 1 := ⟨tbl_mem 1186 (by rfl) rfl, tbl_mem 86 (by decide +kernel) rfl, by decide +kernel, by decide +kernel⟩
abbrev fi_X8_isList : FI := (yX8_isList, cX8_isList, 1, some .boolean, { frames := 1, cells := 0, slots := 0, locals := 25 })
set_option maxRecDepth 100000 in
theorem cb_X8_isList : CLb fi_X8_isList 1 := ⟨tbl_mem 1176 (by rfl) rfl, tbl_mem 86 (by decide +kernel) rfl, by decide +kernel, by decide +kernel⟩
abbrev fi_X8_add : FI := (yX8_add, cX8_add, 7, some .int, { frames := 0, cells := 0, slots := 0, locals := 0 })
set_option maxRecDepth 100000 in
theorem cb_X8_add : CLb fi_X8_add 6 := ⟨tbl_mem 1198 (by rfl) rfl, tbl_mem 86 (by decide +kernel) rfl, by decide +kernel, by decide +kernel⟩
abbrev fi_X8_light : FI := (yX8_light, cX8_light, 9, some .int, { frames := 2, cells := 0, slots := 0, locals := 45 })
set_option maxRecDepth 100000 in
theorem cb_X8_light : CLb fi_X8_light 7 := ⟨tbl_mem 1173 (by rfl) rfl, tbl_mem 86 (by decide +kernel) rfl, by decide +kernel, by decide +kernel⟩
abbrev fi_X8_isSpan : FI := (yX8_isSpan, cX8_isSpan, 2, some .boolean, { frames := 1, cells := 0, slots := 0, locals := 25 })
set_option maxRecDepth 100000 in
theorem cb_X8_isSpan : CLb fi_X8_isSpan 2 := ⟨tbl_mem 1206 (by rfl) rfl, tbl_mem 86 (by decide +kernel) rfl, by decide +kernel, by decide +kernel⟩
abbrev fi_X8_shift : FI := (yX8_shift, cX8_shift, 5, some .int, { frames := 2, cells := 0, slots := 0, locals := 46 })
set_option maxRecDepth 100000 in
theorem cb_X8_shift : CLb fi_X8_shift 4 := ⟨tbl_mem 1203 (by rfl) rfl, tbl_mem 86 (by decide +kernel) rfl, by decide +kernel, by decide +kernel⟩
abbrev fi_X8_anchor : FI := (yX8_anchor, cX8_anchor, 5, some .int, { frames := 2, cells := 0, slots := 0, locals := 46 })
set_option maxRecDepth 100000 in
theorem cb_X8_anchor : CLb fi_X8_anchor 4 := ⟨tbl_mem 1212 (by rfl) rfl, tbl_mem 86 (by decide +kernel) rfl, by decide +kernel, by decide +kernel⟩
abbrev fi_X8_redden : FI := (yX8_redden, cX8_redden, 4, some .int, { frames := 2, cells := 0, slots := 0, locals := 45 })
set_option maxRecDepth 100000 in
theorem cb_X8_redden : CLb fi_X8_redden 3 := ⟨tbl_mem 1216 (by rfl) rfl, tbl_mem 86 (by decide +kernel) rfl, by decide +kernel, by decide +kernel⟩
abbrev fi_X8_redness : FI := (yX8_redness, cX8_redness, 4, some .int, { frames := 2, cells := 0, slots := 0, locals := 45 })
set_option maxRecDepth 100000 in
theorem cb_X8_redness : CLb fi_X8_redness 2 := ⟨tbl_mem 1220 (by rfl) rfl, tbl_mem 86 (by decide +kernel) rfl, by decide +kernel, by decide +kernel⟩
abbrev fi_X8_noTelling : FI := (yX8_noTelling, cX8_noTelling, 2, some .boolean, { frames := 1, cells := 0, slots := 0, locals := 25 })
set_option maxRecDepth 100000 in
theorem cb_X8_noTelling : CLb fi_X8_noTelling 1 := ⟨tbl_mem 1230 (by rfl) rfl, tbl_mem 86 (by decide +kernel) rfl, by decide +kernel, by decide +kernel⟩
abbrev fi_X8_leave : FI := (yX8_leave, cX8_leave, 4, some .int, { frames := 2, cells := 0, slots := 0, locals := 46 })
set_option maxRecDepth 100000 in
theorem cb_X8_leave : CLb fi_X8_leave 2 := ⟨tbl_mem 1226 (by rfl) rfl, tbl_mem 86 (by decide +kernel) rfl, by decide +kernel, by decide +kernel⟩
abbrev fi_X8_undo : FI := (yX8_undo, cX8_undo, 2, some .int, { frames := 0, cells := 0, slots := 0, locals := 0 })
set_option maxRecDepth 100000 in
theorem cb_X8_undo : CLb fi_X8_undo 0 := ⟨tbl_mem 1237 (by rfl) rfl, tbl_mem 86 (by decide +kernel) rfl, by decide +kernel, by decide +kernel⟩
abbrev fi_X8_redo : FI := (yX8_redo, cX8_redo, 1, some .int, { frames := 0, cells := 0, slots := 0, locals := 0 })
set_option maxRecDepth 100000 in
theorem cb_X8_redo : CLb fi_X8_redo 0 := ⟨tbl_mem 1242 (by rfl) rfl, tbl_mem 86 (by decide +kernel) rfl, by decide +kernel, by decide +kernel⟩
abbrev fi_X8_clearRules : FI := (yX8_clearRules, cX8_clearRules, 1, none, { frames := 0, cells := 0, slots := 0, locals := 0 })
set_option maxRecDepth 100000 in
theorem cb_X8_clearRules : CLb fi_X8_clearRules 0 := ⟨tbl_mem 997 (by rfl) rfl, tbl_mem 86 (by decide +kernel) rfl, by decide +kernel, by decide +kernel⟩
abbrev fi_X8_feed : FI := (yX8_feed, cX8_feed, 5, some .int, { frames := 1, cells := 0, slots := 0, locals := 25 })
set_option maxRecDepth 100000 in
theorem cb_X8_feed : CLb fi_X8_feed 2 := ⟨tbl_mem 1246 (by rfl) rfl, tbl_mem 86 (by decide +kernel) rfl, by decide +kernel, by decide +kernel⟩
abbrev fi_X8_here : FI := (yX8_here, cX8_here, 1, some .int, { frames := 0, cells := 0, slots := 0, locals := 0 })
set_option maxRecDepth 100000 in
theorem cb_X8_here : CLb fi_X8_here 0 := ⟨tbl_mem 1256 (by rfl) rfl, tbl_mem 86 (by decide +kernel) rfl, by decide +kernel, by decide +kernel⟩
abbrev fi_X8_want : FI := (yX8_want, cX8_want, 4, some .boolean, { frames := 0, cells := 0, slots := 0, locals := 0 })
set_option maxRecDepth 100000 in
theorem cb_X8_want : CLb fi_X8_want 3 := ⟨tbl_mem 1274 (by rfl) rfl, tbl_mem 86 (by decide +kernel) rfl, by decide +kernel, by decide +kernel⟩
abbrev fi_X8_takeWord : FI := (yX8_takeWord, cX8_takeWord, 2, none, { frames := 1, cells := 0, slots := 0, locals := 25 })
set_option maxRecDepth 100000 in
theorem cb_X8_takeWord : CLb fi_X8_takeWord 0 := ⟨tbl_mem 1260 (by rfl) rfl, tbl_mem 86 (by decide +kernel) rfl, by decide +kernel, by decide +kernel⟩
abbrev fi_X8_isWord : FI := (yX8_isWord, cX8_isWord, 10, some .boolean, { frames := 0, cells := 0, slots := 0, locals := 0 })
set_option maxRecDepth 100000 in
theorem cb_X8_isWord : CLb fi_X8_isWord 7 := ⟨tbl_mem 1270 (by rfl) rfl, tbl_mem 86 (by decide +kernel) rfl, by decide +kernel, by decide +kernel⟩
abbrev fi_X8_takeNumber : FI := (yX8_takeNumber, cX8_takeNumber, 10, some .int, { frames := 1, cells := 0, slots := 0, locals := 25 })
set_option maxRecDepth 100000 in
theorem cb_X8_takeNumber : CLb fi_X8_takeNumber 3 := ⟨tbl_mem 1286 (by rfl) rfl, tbl_mem 86 (by decide +kernel) rfl, by decide +kernel, by decide +kernel⟩
abbrev fi_X8_takeTo : FI := (yX8_takeTo, cX8_takeTo, 1, some .boolean, { frames := 2, cells := 0, slots := 0, locals := 46 })
set_option maxRecDepth 100000 in
theorem cb_X8_takeTo : CLb fi_X8_takeTo 0 := ⟨tbl_mem 1297 (by rfl) rfl, tbl_mem 86 (by decide +kernel) rfl, by decide +kernel, by decide +kernel⟩
abbrev fi_X8_readSpan : FI := (yX8_readSpan, cX8_readSpan, 5, none, { frames := 3, cells := 0, slots := 0, locals := 66 })
set_option maxRecDepth 100000 in
theorem cb_X8_readSpan : CLb fi_X8_readSpan 1 := ⟨tbl_mem 1293 (by rfl) rfl, tbl_mem 86 (by decide +kernel) rfl, by decide +kernel, by decide +kernel⟩
abbrev fi_X8_readSort : FI := (yX8_readSort, cX8_readSort, 3, none, { frames := 4, cells := 0, slots := 0, locals := 90 })
set_option maxRecDepth 100000 in
theorem cb_X8_readSort : CLb fi_X8_readSort 0 := ⟨tbl_mem 1282 (by rfl) rfl, tbl_mem 86 (by decide +kernel) rfl, by decide +kernel, by decide +kernel⟩
abbrev fi_X8_readBlur : FI := (yX8_readBlur, cX8_readBlur, 4, none, { frames := 2, cells := 0, slots := 0, locals := 54 })
set_option maxRecDepth 100000 in
theorem cb_X8_readBlur : CLb fi_X8_readBlur 0 := ⟨tbl_mem 1301 (by rfl) rfl, tbl_mem 86 (by decide +kernel) rfl, by decide +kernel, by decide +kernel⟩
abbrev fi_X8_readClaim : FI := (yX8_readClaim, cX8_readClaim, 5, none, { frames := 2, cells := 0, slots := 0, locals := 54 })
set_option maxRecDepth 100000 in
theorem cb_X8_readClaim : CLb fi_X8_readClaim 0 := ⟨tbl_mem 1305 (by rfl) rfl, tbl_mem 86 (by decide +kernel) rfl, by decide +kernel, by decide +kernel⟩
abbrev fi_X8_readClause : FI := (yX8_readClause, cX8_readClause, 3, none, { frames := 5, cells := 0, slots := 0, locals := 112 })
set_option maxRecDepth 100000 in
theorem cb_X8_readClause : CLb fi_X8_readClause 1 := ⟨tbl_mem 1278 (by rfl) rfl, tbl_mem 86 (by decide +kernel) rfl, by decide +kernel, by decide +kernel⟩
abbrev fi_X8_clauseOf : FI := (yX8_clauseOf, cX8_clauseOf, 1, some .int, { frames := 1, cells := 0, slots := 0, locals := 29 })
set_option maxRecDepth 100000 in
theorem cb_X8_clauseOf : CLb fi_X8_clauseOf 0 := ⟨tbl_mem 1266 (by rfl) rfl, tbl_mem 86 (by decide +kernel) rfl, by decide +kernel, by decide +kernel⟩
abbrev fi_X8_takeRules : FI := (yX8_takeRules, cX8_takeRules, 2, none, { frames := 0, cells := 0, slots := 0, locals := 0 })
set_option maxRecDepth 100000 in
theorem cb_X8_takeRules : CLb fi_X8_takeRules 0 := ⟨tbl_mem 1311 (by rfl) rfl, tbl_mem 86 (by decide +kernel) rfl, by decide +kernel, by decide +kernel⟩
abbrev fi_X8_read : FI := (yX8_read, cX8_read, 3, some .int, { frames := 6, cells := 0, slots := 0, locals := 134 })
set_option maxRecDepth 100000 in
theorem cb_X8_read : CLb fi_X8_read 0 := ⟨tbl_mem 1252 (by rfl) rfl, tbl_mem 86 (by decide +kernel) rfl, by decide +kernel, by decide +kernel⟩
abbrev fi_X8_fault : FI := (yX8_fault, cX8_fault, 1, some .int, { frames := 0, cells := 0, slots := 0, locals := 0 })
set_option maxRecDepth 100000 in
theorem cb_X8_fault : CLb fi_X8_fault 0 := ⟨tbl_mem 1315 (by rfl) rfl, tbl_mem 86 (by decide +kernel) rfl, by decide +kernel, by decide +kernel⟩
abbrev fi_X8_rule : FI := (yX8_rule, cX8_rule, 3, some .int, { frames := 2, cells := 0, slots := 0, locals := 45 })
set_option maxRecDepth 100000 in
theorem cb_X8_rule : CLb fi_X8_rule 2 := ⟨tbl_mem 1319 (by rfl) rfl, tbl_mem 86 (by decide +kernel) rfl, by decide +kernel, by decide +kernel⟩
abbrev fi_X8_least : FI := (yX8_least, cX8_least, 4, some .long, { frames := 0, cells := 0, slots := 0, locals := 0 })
set_option maxRecDepth 100000 in
theorem cb_X8_least : CLb fi_X8_least 2 := ⟨tbl_mem 1350 (by rfl) rfl, tbl_mem 86 (by decide +kernel) rfl, by decide +kernel, by decide +kernel⟩
abbrev fi_X8_most : FI := (yX8_most, cX8_most, 4, some .long, { frames := 0, cells := 0, slots := 0, locals := 0 })
set_option maxRecDepth 100000 in
theorem cb_X8_most : CLb fi_X8_most 2 := ⟨tbl_mem 1335 (by rfl) rfl, tbl_mem 86 (by decide +kernel) rfl, by decide +kernel, by decide +kernel⟩
abbrev fi_X8_lowOf : FI := (yX8_lowOf, cX8_lowOf, 6, some .long, { frames := 2, cells := 0, slots := 0, locals := 46 })
set_option maxRecDepth 100000 in
theorem cb_X8_lowOf : CLb fi_X8_lowOf 1 := ⟨tbl_mem 1332 (by rfl) rfl, tbl_mem 86 (by decide +kernel) rfl, by decide +kernel, by decide +kernel⟩
abbrev fi_X8_highOf : FI := (yX8_highOf, cX8_highOf, 6, some .long, { frames := 1, cells := 0, slots := 0, locals := 23 })
set_option maxRecDepth 100000 in
theorem cb_X8_highOf : CLb fi_X8_highOf 1 := ⟨tbl_mem 1347 (by rfl) rfl, tbl_mem 86 (by decide +kernel) rfl, by decide +kernel, by decide +kernel⟩
abbrev fi_X8_isIn : FI := (yX8_isIn, cX8_isIn, 3, some .boolean, { frames := 0, cells := 0, slots := 0, locals := 0 })
set_option maxRecDepth 100000 in
theorem cb_X8_isIn : CLb fi_X8_isIn 2 := ⟨tbl_mem 1328 (by rfl) rfl, tbl_mem 86 (by decide +kernel) rfl, by decide +kernel, by decide +kernel⟩
abbrev fi_X8_upper : FI := (yX8_upper, cX8_upper, 2, some .int, { frames := 0, cells := 0, slots := 0, locals := 0 })
set_option maxRecDepth 100000 in
theorem cb_X8_upper : CLb fi_X8_upper 1 := ⟨tbl_mem 1378 (by rfl) rfl, tbl_mem 86 (by decide +kernel) rfl, by decide +kernel, by decide +kernel⟩
abbrev fi_X8_lower : FI := (yX8_lower, cX8_lower, 2, some .int, { frames := 0, cells := 0, slots := 0, locals := 0 })
set_option maxRecDepth 100000 in
theorem cb_X8_lower : CLb fi_X8_lower 1 := ⟨tbl_mem 1374 (by rfl) rfl, tbl_mem 86 (by decide +kernel) rfl, by decide +kernel, by decide +kernel⟩
abbrev fi_X8_cell : FI := (yX8_cell, cX8_cell, 2, some .int, { frames := 0, cells := 0, slots := 0, locals := 0 })
set_option maxRecDepth 100000 in
theorem cb_X8_cell : CLb fi_X8_cell 2 := ⟨tbl_mem 1370 (by rfl) rfl, tbl_mem 86 (by decide +kernel) rfl, by decide +kernel, by decide +kernel⟩
abbrev fi_X8_layWays : FI := (yX8_layWays, cX8_layWays, 5, none, { frames := 3, cells := 0, slots := 0, locals := 71 })
set_option maxRecDepth 100000 in
theorem cb_X8_layWays : CLb fi_X8_layWays 1 := ⟨tbl_mem 1366 (by rfl) rfl, tbl_mem 86 (by decide +kernel) rfl, by decide +kernel, by decide +kernel⟩
abbrev fi_X8_sumWays : FI := (yX8_sumWays, cX8_sumWays, 7, some .boolean, { frames := 4, cells := 0, slots := 0, locals := 95 })
set_option maxRecDepth 100000 in
theorem cb_X8_sumWays : CLb fi_X8_sumWays 1 := ⟨tbl_mem 1362 (by rfl) rfl, tbl_mem 86 (by decide +kernel) rfl, by decide +kernel, by decide +kernel⟩
abbrev fi_X8_isLoose : FI := (yX8_isLoose, cX8_isLoose, 2, some .boolean, { frames := 1, cells := 0, slots := 0, locals := 21 })
set_option maxRecDepth 100000 in
theorem cb_X8_isLoose : CLb fi_X8_isLoose 1 := ⟨tbl_mem 1383 (by rfl) rfl, tbl_mem 86 (by decide +kernel) rfl, by decide +kernel, by decide +kernel⟩
abbrev fi_X8_lowEnd : FI := (yX8_lowEnd, cX8_lowEnd, 2, some .int, { frames := 1, cells := 0, slots := 0, locals := 21 })
set_option maxRecDepth 100000 in
theorem cb_X8_lowEnd : CLb fi_X8_lowEnd 1 := ⟨tbl_mem 1401 (by rfl) rfl, tbl_mem 86 (by decide +kernel) rfl, by decide +kernel, by decide +kernel⟩
abbrev fi_X8_highEnd : FI := (yX8_highEnd, cX8_highEnd, 2, some .int, { frames := 1, cells := 0, slots := 0, locals := 21 })
set_option maxRecDepth 100000 in
theorem cb_X8_highEnd : CLb fi_X8_highEnd 1 := ⟨tbl_mem 1405 (by rfl) rfl, tbl_mem 86 (by decide +kernel) rfl, by decide +kernel, by decide +kernel⟩
abbrev fi_X8_forget : FI := (yX8_forget, cX8_forget, 1, none, { frames := 0, cells := 0, slots := 0, locals := 0 })
set_option maxRecDepth 100000 in
theorem cb_X8_forget : CLb fi_X8_forget 0 := ⟨tbl_mem 1419 (by rfl) rfl, tbl_mem 86 (by decide +kernel) rfl, by decide +kernel, by decide +kernel⟩
abbrev fi_X8_known : FI := (yX8_known, cX8_known, 2, some .int, { frames := 0, cells := 0, slots := 0, locals := 0 })
set_option maxRecDepth 100000 in
theorem cb_X8_known : CLb fi_X8_known 1 := ⟨tbl_mem 1395 (by rfl) rfl, tbl_mem 86 (by decide +kernel) rfl, by decide +kernel, by decide +kernel⟩
abbrev fi_X8_isKnown : FI := (yX8_isKnown, cX8_isKnown, 2, some .boolean, { frames := 1, cells := 0, slots := 0, locals := 25 })
set_option maxRecDepth 100000 in
theorem cb_X8_isKnown : CLb fi_X8_isKnown 1 := ⟨tbl_mem 1391 (by rfl) rfl, tbl_mem 86 (by decide +kernel) rfl, by decide +kernel, by decide +kernel⟩
abbrev fi_X8_told : FI := (yX8_told, cX8_told, 3, some .int, { frames := 3, cells := 0, slots := 0, locals := 71 })
set_option maxRecDepth 100000 in
theorem cb_X8_told : CLb fi_X8_told 2 := ⟨tbl_mem 1324 (by rfl) rfl, tbl_mem 86 (by decide +kernel) rfl, by decide +kernel, by decide +kernel⟩
abbrev fi_X8_looseOnes : FI := (yX8_looseOnes, cX8_looseOnes, 3, some .int, { frames := 5, cells := 0, slots := 0, locals := 121 })
set_option maxRecDepth 100000 in
theorem cb_X8_looseOnes : CLb fi_X8_looseOnes 0 := ⟨tbl_mem 1358 (by rfl) rfl, tbl_mem 86 (by decide +kernel) rfl, by decide +kernel, by decide +kernel⟩
abbrev fi_X8_count : FI := (yX8_count, cX8_count, 7, some .int, { frames := 6, cells := 0, slots := 0, locals := 143 })
set_option maxRecDepth 100000 in
theorem cb_X8_count : CLb fi_X8_count 1 := ⟨tbl_mem 1354 (by rfl) rfl, tbl_mem 86 (by decide +kernel) rfl, by decide +kernel, by decide +kernel⟩
abbrev fi_X8_ends : FI := (yX8_ends, cX8_ends, 5, some .int, { frames := 5, cells := 0, slots := 0, locals := 121 })
set_option maxRecDepth 100000 in
theorem cb_X8_ends : CLb fi_X8_ends 3 := ⟨tbl_mem 1387 (by rfl) rfl, tbl_mem 86 (by decide +kernel) rfl, by decide +kernel, by decide +kernel⟩
abbrev fi_X8_between : FI := (yX8_between, cX8_between, 8, some .int, { frames := 5, cells := 0, slots := 0, locals := 121 })
set_option maxRecDepth 100000 in
theorem cb_X8_between : CLb fi_X8_between 3 := ⟨tbl_mem 1409 (by rfl) rfl, tbl_mem 86 (by decide +kernel) rfl, by decide +kernel, by decide +kernel⟩
abbrev fi_X8_widening : FI := (yX8_widening, cX8_widening, 6, some .int, { frames := 5, cells := 0, slots := 0, locals := 121 })
set_option maxRecDepth 100000 in
theorem cb_X8_widening : CLb fi_X8_widening 1 := ⟨tbl_mem 1413 (by rfl) rfl, tbl_mem 86 (by decide +kernel) rfl, by decide +kernel, by decide +kernel⟩
abbrev fi_X8_blame : FI := (yX8_blame, cX8_blame, 3, some .int, { frames := 5, cells := 0, slots := 0, locals := 121 })
set_option maxRecDepth 100000 in
theorem cb_X8_blame : CLb fi_X8_blame 0 := ⟨tbl_mem 1423 (by rfl) rfl, tbl_mem 86 (by decide +kernel) rfl, by decide +kernel, by decide +kernel⟩
abbrev fi_X8_raise : FI := (yX8_raise, cX8_raise, 6, some .boolean, { frames := 0, cells := 0, slots := 0, locals := 0 })
set_option maxRecDepth 100000 in
theorem cb_X8_raise : CLb fi_X8_raise 4 := ⟨tbl_mem 1439 (by rfl) rfl, tbl_mem 86 (by decide +kernel) rfl, by decide +kernel, by decide +kernel⟩
abbrev fi_X8_findRound : FI := (yX8_findRound, cX8_findRound, 6, some .boolean, { frames := 3, cells := 0, slots := 0, locals := 71 })
set_option maxRecDepth 100000 in
theorem cb_X8_findRound : CLb fi_X8_findRound 1 := ⟨tbl_mem 1435 (by rfl) rfl, tbl_mem 86 (by decide +kernel) rfl, by decide +kernel, by decide +kernel⟩
abbrev fi_X8_note : FI := (yX8_note, cX8_note, 5, none, { frames := 0, cells := 0, slots := 0, locals := 0 })
set_option maxRecDepth 100000 in
theorem cb_X8_note : CLb fi_X8_note 3 := ⟨tbl_mem 1443 (by rfl) rfl, tbl_mem 86 (by decide +kernel) rfl, by decide +kernel, by decide +kernel⟩
abbrev fi_X8_trySecond : FI := (yX8_trySecond, cX8_trySecond, 3, none, { frames := 5, cells := 0, slots := 0, locals := 121 })
set_option maxRecDepth 100000 in
theorem cb_X8_trySecond : CLb fi_X8_trySecond 1 := ⟨tbl_mem 1447 (by rfl) rfl, tbl_mem 86 (by decide +kernel) rfl, by decide +kernel, by decide +kernel⟩
abbrev fi_X8_findOdd : FI := (yX8_findOdd, cX8_findOdd, 4, none, { frames := 6, cells := 0, slots := 0, locals := 143 })
set_option maxRecDepth 100000 in
theorem cb_X8_findOdd : CLb fi_X8_findOdd 0 := ⟨tbl_mem 1431 (by rfl) rfl, tbl_mem 86 (by decide +kernel) rfl, by decide +kernel, by decide +kernel⟩
abbrev fi_X8_odd : FI := (yX8_odd, cX8_odd, 4, some .int, { frames := 7, cells := 0, slots := 0, locals := 166 })
set_option maxRecDepth 100000 in
theorem cb_X8_odd : CLb fi_X8_odd 1 := ⟨tbl_mem 1427 (by rfl) rfl, tbl_mem 86 (by decide +kernel) rfl, by decide +kernel, by decide +kernel⟩
abbrev fi_X8_worth : FI := (yX8_worth, cX8_worth, 5, some .int, { frames := 5, cells := 0, slots := 0, locals := 121 })
set_option maxRecDepth 100000 in
theorem cb_X8_worth : CLb fi_X8_worth 2 := ⟨tbl_mem 1451 (by rfl) rfl, tbl_mem 86 (by decide +kernel) rfl, by decide +kernel, by decide +kernel⟩
abbrev fi_X8_lead : FI := (yX8_lead, cX8_lead, 10, some .int, { frames := 5, cells := 0, slots := 0, locals := 121 })
set_option maxRecDepth 100000 in
theorem cb_X8_lead : CLb fi_X8_lead 3 := ⟨tbl_mem 1456 (by rfl) rfl, tbl_mem 86 (by decide +kernel) rfl, by decide +kernel, by decide +kernel⟩
abbrev fi_X8_steps : FI := (yX8_steps, cX8_steps, 6, some .int, { frames := 2, cells := 0, slots := 0, locals := 45 })
set_option maxRecDepth 100000 in
theorem cb_X8_steps : CLb fi_X8_steps 1 := ⟨tbl_mem 1460 (by rfl) rfl, tbl_mem 86 (by decide +kernel) rfl, by decide +kernel, by decide +kernel⟩
abbrev fi_X8_tableOf : FI := (yX8_tableOf, cX8_tableOf, 2, some .long, { frames := 1, cells := 0, slots := 0, locals := 20 })
set_option maxRecDepth 100000 in
theorem cb_X8_tableOf : CLb fi_X8_tableOf 1 := ⟨tbl_mem 1470 (by rfl) rfl, tbl_mem 86 (by decide +kernel) rfl, by decide +kernel, by decide +kernel⟩
abbrev fi_X8_lowTable : FI := (yX8_lowTable, cX8_lowTable, 1, some .int, { frames := 0, cells := 0, slots := 0, locals := 0 })
set_option maxRecDepth 100000 in
theorem cb_X8_lowTable : CLb fi_X8_lowTable 1 := ⟨tbl_mem 1473 (by rfl) rfl, tbl_mem 86 (by decide +kernel) rfl, by decide +kernel, by decide +kernel⟩
abbrev fi_X8_highTable : FI := (yX8_highTable, cX8_highTable, 1, some .int, { frames := 0, cells := 0, slots := 0, locals := 0 })
set_option maxRecDepth 100000 in
theorem cb_X8_highTable : CLb fi_X8_highTable 1 := ⟨tbl_mem 1476 (by rfl) rfl, tbl_mem 86 (by decide +kernel) rfl, by decide +kernel, by decide +kernel⟩
abbrev fi_X8_farOf : FI := (yX8_farOf, cX8_farOf, 6, some .long, { frames := 2, cells := 0, slots := 0, locals := 41 })
set_option maxRecDepth 100000 in
theorem cb_X8_farOf : CLb fi_X8_farOf 2 := ⟨tbl_mem 1467 (by rfl) rfl, tbl_mem 86 (by decide +kernel) rfl, by decide +kernel, by decide +kernel⟩
abbrev fi_X8_far : FI := (yX8_far, cX8_far, 3, some .long, { frames := 3, cells := 0, slots := 0, locals := 66 })
set_option maxRecDepth 100000 in
theorem cb_X8_far : CLb fi_X8_far 2 := ⟨tbl_mem 1464 (by rfl) rfl, tbl_mem 86 (by decide +kernel) rfl, by decide +kernel, by decide +kernel⟩
abbrev fi_X8_isWithin : FI := (yX8_isWithin, cX8_isWithin, 2, some .boolean, { frames := 2, cells := 0, slots := 0, locals := 42 })
set_option maxRecDepth 100000 in
theorem cb_X8_isWithin : CLb fi_X8_isWithin 1 := ⟨tbl_mem 1495 (by rfl) rfl, tbl_mem 86 (by decide +kernel) rfl, by decide +kernel, by decide +kernel⟩
abbrev fi_X8_speaks : FI := (yX8_speaks, cX8_speaks, 2, some .boolean, { frames := 3, cells := 0, slots := 0, locals := 63 })
set_option maxRecDepth 100000 in
theorem cb_X8_speaks : CLb fi_X8_speaks 1 := ⟨tbl_mem 1491 (by rfl) rfl, tbl_mem 86 (by decide +kernel) rfl, by decide +kernel, by decide +kernel⟩
abbrev fi_X8_barring : FI := (yX8_barring, cX8_barring, 7, some .int, { frames := 4, cells := 0, slots := 0, locals := 84 })
set_option maxRecDepth 100000 in
theorem cb_X8_barring : CLb fi_X8_barring 1 := ⟨tbl_mem 1487 (by rfl) rfl, tbl_mem 86 (by decide +kernel) rfl, by decide +kernel, by decide +kernel⟩
abbrev fi_X8_boxes : FI := (yX8_boxes, cX8_boxes, 7, some .int, { frames := 5, cells := 0, slots := 0, locals := 121 })
set_option maxRecDepth 100000 in
theorem cb_X8_boxes : CLb fi_X8_boxes 1 := ⟨tbl_mem 1482 (by rfl) rfl, tbl_mem 86 (by decide +kernel) rfl, by decide +kernel, by decide +kernel⟩
abbrev fi_X8_box : FI := (yX8_box, cX8_box, 2, some .int, { frames := 5, cells := 0, slots := 0, locals := 121 })
set_option maxRecDepth 100000 in
theorem cb_X8_box : CLb fi_X8_box 1 := ⟨tbl_mem 1499 (by rfl) rfl, tbl_mem 86 (by decide +kernel) rfl, by decide +kernel, by decide +kernel⟩
abbrev fi_X8_delay : FI := (yX8_delay, cX8_delay, 10, some .long, { frames := 5, cells := 0, slots := 0, locals := 121 })
set_option maxRecDepth 100000 in
theorem cb_X8_delay : CLb fi_X8_delay 3 := ⟨tbl_mem 1504 (by rfl) rfl, tbl_mem 86 (by decide +kernel) rfl, by decide +kernel, by decide +kernel⟩
abbrev fi_X8_blind : FI := (yX8_blind, cX8_blind, 2, some .int, { frames := 1, cells := 0, slots := 0, locals := 25 })
set_option maxRecDepth 100000 in
theorem cb_X8_blind : CLb fi_X8_blind 1 := ⟨tbl_mem 1512 (by rfl) rfl, tbl_mem 86 (by decide +kernel) rfl, by decide +kernel, by decide +kernel⟩
abbrev fi_X8_open : FI := (yX8_open, cX8_open, 1, some .int, { frames := 0, cells := 0, slots := 0, locals := 0 })
set_option maxRecDepth 100000 in
theorem cb_X8_open : CLb fi_X8_open 0 := ⟨tbl_mem 1517 (by rfl) rfl, tbl_mem 86 (by decide +kernel) rfl, by decide +kernel, by decide +kernel⟩
abbrev fi_X8_stateOf : FI := (yX8_stateOf, cX8_stateOf, 7, some .int, { frames := 2, cells := 0, slots := 0, locals := 42 })
set_option maxRecDepth 100000 in
theorem cb_X8_stateOf : CLb fi_X8_stateOf 1 := ⟨tbl_mem 1525 (by rfl) rfl, tbl_mem 86 (by decide +kernel) rfl, by decide +kernel, by decide +kernel⟩
abbrev fi_X8_claim : FI := (yX8_claim, cX8_claim, 3, some .int, { frames := 5, cells := 0, slots := 0, locals := 121 })
set_option maxRecDepth 100000 in
theorem cb_X8_claim : CLb fi_X8_claim 2 := ⟨tbl_mem 1521 (by rfl) rfl, tbl_mem 86 (by decide +kernel) rfl, by decide +kernel, by decide +kernel⟩
abbrev fi_J9_floorDiv_7cf53 : FI := (yJ9_floorDiv_7cf53, cJ9_floorDiv_7cf53, 3, some .int, { frames := 0, cells := 0, slots := 0, locals := 0 })
set_option maxRecDepth 100000 in
theorem cb_J9_floorDiv_7cf53 : CLb fi_J9_floorDiv_7cf53 2 := ⟨tbl_mem 511 (by rfl) rfl, tbl_mem 87 (by decide +kernel) rfl, by decide +kernel, by decide +kernel⟩
abbrev fi_J9_floorDiv_f86c9 : FI := (yJ9_floorDiv_f86c9, cJ9_floorDiv_f86c9, 6, some .long, { frames := 0, cells := 0, slots := 0, locals := 0 })
set_option maxRecDepth 100000 in
theorem cb_J9_floorDiv_f86c9 : CLb fi_J9_floorDiv_f86c9 2 := ⟨tbl_mem 954 (by rfl) rfl, tbl_mem 87 (by decide +kernel) rfl, by decide +kernel, by decide +kernel⟩
abbrev fi_J9_max_7cf53 : FI := (yJ9_max_7cf53, cJ9_max_7cf53, 2, some .int, { frames := 0, cells := 0, slots := 0, locals := 0 })
set_option maxRecDepth 100000 in
theorem cb_J9_max_7cf53 : CLb fi_J9_max_7cf53 2 := ⟨tbl_mem 849 (by rfl) rfl, tbl_mem 87 (by decide +kernel) rfl, by decide +kernel, by decide +kernel⟩
abbrev fi_J9_max_f86c9 : FI := (yJ9_max_f86c9, cJ9_max_f86c9, 4, some .long, { frames := 0, cells := 0, slots := 0, locals := 0 })
set_option maxRecDepth 100000 in
theorem cb_J9_max_f86c9 : CLb fi_J9_max_f86c9 2 := ⟨tbl_mem 971 (by rfl) rfl, tbl_mem 87 (by decide +kernel) rfl, by decide +kernel, by decide +kernel⟩
abbrev fi_J9_min_7cf53 : FI := (yJ9_min_7cf53, cJ9_min_7cf53, 2, some .int, { frames := 0, cells := 0, slots := 0, locals := 0 })
set_option maxRecDepth 100000 in
theorem cb_J9_min_7cf53 : CLb fi_J9_min_7cf53 2 := ⟨tbl_mem 846 (by rfl) rfl, tbl_mem 87 (by decide +kernel) rfl, by decide +kernel, by decide +kernel⟩
abbrev fi_J0_length_8abf5 : FI := (yJ0_length_8abf5, cJ0_length_8abf5, 1, some .int, { frames := 1, cells := 0, slots := 0, locals := 20 })
set_option maxRecDepth 100000 in
theorem cb_J0_length_8abf5 : CLb fi_J0_length_8abf5 0 := ⟨tbl_mem 631 (by rfl) rfl, tbl_mem 88 (by decide +kernel) rfl, by decide +kernel, by decide +kernel⟩
abbrev fi_J0_charAt_5068e : FI := (yJ0_charAt_5068e, cJ0_charAt_5068e, 2, some .char, { frames := 4, cells := 0, slots := 0, locals := 85 })
set_option maxRecDepth 100000 in
theorem cb_J0_charAt_5068e : CLb fi_J0_charAt_5068e 1 := ⟨tbl_mem 645 (by rfl) rfl, tbl_mem 88 (by decide +kernel) rfl, by decide +kernel, by decide +kernel⟩
abbrev fi_J0_coder_7d493 : FI := (yJ0_coder_7d493, cJ0_coder_7d493, 1, some .byte, { frames := 0, cells := 0, slots := 0, locals := 0 })
set_option maxRecDepth 100000 in
theorem cb_J0_coder_7d493 : CLb fi_J0_coder_7d493 0 := ⟨tbl_mem 635 (by rfl) rfl, tbl_mem 88 (by decide +kernel) rfl, by decide +kernel, by decide +kernel⟩
abbrev fi_J0_isLatin1_aae02 : FI := (yJ0_isLatin1_aae02, cJ0_isLatin1_aae02, 1, some .boolean, { frames := 0, cells := 0, slots := 0, locals := 0 })
set_option maxRecDepth 100000 in
theorem cb_J0_isLatin1_aae02 : CLb fi_J0_isLatin1_aae02 0 := ⟨tbl_mem 649 (by rfl) rfl, tbl_mem 88 (by decide +kernel) rfl, by decide +kernel, by decide +kernel⟩
abbrev fi_J0_checkIndex_df160 : FI := (yJ0_checkIndex_df160, cJ0_checkIndex_df160, 2, none, { frames := 1, cells := 0, slots := 0, locals := 22 })
set_option maxRecDepth 100000 in
theorem cb_J0_checkIndex_df160 : CLb fi_J0_checkIndex_df160 2 := ⟨tbl_mem 655 (by rfl) rfl, tbl_mem 88 (by decide +kernel) rfl, by decide +kernel, by decide +kernel⟩
abbrev fi_J1_charAt_3b067 : FI := (yJ1_charAt_3b067, cJ1_charAt_3b067, 2, some .char, { frames := 2, cells := 0, slots := 0, locals := 43 })
set_option maxRecDepth 100000 in
theorem cb_J1_charAt_3b067 : CLb fi_J1_charAt_3b067 2 := ⟨tbl_mem 652 (by rfl) rfl, tbl_mem 89 (by decide +kernel) rfl, by decide +kernel, by decide +kernel⟩
theorem cl_L_9 : CLi RL 9 fi_X7_init := ⟨Or.inr (tbl_mem 94 (by decide +kernel) rfl), rfl, tbl_mem 95 (by decide +kernel) rfl, rfl⟩
theorem cl_X7_9 : CLi RX7 9 fi_X5_init := ⟨Or.inl ⟨"FarCandles", tbl_mem 102 (by decide +kernel) rfl⟩, rfl, tbl_mem 103 (by decide +kernel) rfl, rfl⟩
theorem cl_X7_18 : CLi RX7 18 fi_X0_init := ⟨Or.inl ⟨"FarCandles", tbl_mem 163 (by decide +kernel) rfl⟩, rfl, tbl_mem 164 (by decide +kernel) rfl, rfl⟩
theorem cl_X7_25 : CLi RX7 25 fi_X2_init := ⟨Or.inl ⟨"FarCandles", tbl_mem 178 (by decide +kernel) rfl⟩, rfl, tbl_mem 179 (by decide +kernel) rfl, rfl⟩
theorem cl_X7_32 : CLi RX7 32 fi_X1_init := ⟨Or.inl ⟨"FarCandles", tbl_mem 209 (by decide +kernel) rfl⟩, rfl, tbl_mem 210 (by decide +kernel) rfl, rfl⟩
theorem cl_X7_39 : CLi RX7 39 fi_X4_init := ⟨Or.inl ⟨"FarCandles", tbl_mem 267 (by decide +kernel) rfl⟩, rfl, tbl_mem 268 (by decide +kernel) rfl, rfl⟩
theorem cl_X7_46 : CLi RX7 46 fi_X6_init := ⟨Or.inr (tbl_mem 292 (by decide +kernel) rfl), rfl, tbl_mem 293 (by decide +kernel) rfl, rfl⟩
theorem cl_X7_53 : CLi RX7 53 fi_X3_init := ⟨Or.inl ⟨"FarCandles", tbl_mem 316 (by decide +kernel) rfl⟩, rfl, tbl_mem 317 (by decide +kernel) rfl, rfl⟩
theorem cl_L_13 : CLv RL 13 fi_X7_light := ⟨tbl_mem 410 (by decide +kernel) rfl, tbl_mem 411 (by decide +kernel) rfl, tbl_mem 412 (by decide +kernel) rfl⟩
theorem cl_X7_72 : CLs RX7 72 fi_X7_isList ∨ CLn RX7 72 fi_X7_isList := Or.inl ⟨tbl_mem 414 (by decide +kernel) rfl, tbl_mem 415 (by decide +kernel) rfl⟩
theorem cl_X7_83 : CLs RX7 83 fi_X7_isFrom ∨ CLn RX7 83 fi_X7_isFrom := Or.inl ⟨tbl_mem 417 (by decide +kernel) rfl, tbl_mem 418 (by decide +kernel) rfl⟩
theorem cl_X7_76 : CLs RX7 76 fi_X7_isSort ∨ CLn RX7 76 fi_X7_isSort := Or.inl ⟨tbl_mem 420 (by decide +kernel) rfl, tbl_mem 421 (by decide +kernel) rfl⟩
theorem cl_X7_79 : CLs RX7 79 fi_X7_isHome ∨ CLn RX7 79 fi_X7_isHome := Or.inl ⟨tbl_mem 423 (by decide +kernel) rfl, tbl_mem 424 (by decide +kernel) rfl⟩
theorem cl_X7_88 : CLv RX7 88 fi_X5_isFull := ⟨tbl_mem 428 (by decide +kernel) rfl, tbl_mem 429 (by decide +kernel) rfl, tbl_mem 430 (by decide +kernel) rfl⟩
theorem cl_X7_93 : CLv RX7 93 fi_X5_add := ⟨tbl_mem 433 (by decide +kernel) rfl, tbl_mem 434 (by decide +kernel) rfl, tbl_mem 435 (by decide +kernel) rfl⟩
theorem cl_X7_97 : CLv RX7 97 fi_X5_dress := ⟨tbl_mem 438 (by decide +kernel) rfl, tbl_mem 439 (by decide +kernel) rfl, tbl_mem 440 (by decide +kernel) rfl⟩
theorem cl_X5_57 : CLv RX5 57 fi_X5_has := ⟨tbl_mem 442 (by decide +kernel) rfl, tbl_mem 443 (by decide +kernel) rfl, tbl_mem 444 (by decide +kernel) rfl⟩
theorem cl_L_18 : CLv RL 18 fi_X7_shift := ⟨tbl_mem 446 (by decide +kernel) rfl, tbl_mem 447 (by decide +kernel) rfl, tbl_mem 448 (by decide +kernel) rfl⟩
theorem cl_X7_101 : CLs RX7 101 fi_X7_isSpan ∨ CLn RX7 101 fi_X7_isSpan := Or.inl ⟨tbl_mem 450 (by decide +kernel) rfl, tbl_mem 451 (by decide +kernel) rfl⟩
theorem cl_L_23 : CLv RL 23 fi_X7_anchor := ⟨tbl_mem 455 (by decide +kernel) rfl, tbl_mem 456 (by decide +kernel) rfl, tbl_mem 457 (by decide +kernel) rfl⟩
theorem cl_L_27 : CLv RL 27 fi_X7_redden := ⟨tbl_mem 459 (by decide +kernel) rfl, tbl_mem 460 (by decide +kernel) rfl, tbl_mem 461 (by decide +kernel) rfl⟩
theorem cl_L_32 : CLv RL 32 fi_X7_redness := ⟨tbl_mem 463 (by decide +kernel) rfl, tbl_mem 464 (by decide +kernel) rfl, tbl_mem 465 (by decide +kernel) rfl⟩
theorem cl_L_37 : CLv RL 37 fi_X7_leave := ⟨tbl_mem 468 (by decide +kernel) rfl, tbl_mem 469 (by decide +kernel) rfl, tbl_mem 470 (by decide +kernel) rfl⟩
theorem cl_X7_116 : CLv RX7 116 fi_X5_has := ⟨tbl_mem 472 (by decide +kernel) rfl, tbl_mem 443 (by decide +kernel) rfl, tbl_mem 444 (by decide +kernel) rfl⟩
theorem cl_X7_123 : CLs RX7 123 fi_X7_asNumber ∨ CLn RX7 123 fi_X7_asNumber := Or.inl ⟨tbl_mem 473 (by decide +kernel) rfl, tbl_mem 474 (by decide +kernel) rfl⟩
theorem cl_L_42 : CLv RL 42 fi_X7_undo := ⟨tbl_mem 476 (by decide +kernel) rfl, tbl_mem 477 (by decide +kernel) rfl, tbl_mem 478 (by decide +kernel) rfl⟩
theorem cl_X7_127 : CLv RX7 127 fi_X5_takeBack := ⟨tbl_mem 480 (by decide +kernel) rfl, tbl_mem 481 (by decide +kernel) rfl, tbl_mem 482 (by decide +kernel) rfl⟩
theorem cl_L_47 : CLv RL 47 fi_X7_redo := ⟨tbl_mem 485 (by decide +kernel) rfl, tbl_mem 486 (by decide +kernel) rfl, tbl_mem 487 (by decide +kernel) rfl⟩
theorem cl_X7_132 : CLv RX7 132 fi_X5_putBack := ⟨tbl_mem 489 (by decide +kernel) rfl, tbl_mem 490 (by decide +kernel) rfl, tbl_mem 491 (by decide +kernel) rfl⟩
theorem cl_L_51 : CLv RL 51 fi_X7_told := ⟨tbl_mem 493 (by decide +kernel) rfl, tbl_mem 494 (by decide +kernel) rfl, tbl_mem 495 (by decide +kernel) rfl⟩
theorem cl_X7_147 : CLv RX7 147 fi_X5_isInNet := ⟨tbl_mem 497 (by decide +kernel) rfl, tbl_mem 498 (by decide +kernel) rfl, tbl_mem 499 (by decide +kernel) rfl⟩
theorem cl_X7_150 : CLv RX7 150 fi_X7_lowOf := ⟨tbl_mem 501 (by decide +kernel) rfl, tbl_mem 503 (by decide +kernel) rfl, tbl_mem 0 (by decide +kernel) rfl⟩
theorem cl_X7_345 : CLv RX7 345 fi_X3_evenGreatest := ⟨tbl_mem 505 (by decide +kernel) rfl, tbl_mem 506 (by decide +kernel) rfl, tbl_mem 507 (by decide +kernel) rfl⟩
theorem cl_X7_350 : CLs RX7 350 fi_J9_floorDiv_7cf53 ∨ CLn RX7 350 fi_J9_floorDiv_7cf53 := Or.inl ⟨tbl_mem 509 (by decide +kernel) rfl, tbl_mem 510 (by decide +kernel) rfl⟩
theorem cl_X7_353 : CLv RX7 353 fi_X0_greatestOf := ⟨tbl_mem 512 (by decide +kernel) rfl, tbl_mem 513 (by decide +kernel) rfl, tbl_mem 514 (by decide +kernel) rfl⟩
theorem cl_X7_154 : CLv RX7 154 fi_X7_highOf := ⟨tbl_mem 516 (by decide +kernel) rfl, tbl_mem 518 (by decide +kernel) rfl, tbl_mem 1 (by decide +kernel) rfl⟩
theorem cl_X7_357 : CLv RX7 357 fi_X3_evenLeast := ⟨tbl_mem 520 (by decide +kernel) rfl, tbl_mem 521 (by decide +kernel) rfl, tbl_mem 522 (by decide +kernel) rfl⟩
theorem cl_X7_360 : CLv RX7 360 fi_X0_leastOf := ⟨tbl_mem 524 (by decide +kernel) rfl, tbl_mem 525 (by decide +kernel) rfl, tbl_mem 526 (by decide +kernel) rfl⟩
theorem cl_L_55 : CLv RL 55 fi_X7_count := ⟨tbl_mem 528 (by decide +kernel) rfl, tbl_mem 529 (by decide +kernel) rfl, tbl_mem 530 (by decide +kernel) rfl⟩
theorem cl_X7_160 : CLv RX7 160 fi_X5_howMany := ⟨tbl_mem 532 (by decide +kernel) rfl, tbl_mem 533 (by decide +kernel) rfl, tbl_mem 534 (by decide +kernel) rfl⟩
theorem cl_X5_61 : CLv RX5 61 fi_X5_isOne := ⟨tbl_mem 536 (by decide +kernel) rfl, tbl_mem 538 (by decide +kernel) rfl, tbl_mem 2 (by decide +kernel) rfl⟩
theorem cl_X5_69 : CLv RX5 69 fi_X5_isInNet := ⟨tbl_mem 540 (by decide +kernel) rfl, tbl_mem 498 (by decide +kernel) rfl, tbl_mem 499 (by decide +kernel) rfl⟩
theorem cl_X5_65 : CLs RX5 65 fi_X7_asNumber ∨ CLn RX5 65 fi_X7_asNumber := Or.inr ⟨⟨"FarCandles", tbl_mem 541 (by decide +kernel) rfl⟩, tbl_mem 474 (by decide +kernel) rfl⟩
theorem cl_X7_163 : CLv RX7 163 fi_X7_howManyLoose := ⟨tbl_mem 542 (by decide +kernel) rfl, tbl_mem 544 (by decide +kernel) rfl, tbl_mem 3 (by decide +kernel) rfl⟩
theorem cl_X7_235 : CLv RX7 235 fi_X7_quarrelsNow := ⟨tbl_mem 546 (by decide +kernel) rfl, tbl_mem 548 (by decide +kernel) rfl, tbl_mem 4 (by decide +kernel) rfl⟩
theorem cl_X7_216 : CLv RX7 216 fi_X7_load := ⟨tbl_mem 550 (by decide +kernel) rfl, tbl_mem 552 (by decide +kernel) rfl, tbl_mem 5 (by decide +kernel) rfl⟩
theorem cl_X7_363 : CLv RX7 363 fi_X1_clear := ⟨tbl_mem 554 (by decide +kernel) rfl, tbl_mem 555 (by decide +kernel) rfl, tbl_mem 556 (by decide +kernel) rfl⟩
theorem cl_X7_366 : CLv RX7 366 fi_X1_tie := ⟨tbl_mem 558 (by decide +kernel) rfl, tbl_mem 559 (by decide +kernel) rfl, tbl_mem 560 (by decide +kernel) rfl⟩
theorem cl_X7_370 : CLv RX7 370 fi_X1_span := ⟨tbl_mem 562 (by decide +kernel) rfl, tbl_mem 563 (by decide +kernel) rfl, tbl_mem 564 (by decide +kernel) rfl⟩
theorem cl_X7_270 : CLv RX7 270 fi_X1_leaveOut := ⟨tbl_mem 566 (by decide +kernel) rfl, tbl_mem 567 (by decide +kernel) rfl, tbl_mem 568 (by decide +kernel) rfl⟩
theorem cl_X7_219 : CLv RX7 219 fi_X1_quarrels := ⟨tbl_mem 570 (by decide +kernel) rfl, tbl_mem 571 (by decide +kernel) rfl, tbl_mem 572 (by decide +kernel) rfl⟩
theorem cl_X1_59 : CLv RX1 59 fi_X1_findUnrest := ⟨tbl_mem 574 (by decide +kernel) rfl, tbl_mem 576 (by decide +kernel) rfl, tbl_mem 6 (by decide +kernel) rfl⟩
theorem cl_X1_67 : CLv RX1 67 fi_X1_relaxAll := ⟨tbl_mem 578 (by decide +kernel) rfl, tbl_mem 580 (by decide +kernel) rfl, tbl_mem 7 (by decide +kernel) rfl⟩
theorem cl_X1_84 : CLv RX1 84 fi_X1_relax := ⟨tbl_mem 582 (by decide +kernel) rfl, tbl_mem 584 (by decide +kernel) rfl, tbl_mem 8 (by decide +kernel) rfl⟩
theorem cl_X7_223 : CLv RX7 223 fi_X1_reach := ⟨tbl_mem 587 (by decide +kernel) rfl, tbl_mem 588 (by decide +kernel) rfl, tbl_mem 589 (by decide +kernel) rfl⟩
theorem cl_X7_227 : CLv RX7 227 fi_X1_isReached := ⟨tbl_mem 591 (by decide +kernel) rfl, tbl_mem 592 (by decide +kernel) rfl, tbl_mem 593 (by decide +kernel) rfl⟩
theorem cl_L_62 : CLv RL 62 fi_X7_feed := ⟨tbl_mem 595 (by decide +kernel) rfl, tbl_mem 596 (by decide +kernel) rfl, tbl_mem 597 (by decide +kernel) rfl⟩
theorem cl_X7_172 : CLv RX7 172 fi_X2_append := ⟨tbl_mem 599 (by decide +kernel) rfl, tbl_mem 600 (by decide +kernel) rfl, tbl_mem 601 (by decide +kernel) rfl⟩
theorem cl_L_67 : CLv RL 67 fi_X7_read := ⟨tbl_mem 603 (by decide +kernel) rfl, tbl_mem 604 (by decide +kernel) rfl, tbl_mem 605 (by decide +kernel) rfl⟩
theorem cl_X7_176 : CLv RX7 176 fi_X2_readInto := ⟨tbl_mem 607 (by decide +kernel) rfl, tbl_mem 608 (by decide +kernel) rfl, tbl_mem 609 (by decide +kernel) rfl⟩
theorem cl_X2_34 : CLv RX2 34 fi_X3_setAsAtFirst := ⟨tbl_mem 611 (by decide +kernel) rfl, tbl_mem 612 (by decide +kernel) rfl, tbl_mem 613 (by decide +kernel) rfl⟩
theorem cl_X2_39 : CLv RX2 39 fi_X2_skipBlanks := ⟨tbl_mem 615 (by decide +kernel) rfl, tbl_mem 617 (by decide +kernel) rfl, tbl_mem 9 (by decide +kernel) rfl⟩
theorem cl_X2_42 : CLv RX2 42 fi_X2_mayBegin := ⟨tbl_mem 619 (by decide +kernel) rfl, tbl_mem 621 (by decide +kernel) rfl, tbl_mem 10 (by decide +kernel) rfl⟩
theorem cl_X2_52 : CLv RX2 52 fi_X2_isWord := ⟨tbl_mem 624 (by decide +kernel) rfl, tbl_mem 626 (by decide +kernel) rfl, tbl_mem 11 (by decide +kernel) rfl⟩
theorem cl_X2_145 : CLv RX2 145 fi_J0_length_8abf5 := ⟨tbl_mem 628 (by decide +kernel) rfl, tbl_mem 629 (by decide +kernel) rfl, tbl_mem 630 (by decide +kernel) rfl⟩
theorem cl_J0_335 : CLv RJ0 335 fi_J0_coder_7d493 := ⟨tbl_mem 632 (by decide +kernel) rfl, tbl_mem 633 (by decide +kernel) rfl, tbl_mem 634 (by decide +kernel) rfl⟩
theorem cl_X2_141 : CLv RX2 141 fi_X2_byteAt := ⟨tbl_mem 638 (by decide +kernel) rfl, tbl_mem 640 (by decide +kernel) rfl, tbl_mem 12 (by decide +kernel) rfl⟩
theorem cl_X2_149 : CLv RX2 149 fi_J0_charAt_5068e := ⟨tbl_mem 642 (by decide +kernel) rfl, tbl_mem 643 (by decide +kernel) rfl, tbl_mem 644 (by decide +kernel) rfl⟩
theorem cl_J0_492 : CLv RJ0 492 fi_J0_isLatin1_aae02 := ⟨tbl_mem 646 (by decide +kernel) rfl, tbl_mem 647 (by decide +kernel) rfl, tbl_mem 648 (by decide +kernel) rfl⟩
theorem cl_J0_495 : CLs RJ0 495 fi_J1_charAt_3b067 ∨ CLn RJ0 495 fi_J1_charAt_3b067 := Or.inl ⟨tbl_mem 650 (by decide +kernel) rfl, tbl_mem 651 (by decide +kernel) rfl⟩
theorem cl_J1_9 : CLs RJ1 9 fi_J0_checkIndex_df160 ∨ CLn RJ1 9 fi_J0_checkIndex_df160 := Or.inl ⟨tbl_mem 653 (by decide +kernel) rfl, tbl_mem 654 (by decide +kernel) rfl⟩
theorem cl_J2_414 : CLs RJ2 414 fi_J0_checkIndex_df160 ∨ CLn RJ2 414 fi_J0_checkIndex_df160 := Or.inl ⟨tbl_mem 670 (by decide +kernel) rfl, tbl_mem 654 (by decide +kernel) rfl⟩
theorem cl_X2_153 : CLs RX2 153 fi_X2_isLetter ∨ CLn RX2 153 fi_X2_isLetter := Or.inl ⟨tbl_mem 680 (by decide +kernel) rfl, tbl_mem 681 (by decide +kernel) rfl⟩
theorem cl_X2_64 : CLv RX2 64 fi_X2_fail := ⟨tbl_mem 687 (by decide +kernel) rfl, tbl_mem 689 (by decide +kernel) rfl, tbl_mem 13 (by decide +kernel) rfl⟩
theorem cl_X2_46 : CLv RX2 46 fi_X2_readClause := ⟨tbl_mem 691 (by decide +kernel) rfl, tbl_mem 693 (by decide +kernel) rfl, tbl_mem 14 (by decide +kernel) rfl⟩
theorem cl_X2_71 : CLv RX2 71 fi_X2_tookWord := ⟨tbl_mem 695 (by decide +kernel) rfl, tbl_mem 697 (by decide +kernel) rfl, tbl_mem 15 (by decide +kernel) rfl⟩
theorem cl_X2_74 : CLv RX2 74 fi_X2_readSort := ⟨tbl_mem 699 (by decide +kernel) rfl, tbl_mem 701 (by decide +kernel) rfl, tbl_mem 16 (by decide +kernel) rfl⟩
theorem cl_X2_92 : CLv RX2 92 fi_X2_readNumber := ⟨tbl_mem 703 (by decide +kernel) rfl, tbl_mem 705 (by decide +kernel) rfl, tbl_mem 17 (by decide +kernel) rfl⟩
theorem cl_X2_157 : CLv RX2 157 fi_X2_readFigures := ⟨tbl_mem 707 (by decide +kernel) rfl, tbl_mem 709 (by decide +kernel) rfl, tbl_mem 18 (by decide +kernel) rfl⟩
theorem cl_X2_161 : CLs RX2 161 fi_X2_isFigure ∨ CLn RX2 161 fi_X2_isFigure := Or.inl ⟨tbl_mem 711 (by decide +kernel) rfl, tbl_mem 712 (by decide +kernel) rfl⟩
theorem cl_X2_164 : CLs RX2 164 fi_X7_isFrom ∨ CLn RX2 164 fi_X7_isFrom := Or.inr ⟨⟨"FarCandles", tbl_mem 714 (by decide +kernel) rfl⟩, tbl_mem 418 (by decide +kernel) rfl⟩
theorem cl_X2_167 : CLv RX2 167 fi_X2_keep := ⟨tbl_mem 715 (by decide +kernel) rfl, tbl_mem 717 (by decide +kernel) rfl, tbl_mem 19 (by decide +kernel) rfl⟩
theorem cl_X2_86 : CLv RX2 86 fi_X2_readWord := ⟨tbl_mem 720 (by decide +kernel) rfl, tbl_mem 722 (by decide +kernel) rfl, tbl_mem 20 (by decide +kernel) rfl⟩
theorem cl_X2_97 : CLv RX2 97 fi_X2_readSigned := ⟨tbl_mem 724 (by decide +kernel) rfl, tbl_mem 726 (by decide +kernel) rfl, tbl_mem 21 (by decide +kernel) rfl⟩
theorem cl_X2_102 : CLv RX2 102 fi_X2_latest := ⟨tbl_mem 729 (by decide +kernel) rfl, tbl_mem 731 (by decide +kernel) rfl, tbl_mem 22 (by decide +kernel) rfl⟩
theorem cl_X2_108 : CLv RX2 108 fi_X2_readEnd := ⟨tbl_mem 734 (by decide +kernel) rfl, tbl_mem 736 (by decide +kernel) rfl, tbl_mem 23 (by decide +kernel) rfl⟩
theorem cl_X2_112 : CLv RX2 112 fi_X3_setTime := ⟨tbl_mem 738 (by decide +kernel) rfl, tbl_mem 739 (by decide +kernel) rfl, tbl_mem 740 (by decide +kernel) rfl⟩
theorem cl_X2_116 : CLv RX2 116 fi_X3_setColour := ⟨tbl_mem 742 (by decide +kernel) rfl, tbl_mem 743 (by decide +kernel) rfl, tbl_mem 744 (by decide +kernel) rfl⟩
theorem cl_X2_77 : CLv RX2 77 fi_X2_readDust := ⟨tbl_mem 746 (by decide +kernel) rfl, tbl_mem 748 (by decide +kernel) rfl, tbl_mem 24 (by decide +kernel) rfl⟩
theorem cl_X2_80 : CLv RX2 80 fi_X2_readBlur := ⟨tbl_mem 750 (by decide +kernel) rfl, tbl_mem 752 (by decide +kernel) rfl, tbl_mem 25 (by decide +kernel) rfl⟩
theorem cl_X2_83 : CLv RX2 83 fi_X2_readOwn := ⟨tbl_mem 755 (by decide +kernel) rfl, tbl_mem 757 (by decide +kernel) rfl, tbl_mem 26 (by decide +kernel) rfl⟩
theorem cl_X2_89 : CLv RX2 89 fi_X2_readClaim := ⟨tbl_mem 759 (by decide +kernel) rfl, tbl_mem 761 (by decide +kernel) rfl, tbl_mem 27 (by decide +kernel) rfl⟩
theorem cl_X2_137 : CLv RX2 137 fi_X3_addClaim := ⟨tbl_mem 767 (by decide +kernel) rfl, tbl_mem 768 (by decide +kernel) rfl, tbl_mem 769 (by decide +kernel) rfl⟩
theorem cl_L_71 : CLv RL 71 fi_X7_fault := ⟨tbl_mem 772 (by decide +kernel) rfl, tbl_mem 773 (by decide +kernel) rfl, tbl_mem 774 (by decide +kernel) rfl⟩
theorem cl_L_75 : CLv RL 75 fi_X7_rule := ⟨tbl_mem 776 (by decide +kernel) rfl, tbl_mem 777 (by decide +kernel) rfl, tbl_mem 778 (by decide +kernel) rfl⟩
theorem cl_L_79 : CLv RL 79 fi_X7_ends := ⟨tbl_mem 780 (by decide +kernel) rfl, tbl_mem 781 (by decide +kernel) rfl, tbl_mem 782 (by decide +kernel) rfl⟩
theorem cl_X7_210 : CLv RX7 210 fi_X7_isKnownBy := ⟨tbl_mem 784 (by decide +kernel) rfl, tbl_mem 786 (by decide +kernel) rfl, tbl_mem 28 (by decide +kernel) rfl⟩
theorem cl_X7_213 : CLs RX7 213 fi_X7_isEnd ∨ CLn RX7 213 fi_X7_isEnd := Or.inl ⟨tbl_mem 788 (by decide +kernel) rfl, tbl_mem 789 (by decide +kernel) rfl⟩
theorem cl_X7_231 : CLv RX7 231 fi_X1_bound := ⟨tbl_mem 793 (by decide +kernel) rfl, tbl_mem 794 (by decide +kernel) rfl, tbl_mem 795 (by decide +kernel) rfl⟩
theorem cl_L_83 : CLv RL 83 fi_X7_between := ⟨tbl_mem 797 (by decide +kernel) rfl, tbl_mem 798 (by decide +kernel) rfl, tbl_mem 799 (by decide +kernel) rfl⟩
theorem cl_L_87 : CLv RL 87 fi_X7_widening := ⟨tbl_mem 801 (by decide +kernel) rfl, tbl_mem 802 (by decide +kernel) rfl, tbl_mem 803 (by decide +kernel) rfl⟩
theorem cl_X7_238 : CLv RX7 238 fi_X4_leastWidening := ⟨tbl_mem 805 (by decide +kernel) rfl, tbl_mem 806 (by decide +kernel) rfl, tbl_mem 807 (by decide +kernel) rfl⟩
theorem cl_X4_30 : CLv RX4 30 fi_X1_quarrels := ⟨tbl_mem 809 (by decide +kernel) rfl, tbl_mem 571 (by decide +kernel) rfl, tbl_mem 572 (by decide +kernel) rfl⟩
theorem cl_X4_35 : CLv RX4 35 fi_X1_widen := ⟨tbl_mem 811 (by decide +kernel) rfl, tbl_mem 812 (by decide +kernel) rfl, tbl_mem 813 (by decide +kernel) rfl⟩
theorem cl_L_91 : CLv RL 91 fi_X7_blame := ⟨tbl_mem 815 (by decide +kernel) rfl, tbl_mem 816 (by decide +kernel) rfl, tbl_mem 817 (by decide +kernel) rfl⟩
theorem cl_X7_242 : CLv RX7 242 fi_X4_listsThatEndIt := ⟨tbl_mem 819 (by decide +kernel) rfl, tbl_mem 820 (by decide +kernel) rfl, tbl_mem 821 (by decide +kernel) rfl⟩
theorem cl_X4_39 : CLv RX4 39 fi_X1_leaveOut := ⟨tbl_mem 823 (by decide +kernel) rfl, tbl_mem 567 (by decide +kernel) rfl, tbl_mem 568 (by decide +kernel) rfl⟩
theorem cl_L_95 : CLv RL 95 fi_X7_odd := ⟨tbl_mem 824 (by decide +kernel) rfl, tbl_mem 825 (by decide +kernel) rfl, tbl_mem 826 (by decide +kernel) rfl⟩
theorem cl_X7_245 : CLv RX7 245 fi_X4_seekFewest := ⟨tbl_mem 828 (by decide +kernel) rfl, tbl_mem 829 (by decide +kernel) rfl, tbl_mem 830 (by decide +kernel) rfl⟩
theorem cl_X4_43 : CLv RX4 43 fi_X1_findRing := ⟨tbl_mem 832 (by decide +kernel) rfl, tbl_mem 833 (by decide +kernel) rfl, tbl_mem 834 (by decide +kernel) rfl⟩
theorem cl_X1_63 : CLv RX1 63 fi_X1_otherEnd := ⟨tbl_mem 836 (by decide +kernel) rfl, tbl_mem 838 (by decide +kernel) rfl, tbl_mem 29 (by decide +kernel) rfl⟩
theorem cl_X4_47 : CLv RX4 47 fi_X4_seekPairs := ⟨tbl_mem 840 (by decide +kernel) rfl, tbl_mem 842 (by decide +kernel) rfl, tbl_mem 30 (by decide +kernel) rfl⟩
theorem cl_X4_51 : CLs RX4 51 fi_J9_min_7cf53 ∨ CLn RX4 51 fi_J9_min_7cf53 := Or.inl ⟨tbl_mem 844 (by decide +kernel) rfl, tbl_mem 845 (by decide +kernel) rfl⟩
theorem cl_X4_57 : CLs RX4 57 fi_J9_max_7cf53 ∨ CLn RX4 57 fi_J9_max_7cf53 := Or.inl ⟨tbl_mem 847 (by decide +kernel) rfl, tbl_mem 848 (by decide +kernel) rfl⟩
theorem cl_X4_60 : CLv RX4 60 fi_X4_isAhead := ⟨tbl_mem 850 (by decide +kernel) rfl, tbl_mem 852 (by decide +kernel) rfl, tbl_mem 31 (by decide +kernel) rfl⟩
theorem cl_L_99 : CLv RL 99 fi_X7_worth := ⟨tbl_mem 854 (by decide +kernel) rfl, tbl_mem 855 (by decide +kernel) rfl, tbl_mem 856 (by decide +kernel) rfl⟩
theorem cl_X7_258 : CLv RX7 258 fi_X1_findEnds := ⟨tbl_mem 858 (by decide +kernel) rfl, tbl_mem 859 (by decide +kernel) rfl, tbl_mem 860 (by decide +kernel) rfl⟩
theorem cl_X1_72 : CLv RX1 72 fi_X1_reach := ⟨tbl_mem 862 (by decide +kernel) rfl, tbl_mem 588 (by decide +kernel) rfl, tbl_mem 589 (by decide +kernel) rfl⟩
theorem cl_X1_76 : CLv RX1 76 fi_X1_isReached := ⟨tbl_mem 863 (by decide +kernel) rfl, tbl_mem 592 (by decide +kernel) rfl, tbl_mem 593 (by decide +kernel) rfl⟩
theorem cl_X1_80 : CLv RX1 80 fi_X1_bound := ⟨tbl_mem 864 (by decide +kernel) rfl, tbl_mem 794 (by decide +kernel) rfl, tbl_mem 795 (by decide +kernel) rfl⟩
theorem cl_L_103 : CLv RL 103 fi_X7_lead := ⟨tbl_mem 866 (by decide +kernel) rfl, tbl_mem 867 (by decide +kernel) rfl, tbl_mem 868 (by decide +kernel) rfl⟩
theorem cl_X7_274 : CLv RX7 274 fi_X7_leadOf := ⟨tbl_mem 870 (by decide +kernel) rfl, tbl_mem 872 (by decide +kernel) rfl, tbl_mem 32 (by decide +kernel) rfl⟩
theorem cl_X7_373 : CLv RX7 373 fi_X1_markWay := ⟨tbl_mem 874 (by decide +kernel) rfl, tbl_mem 875 (by decide +kernel) rfl, tbl_mem 876 (by decide +kernel) rfl⟩
theorem cl_L_107 : CLv RL 107 fi_X7_steps := ⟨tbl_mem 878 (by decide +kernel) rfl, tbl_mem 879 (by decide +kernel) rfl, tbl_mem 880 (by decide +kernel) rfl⟩
theorem cl_X7_278 : CLv RX7 278 fi_X5_fewestLights := ⟨tbl_mem 882 (by decide +kernel) rfl, tbl_mem 883 (by decide +kernel) rfl, tbl_mem 884 (by decide +kernel) rfl⟩
theorem cl_X5_72 : CLv RX5 72 fi_X5_noteSortsOfHomes := ⟨tbl_mem 886 (by decide +kernel) rfl, tbl_mem 888 (by decide +kernel) rfl, tbl_mem 33 (by decide +kernel) rfl⟩
theorem cl_X5_75 : CLv RX5 75 fi_X5_homesWithShift := ⟨tbl_mem 890 (by decide +kernel) rfl, tbl_mem 892 (by decide +kernel) rfl, tbl_mem 34 (by decide +kernel) rfl⟩
theorem cl_X5_79 : CLv RX5 79 fi_X5_oneStepOn := ⟨tbl_mem 894 (by decide +kernel) rfl, tbl_mem 896 (by decide +kernel) rfl, tbl_mem 35 (by decide +kernel) rfl⟩
theorem cl_L_111 : CLv RL 111 fi_X7_far := ⟨tbl_mem 898 (by decide +kernel) rfl, tbl_mem 899 (by decide +kernel) rfl, tbl_mem 900 (by decide +kernel) rfl⟩
theorem cl_X7_281 : CLs RX7 281 fi_X7_isFarness ∨ CLn RX7 281 fi_X7_isFarness := Or.inl ⟨tbl_mem 902 (by decide +kernel) rfl, tbl_mem 903 (by decide +kernel) rfl⟩
theorem cl_X7_286 : CLs RX7 286 fi_X6_atLeast ∨ CLn RX7 286 fi_X6_atLeast := Or.inl ⟨tbl_mem 906 (by decide +kernel) rfl, tbl_mem 907 (by decide +kernel) rfl⟩
theorem cl_X6_33 : CLs RX6 33 fi_X6_tenTimes ∨ CLn RX6 33 fi_X6_tenTimes := Or.inl ⟨tbl_mem 911 (by decide +kernel) rfl, tbl_mem 912 (by decide +kernel) rfl⟩
theorem cl_X7_290 : CLs RX7 290 fi_X6_atMost ∨ CLn RX7 290 fi_X6_atMost := Or.inl ⟨tbl_mem 915 (by decide +kernel) rfl, tbl_mem 916 (by decide +kernel) rfl⟩
theorem cl_X6_37 : CLs RX6 37 fi_X6_atLeast ∨ CLn RX6 37 fi_X6_atLeast := Or.inl ⟨tbl_mem 918 (by decide +kernel) rfl, tbl_mem 907 (by decide +kernel) rfl⟩
theorem cl_L_116 : CLv RL 116 fi_X7_boxes := ⟨tbl_mem 920 (by decide +kernel) rfl, tbl_mem 921 (by decide +kernel) rfl, tbl_mem 922 (by decide +kernel) rfl⟩
theorem cl_X7_293 : CLv RX7 293 fi_X6_hear := ⟨tbl_mem 924 (by decide +kernel) rfl, tbl_mem 925 (by decide +kernel) rfl, tbl_mem 926 (by decide +kernel) rfl⟩
theorem cl_X6_44 : CLv RX6 44 fi_X1_liesWithinFar := ⟨tbl_mem 928 (by decide +kernel) rfl, tbl_mem 929 (by decide +kernel) rfl, tbl_mem 930 (by decide +kernel) rfl⟩
theorem cl_X6_56 : CLs RX6 56 fi_X6_atMost ∨ CLn RX6 56 fi_X6_atMost := Or.inl ⟨tbl_mem 933 (by decide +kernel) rfl, tbl_mem 916 (by decide +kernel) rfl⟩
theorem cl_X7_297 : CLv RX7 297 fi_X6_howManySpeak := ⟨tbl_mem 934 (by decide +kernel) rfl, tbl_mem 935 (by decide +kernel) rfl, tbl_mem 936 (by decide +kernel) rfl⟩
theorem cl_X6_59 : CLs RX6 59 fi_X7_asNumber ∨ CLn RX6 59 fi_X7_asNumber := Or.inr ⟨⟨"FarCandles", tbl_mem 938 (by decide +kernel) rfl⟩, tbl_mem 474 (by decide +kernel) rfl⟩
theorem cl_X7_300 : CLv RX7 300 fi_X6_keptBoxes := ⟨tbl_mem 939 (by decide +kernel) rfl, tbl_mem 940 (by decide +kernel) rfl, tbl_mem 941 (by decide +kernel) rfl⟩
theorem cl_X6_63 : CLv RX6 63 fi_X6_firstAgainst := ⟨tbl_mem 943 (by decide +kernel) rfl, tbl_mem 944 (by decide +kernel) rfl, tbl_mem 945 (by decide +kernel) rfl⟩
theorem cl_X6_67 : CLv RX6 67 fi_X6_couldHave := ⟨tbl_mem 947 (by decide +kernel) rfl, tbl_mem 949 (by decide +kernel) rfl, tbl_mem 36 (by decide +kernel) rfl⟩
theorem cl_X6_73 : CLs RX6 73 fi_J9_floorDiv_f86c9 ∨ CLn RX6 73 fi_J9_floorDiv_f86c9 := Or.inl ⟨tbl_mem 952 (by decide +kernel) rfl, tbl_mem 953 (by decide +kernel) rfl⟩
theorem cl_L_120 : CLv RL 120 fi_X7_box := ⟨tbl_mem 955 (by decide +kernel) rfl, tbl_mem 956 (by decide +kernel) rfl, tbl_mem 957 (by decide +kernel) rfl⟩
theorem cl_X7_303 : CLv RX7 303 fi_X6_firstAgainst := ⟨tbl_mem 959 (by decide +kernel) rfl, tbl_mem 944 (by decide +kernel) rfl, tbl_mem 945 (by decide +kernel) rfl⟩
theorem cl_L_124 : CLv RL 124 fi_X7_delay := ⟨tbl_mem 960 (by decide +kernel) rfl, tbl_mem 961 (by decide +kernel) rfl, tbl_mem 962 (by decide +kernel) rfl⟩
theorem cl_X7_312 : CLv RX7 312 fi_X1_liesWithinFar := ⟨tbl_mem 967 (by decide +kernel) rfl, tbl_mem 929 (by decide +kernel) rfl, tbl_mem 930 (by decide +kernel) rfl⟩
theorem cl_X7_317 : CLs RX7 317 fi_J9_max_f86c9 ∨ CLn RX7 317 fi_J9_max_f86c9 := Or.inl ⟨tbl_mem 969 (by decide +kernel) rfl, tbl_mem 970 (by decide +kernel) rfl⟩
theorem cl_L_129 : CLv RL 129 fi_X7_blind := ⟨tbl_mem 972 (by decide +kernel) rfl, tbl_mem 973 (by decide +kernel) rfl, tbl_mem 974 (by decide +kernel) rfl⟩
theorem cl_L_133 : CLv RL 133 fi_X7_open := ⟨tbl_mem 976 (by decide +kernel) rfl, tbl_mem 977 (by decide +kernel) rfl, tbl_mem 978 (by decide +kernel) rfl⟩
theorem cl_L_137 : CLv RL 137 fi_X7_claim := ⟨tbl_mem 980 (by decide +kernel) rfl, tbl_mem 981 (by decide +kernel) rfl, tbl_mem 982 (by decide +kernel) rfl⟩
theorem cl_X7_323 : CLv RX7 323 fi_X7_standOfClaim := ⟨tbl_mem 984 (by decide +kernel) rfl, tbl_mem 986 (by decide +kernel) rfl, tbl_mem 37 (by decide +kernel) rfl⟩
theorem cl_L_12 : CLi RL 12 fi_X8_init := ⟨Or.inr (tbl_mem 990 (by decide +kernel) rfl), rfl, tbl_mem 991 (by decide +kernel) rfl, rfl⟩
theorem cl_X8_121 : CLv RX8 121 fi_X8_clearRules := ⟨tbl_mem 994 (by decide +kernel) rfl, tbl_mem 996 (by decide +kernel) rfl, tbl_mem 38 (by decide +kernel) rfl⟩
theorem cl_L_17 : CLv RL 17 fi_X8_light := ⟨tbl_mem 1170 (by decide +kernel) rfl, tbl_mem 1171 (by decide +kernel) rfl, tbl_mem 1172 (by decide +kernel) rfl⟩
theorem cl_X8_143 : CLs RX8 143 fi_X8_isList ∨ CLn RX8 143 fi_X8_isList := Or.inl ⟨tbl_mem 1174 (by decide +kernel) rfl, tbl_mem 1175 (by decide +kernel) rfl⟩
theorem cl_X8_130 : CLs RX8 130 fi_X8_in ∨ CLn RX8 130 fi_X8_in := Or.inl ⟨tbl_mem 1178 (by decide +kernel) rfl, tbl_mem 1179 (by decide +kernel) rfl⟩
theorem cl_X8_147 : CLs RX8 147 fi_X8_isSort ∨ CLn RX8 147 fi_X8_isSort := Or.inl ⟨tbl_mem 1181 (by decide +kernel) rfl, tbl_mem 1182 (by decide +kernel) rfl⟩
theorem cl_X8_150 : CLs RX8 150 fi_X8_isHome ∨ CLn RX8 150 fi_X8_isHome := Or.inl ⟨tbl_mem 1184 (by decide +kernel) rfl, tbl_mem 1185 (by decide +kernel) rfl⟩
theorem cl_X8_165 : CLv RX8 165 fi_X8_add := ⟨tbl_mem 1195 (by decide +kernel) rfl, tbl_mem 1197 (by decide +kernel) rfl, tbl_mem 39 (by decide +kernel) rfl⟩
theorem cl_L_22 : CLv RL 22 fi_X8_shift := ⟨tbl_mem 1200 (by decide +kernel) rfl, tbl_mem 1201 (by decide +kernel) rfl, tbl_mem 1202 (by decide +kernel) rfl⟩
theorem cl_X8_173 : CLs RX8 173 fi_X8_isSpan ∨ CLn RX8 173 fi_X8_isSpan := Or.inl ⟨tbl_mem 1204 (by decide +kernel) rfl, tbl_mem 1205 (by decide +kernel) rfl⟩
theorem cl_L_26 : CLv RL 26 fi_X8_anchor := ⟨tbl_mem 1209 (by decide +kernel) rfl, tbl_mem 1210 (by decide +kernel) rfl, tbl_mem 1211 (by decide +kernel) rfl⟩
theorem cl_L_31 : CLv RL 31 fi_X8_redden := ⟨tbl_mem 1213 (by decide +kernel) rfl, tbl_mem 1214 (by decide +kernel) rfl, tbl_mem 1215 (by decide +kernel) rfl⟩
theorem cl_L_36 : CLv RL 36 fi_X8_redness := ⟨tbl_mem 1217 (by decide +kernel) rfl, tbl_mem 1218 (by decide +kernel) rfl, tbl_mem 1219 (by decide +kernel) rfl⟩
theorem cl_L_41 : CLv RL 41 fi_X8_leave := ⟨tbl_mem 1223 (by decide +kernel) rfl, tbl_mem 1224 (by decide +kernel) rfl, tbl_mem 1225 (by decide +kernel) rfl⟩
theorem cl_X8_181 : CLv RX8 181 fi_X8_noTelling := ⟨tbl_mem 1227 (by decide +kernel) rfl, tbl_mem 1229 (by decide +kernel) rfl, tbl_mem 40 (by decide +kernel) rfl⟩
theorem cl_X8_184 : CLs RX8 184 fi_X8_one ∨ CLn RX8 184 fi_X8_one := Or.inl ⟨tbl_mem 1231 (by decide +kernel) rfl, tbl_mem 1232 (by decide +kernel) rfl⟩
theorem cl_L_46 : CLv RL 46 fi_X8_undo := ⟨tbl_mem 1234 (by decide +kernel) rfl, tbl_mem 1235 (by decide +kernel) rfl, tbl_mem 1236 (by decide +kernel) rfl⟩
theorem cl_L_50 : CLv RL 50 fi_X8_redo := ⟨tbl_mem 1239 (by decide +kernel) rfl, tbl_mem 1240 (by decide +kernel) rfl, tbl_mem 1241 (by decide +kernel) rfl⟩
theorem cl_L_66 : CLv RL 66 fi_X8_feed := ⟨tbl_mem 1243 (by decide +kernel) rfl, tbl_mem 1244 (by decide +kernel) rfl, tbl_mem 1245 (by decide +kernel) rfl⟩
theorem cl_L_70 : CLv RL 70 fi_X8_read := ⟨tbl_mem 1249 (by decide +kernel) rfl, tbl_mem 1250 (by decide +kernel) rfl, tbl_mem 1251 (by decide +kernel) rfl⟩
theorem cl_X8_208 : CLv RX8 208 fi_X8_here := ⟨tbl_mem 1253 (by decide +kernel) rfl, tbl_mem 1255 (by decide +kernel) rfl, tbl_mem 41 (by decide +kernel) rfl⟩
theorem cl_X8_231 : CLv RX8 231 fi_X8_takeWord := ⟨tbl_mem 1257 (by decide +kernel) rfl, tbl_mem 1259 (by decide +kernel) rfl, tbl_mem 42 (by decide +kernel) rfl⟩
theorem cl_X8_279 : CLv RX8 279 fi_X8_clauseOf := ⟨tbl_mem 1263 (by decide +kernel) rfl, tbl_mem 1265 (by decide +kernel) rfl, tbl_mem 43 (by decide +kernel) rfl⟩
theorem cl_X8_234 : CLv RX8 234 fi_X8_isWord := ⟨tbl_mem 1267 (by decide +kernel) rfl, tbl_mem 1269 (by decide +kernel) rfl, tbl_mem 44 (by decide +kernel) rfl⟩
theorem cl_X8_226 : CLv RX8 226 fi_X8_want := ⟨tbl_mem 1271 (by decide +kernel) rfl, tbl_mem 1273 (by decide +kernel) rfl, tbl_mem 45 (by decide +kernel) rfl⟩
theorem cl_X8_282 : CLv RX8 282 fi_X8_readClause := ⟨tbl_mem 1275 (by decide +kernel) rfl, tbl_mem 1277 (by decide +kernel) rfl, tbl_mem 46 (by decide +kernel) rfl⟩
theorem cl_X8_255 : CLv RX8 255 fi_X8_readSort := ⟨tbl_mem 1279 (by decide +kernel) rfl, tbl_mem 1281 (by decide +kernel) rfl, tbl_mem 47 (by decide +kernel) rfl⟩
theorem cl_X8_238 : CLv RX8 238 fi_X8_takeNumber := ⟨tbl_mem 1283 (by decide +kernel) rfl, tbl_mem 1285 (by decide +kernel) rfl, tbl_mem 48 (by decide +kernel) rfl⟩
theorem cl_X8_246 : CLv RX8 246 fi_X8_readSpan := ⟨tbl_mem 1290 (by decide +kernel) rfl, tbl_mem 1292 (by decide +kernel) rfl, tbl_mem 49 (by decide +kernel) rfl⟩
theorem cl_X8_242 : CLv RX8 242 fi_X8_takeTo := ⟨tbl_mem 1294 (by decide +kernel) rfl, tbl_mem 1296 (by decide +kernel) rfl, tbl_mem 50 (by decide +kernel) rfl⟩
theorem cl_X8_264 : CLv RX8 264 fi_X8_readBlur := ⟨tbl_mem 1298 (by decide +kernel) rfl, tbl_mem 1300 (by decide +kernel) rfl, tbl_mem 51 (by decide +kernel) rfl⟩
theorem cl_X8_270 : CLv RX8 270 fi_X8_readClaim := ⟨tbl_mem 1302 (by decide +kernel) rfl, tbl_mem 1304 (by decide +kernel) rfl, tbl_mem 52 (by decide +kernel) rfl⟩
theorem cl_X8_285 : CLv RX8 285 fi_X8_takeRules := ⟨tbl_mem 1308 (by decide +kernel) rfl, tbl_mem 1310 (by decide +kernel) rfl, tbl_mem 53 (by decide +kernel) rfl⟩
theorem cl_L_74 : CLv RL 74 fi_X8_fault := ⟨tbl_mem 1312 (by decide +kernel) rfl, tbl_mem 1313 (by decide +kernel) rfl, tbl_mem 1314 (by decide +kernel) rfl⟩
theorem cl_L_78 : CLv RL 78 fi_X8_rule := ⟨tbl_mem 1316 (by decide +kernel) rfl, tbl_mem 1317 (by decide +kernel) rfl, tbl_mem 1318 (by decide +kernel) rfl⟩
theorem cl_L_54 : CLv RL 54 fi_X8_told := ⟨tbl_mem 1321 (by decide +kernel) rfl, tbl_mem 1322 (by decide +kernel) rfl, tbl_mem 1323 (by decide +kernel) rfl⟩
theorem cl_X8_309 : CLv RX8 309 fi_X8_isIn := ⟨tbl_mem 1325 (by decide +kernel) rfl, tbl_mem 1327 (by decide +kernel) rfl, tbl_mem 54 (by decide +kernel) rfl⟩
theorem cl_X8_327 : CLv RX8 327 fi_X8_lowOf := ⟨tbl_mem 1329 (by decide +kernel) rfl, tbl_mem 1331 (by decide +kernel) rfl, tbl_mem 55 (by decide +kernel) rfl⟩
theorem cl_X8_290 : CLs RX8 290 fi_X8_most ∨ CLn RX8 290 fi_X8_most := Or.inl ⟨tbl_mem 1333 (by decide +kernel) rfl, tbl_mem 1334 (by decide +kernel) rfl⟩
theorem cl_X8_295 : CLs RX8 295 fi_X8_ceiling ∨ CLn RX8 295 fi_X8_ceiling := Or.inl ⟨tbl_mem 1337 (by decide +kernel) rfl, tbl_mem 1338 (by decide +kernel) rfl⟩
theorem cl_X8_124 : CLs RX8 124 fi_X8_floor ∨ CLn RX8 124 fi_X8_floor := Or.inl ⟨tbl_mem 1340 (by decide +kernel) rfl, tbl_mem 1341 (by decide +kernel) rfl⟩
theorem cl_X8_319 : CLv RX8 319 fi_X8_highOf := ⟨tbl_mem 1344 (by decide +kernel) rfl, tbl_mem 1346 (by decide +kernel) rfl, tbl_mem 56 (by decide +kernel) rfl⟩
theorem cl_X8_300 : CLs RX8 300 fi_X8_least ∨ CLn RX8 300 fi_X8_least := Or.inl ⟨tbl_mem 1348 (by decide +kernel) rfl, tbl_mem 1349 (by decide +kernel) rfl⟩
theorem cl_L_59 : CLv RL 59 fi_X8_count := ⟨tbl_mem 1351 (by decide +kernel) rfl, tbl_mem 1352 (by decide +kernel) rfl, tbl_mem 1353 (by decide +kernel) rfl⟩
theorem cl_X8_341 : CLv RX8 341 fi_X8_looseOnes := ⟨tbl_mem 1355 (by decide +kernel) rfl, tbl_mem 1357 (by decide +kernel) rfl, tbl_mem 57 (by decide +kernel) rfl⟩
theorem cl_X8_335 : CLv RX8 335 fi_X8_sumWays := ⟨tbl_mem 1359 (by decide +kernel) rfl, tbl_mem 1361 (by decide +kernel) rfl, tbl_mem 58 (by decide +kernel) rfl⟩
theorem cl_X8_330 : CLv RX8 330 fi_X8_layWays := ⟨tbl_mem 1363 (by decide +kernel) rfl, tbl_mem 1365 (by decide +kernel) rfl, tbl_mem 59 (by decide +kernel) rfl⟩
theorem cl_X8_305 : CLs RX8 305 fi_X8_cell ∨ CLn RX8 305 fi_X8_cell := Or.inl ⟨tbl_mem 1368 (by decide +kernel) rfl, tbl_mem 1369 (by decide +kernel) rfl⟩
theorem cl_X8_312 : CLv RX8 312 fi_X8_lower := ⟨tbl_mem 1371 (by decide +kernel) rfl, tbl_mem 1373 (by decide +kernel) rfl, tbl_mem 60 (by decide +kernel) rfl⟩
theorem cl_X8_316 : CLv RX8 316 fi_X8_upper := ⟨tbl_mem 1375 (by decide +kernel) rfl, tbl_mem 1377 (by decide +kernel) rfl, tbl_mem 61 (by decide +kernel) rfl⟩
theorem cl_X8_338 : CLv RX8 338 fi_X8_isLoose := ⟨tbl_mem 1380 (by decide +kernel) rfl, tbl_mem 1382 (by decide +kernel) rfl, tbl_mem 62 (by decide +kernel) rfl⟩
theorem cl_L_82 : CLv RL 82 fi_X8_ends := ⟨tbl_mem 1384 (by decide +kernel) rfl, tbl_mem 1385 (by decide +kernel) rfl, tbl_mem 1386 (by decide +kernel) rfl⟩
theorem cl_X8_351 : CLv RX8 351 fi_X8_isKnown := ⟨tbl_mem 1388 (by decide +kernel) rfl, tbl_mem 1390 (by decide +kernel) rfl, tbl_mem 63 (by decide +kernel) rfl⟩
theorem cl_X8_354 : CLv RX8 354 fi_X8_known := ⟨tbl_mem 1392 (by decide +kernel) rfl, tbl_mem 1394 (by decide +kernel) rfl, tbl_mem 64 (by decide +kernel) rfl⟩
theorem cl_X8_362 : CLv RX8 362 fi_X8_lowEnd := ⟨tbl_mem 1398 (by decide +kernel) rfl, tbl_mem 1400 (by decide +kernel) rfl, tbl_mem 65 (by decide +kernel) rfl⟩
theorem cl_X8_365 : CLv RX8 365 fi_X8_highEnd := ⟨tbl_mem 1402 (by decide +kernel) rfl, tbl_mem 1404 (by decide +kernel) rfl, tbl_mem 66 (by decide +kernel) rfl⟩
theorem cl_L_86 : CLv RL 86 fi_X8_between := ⟨tbl_mem 1406 (by decide +kernel) rfl, tbl_mem 1407 (by decide +kernel) rfl, tbl_mem 1408 (by decide +kernel) rfl⟩
theorem cl_L_90 : CLv RL 90 fi_X8_widening := ⟨tbl_mem 1410 (by decide +kernel) rfl, tbl_mem 1411 (by decide +kernel) rfl, tbl_mem 1412 (by decide +kernel) rfl⟩
theorem cl_X8_372 : CLv RX8 372 fi_X8_forget := ⟨tbl_mem 1416 (by decide +kernel) rfl, tbl_mem 1418 (by decide +kernel) rfl, tbl_mem 67 (by decide +kernel) rfl⟩
theorem cl_L_94 : CLv RL 94 fi_X8_blame := ⟨tbl_mem 1420 (by decide +kernel) rfl, tbl_mem 1421 (by decide +kernel) rfl, tbl_mem 1422 (by decide +kernel) rfl⟩
theorem cl_L_98 : CLv RL 98 fi_X8_odd := ⟨tbl_mem 1424 (by decide +kernel) rfl, tbl_mem 1425 (by decide +kernel) rfl, tbl_mem 1426 (by decide +kernel) rfl⟩
theorem cl_X8_395 : CLv RX8 395 fi_X8_findOdd := ⟨tbl_mem 1428 (by decide +kernel) rfl, tbl_mem 1430 (by decide +kernel) rfl, tbl_mem 68 (by decide +kernel) rfl⟩
theorem cl_X8_389 : CLv RX8 389 fi_X8_findRound := ⟨tbl_mem 1432 (by decide +kernel) rfl, tbl_mem 1434 (by decide +kernel) rfl, tbl_mem 69 (by decide +kernel) rfl⟩
theorem cl_X8_375 : CLv RX8 375 fi_X8_raise := ⟨tbl_mem 1436 (by decide +kernel) rfl, tbl_mem 1438 (by decide +kernel) rfl, tbl_mem 70 (by decide +kernel) rfl⟩
theorem cl_X8_385 : CLv RX8 385 fi_X8_note := ⟨tbl_mem 1440 (by decide +kernel) rfl, tbl_mem 1442 (by decide +kernel) rfl, tbl_mem 71 (by decide +kernel) rfl⟩
theorem cl_X8_392 : CLv RX8 392 fi_X8_trySecond := ⟨tbl_mem 1444 (by decide +kernel) rfl, tbl_mem 1446 (by decide +kernel) rfl, tbl_mem 72 (by decide +kernel) rfl⟩
theorem cl_L_102 : CLv RL 102 fi_X8_worth := ⟨tbl_mem 1448 (by decide +kernel) rfl, tbl_mem 1449 (by decide +kernel) rfl, tbl_mem 1450 (by decide +kernel) rfl⟩
theorem cl_L_106 : CLv RL 106 fi_X8_lead := ⟨tbl_mem 1453 (by decide +kernel) rfl, tbl_mem 1454 (by decide +kernel) rfl, tbl_mem 1455 (by decide +kernel) rfl⟩
theorem cl_L_110 : CLv RL 110 fi_X8_steps := ⟨tbl_mem 1457 (by decide +kernel) rfl, tbl_mem 1458 (by decide +kernel) rfl, tbl_mem 1459 (by decide +kernel) rfl⟩
theorem cl_L_115 : CLv RL 115 fi_X8_far := ⟨tbl_mem 1461 (by decide +kernel) rfl, tbl_mem 1462 (by decide +kernel) rfl, tbl_mem 1463 (by decide +kernel) rfl⟩
theorem cl_X8_410 : CLs RX8 410 fi_X8_farOf ∨ CLn RX8 410 fi_X8_farOf := Or.inl ⟨tbl_mem 1465 (by decide +kernel) rfl, tbl_mem 1466 (by decide +kernel) rfl⟩
theorem cl_X8_407 : CLs RX8 407 fi_X8_tableOf ∨ CLn RX8 407 fi_X8_tableOf := Or.inl ⟨tbl_mem 1468 (by decide +kernel) rfl, tbl_mem 1469 (by decide +kernel) rfl⟩
theorem cl_X8_399 : CLs RX8 399 fi_X8_lowTable ∨ CLn RX8 399 fi_X8_lowTable := Or.inl ⟨tbl_mem 1471 (by decide +kernel) rfl, tbl_mem 1472 (by decide +kernel) rfl⟩
theorem cl_X8_402 : CLs RX8 402 fi_X8_highTable ∨ CLn RX8 402 fi_X8_highTable := Or.inl ⟨tbl_mem 1474 (by decide +kernel) rfl, tbl_mem 1475 (by decide +kernel) rfl⟩
theorem cl_L_119 : CLv RL 119 fi_X8_boxes := ⟨tbl_mem 1479 (by decide +kernel) rfl, tbl_mem 1480 (by decide +kernel) rfl, tbl_mem 1481 (by decide +kernel) rfl⟩
theorem cl_X8_424 : CLv RX8 424 fi_X8_barring := ⟨tbl_mem 1484 (by decide +kernel) rfl, tbl_mem 1486 (by decide +kernel) rfl, tbl_mem 73 (by decide +kernel) rfl⟩
theorem cl_X8_419 : CLv RX8 419 fi_X8_speaks := ⟨tbl_mem 1488 (by decide +kernel) rfl, tbl_mem 1490 (by decide +kernel) rfl, tbl_mem 74 (by decide +kernel) rfl⟩
theorem cl_X8_416 : CLv RX8 416 fi_X8_isWithin := ⟨tbl_mem 1492 (by decide +kernel) rfl, tbl_mem 1494 (by decide +kernel) rfl, tbl_mem 75 (by decide +kernel) rfl⟩
theorem cl_L_123 : CLv RL 123 fi_X8_box := ⟨tbl_mem 1496 (by decide +kernel) rfl, tbl_mem 1497 (by decide +kernel) rfl, tbl_mem 1498 (by decide +kernel) rfl⟩
theorem cl_L_128 : CLv RL 128 fi_X8_delay := ⟨tbl_mem 1501 (by decide +kernel) rfl, tbl_mem 1502 (by decide +kernel) rfl, tbl_mem 1503 (by decide +kernel) rfl⟩
theorem cl_L_132 : CLv RL 132 fi_X8_blind := ⟨tbl_mem 1509 (by decide +kernel) rfl, tbl_mem 1510 (by decide +kernel) rfl, tbl_mem 1511 (by decide +kernel) rfl⟩
theorem cl_L_136 : CLv RL 136 fi_X8_open := ⟨tbl_mem 1514 (by decide +kernel) rfl, tbl_mem 1515 (by decide +kernel) rfl, tbl_mem 1516 (by decide +kernel) rfl⟩
theorem cl_L_140 : CLv RL 140 fi_X8_claim := ⟨tbl_mem 1518 (by decide +kernel) rfl, tbl_mem 1519 (by decide +kernel) rfl, tbl_mem 1520 (by decide +kernel) rfl⟩
theorem cl_X8_439 : CLv RX8 439 fi_X8_stateOf := ⟨tbl_mem 1522 (by decide +kernel) rfl, tbl_mem 1524 (by decide +kernel) rfl, tbl_mem 76 (by decide +kernel) rfl⟩
theorem oi_X7_1 : Cond.methodLink RX7 1 Lib.objectInit ∈ TBL := tbl_mem 97 (by decide +kernel) rfl
theorem oi_X5_3 : Cond.methodLink RX5 3 Lib.objectInit ∈ TBL := tbl_mem 105 (by decide +kernel) rfl
theorem oi_X0_3 : Cond.methodLink RX0 3 Lib.objectInit ∈ TBL := tbl_mem 166 (by decide +kernel) rfl
theorem oi_X2_3 : Cond.methodLink RX2 3 Lib.objectInit ∈ TBL := tbl_mem 181 (by decide +kernel) rfl
theorem oi_X1_5 : Cond.methodLink RX1 5 Lib.objectInit ∈ TBL := tbl_mem 212 (by decide +kernel) rfl
theorem oi_X4_3 : Cond.methodLink RX4 3 Lib.objectInit ∈ TBL := tbl_mem 270 (by decide +kernel) rfl
theorem oi_X6_3 : Cond.methodLink RX6 3 Lib.objectInit ∈ TBL := tbl_mem 295 (by decide +kernel) rfl
theorem oi_X3_3 : Cond.methodLink RX3 3 Lib.objectInit ∈ TBL := tbl_mem 319 (by decide +kernel) rfl
theorem oi_X8_1 : Cond.methodLink RX8 1 Lib.objectInit ∈ TBL := tbl_mem 993 (by decide +kernel) rfl
theorem oi_inst : Cond.instanceMethod Lib.objectInit ∈ TBL := tbl_mem 98 (by decide +kernel) rfl
theorem oi_code : Cond.code Lib.objectInit ⟨#[0xb1]⟩ 1 none ∈ TBL := tbl_mem 99 (by decide +kernel) rfl
