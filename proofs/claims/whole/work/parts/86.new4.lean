/-! ===== the class's constructor ===== -/
theorem mk_keep {P N C D : FMem} {a n : Nat} {k v : Int} (hf : N = fnew P a) (hq : Mk N C a n) (hp : D = st C 0 k v) (hn : a < n) {b : Nat} {j : Int} (h0 : b ≠ 0) (hb : b < a) : D b j = P b j := by
  rw [hp, st_cell h0, hq b j (by omega) (by omega), hf, fnew_o (by omega)]
theorem mk_zero {P N C D : FMem} {a n : Nat} {k v : Int} (hf : N = fnew P a) (hq : Mk N C a n) (hp : D = st C 0 k v) (hn : a < n) (ha : 0 < a) (j : Int) : D 0 j = if j = k then v else P 0 j := by
  rw [hp, st_at, hq 0 j (by omega) (by omega), hf, fnew_o (by omega)]
theorem fnew_s (M : FMem) (a : Nat) (j : Int) : fnew M a a j = if fty a j = 3 then -1 else 0 := if_pos rfl
set_option maxHeartbeats 6400000 in
theorem A_X7_init (l : Launch) (g : Cx) (M : FMem) : AMv l g false fi_X7_init [fr 0] 1 M (fun M2 => (∀ j, M2 0 j = if j = 10 then 0 else if j = 9 then 0 else if j = 8 then 0 else if j = 7 then 51 else if j = 6 then 42 else if j = 5 then 37 else if j = 4 then 34 else if j = 3 then 20 else if j = 2 then 17 else if j = 1 then 14 else if j = 0 then 1 else M 0 j) ∧ (∀ j, M2 1 j = if j = 13 then 0 else if j = 12 then 13 else if j = 11 then 0 else if j = 10 then 12 else if j = 9 then 11 else if j = 8 then 10 else if j = 7 then 9 else if j = 6 then 8 else if j = 5 then 7 else if j = 4 then 6 else if j = 3 then 5 else if j = 2 then 4 else if j = 1 then 3 else if j = 0 then 2 else if fty 1 j = 3 then -1 else 0) ∧ (∀ b j, 2 ≤ b → b < 14 → M2 b j = 0) ∧ (∀ j, M2 14 j = if j = 1 then 16 else if j = 0 then 15 else if fty 14 j = 3 then -1 else 0) ∧ (∀ b j, 15 ≤ b → b < 17 → M2 b j = 0) ∧ (∀ j, M2 17 j = if j = 6 then 0 else if j = 5 then 19 else if j = 4 then 0 else if j = 3 then (-1) else if j = 2 then 0 else if j = 1 then 0 else if j = 0 then 18 else if fty 17 j = 3 then -1 else 0) ∧ (∀ b j, 18 ≤ b → b < 20 → M2 b j = 0) ∧ (∀ j, M2 20 j = if j = 14 then 33 else if j = 13 then 32 else if j = 12 then 31 else if j = 11 then 30 else if j = 10 then 29 else if j = 9 then 28 else if j = 8 then 0 else if j = 7 then 0 else if j = 6 then 27 else if j = 5 then 26 else if j = 4 then 25 else if j = 3 then 24 else if j = 2 then 23 else if j = 1 then 22 else if j = 0 then 21 else if fty 20 j = 3 then -1 else 0) ∧ (∀ b j, 21 ≤ b → b < 34 → M2 b j = 0) ∧ (∀ j, M2 34 j = if j = 4 then (-1) else if j = 3 then (-1) else if j = 2 then (-1) else if j = 1 then 36 else if j = 0 then 35 else if fty 34 j = 3 then -1 else 0) ∧ (∀ b j, 35 ≤ b → b < 37 → M2 b j = 0) ∧ (∀ j, M2 37 j = if j = 4 then 0 else if j = 3 then 41 else if j = 2 then 40 else if j = 1 then 39 else if j = 0 then 38 else if fty 37 j = 3 then -1 else 0) ∧ (∀ b j, 38 ≤ b → b < 42 → M2 b j = if b = 38 ∧ 0 ≤ j ∧ j < 10 then (-1) else 0) ∧ (∀ j, M2 42 j = if j = 11 then 0 else if j = 10 then 50 else if j = 9 then 49 else if j = 8 then 48 else if j = 7 then 0 else if j = 6 then 31 else if j = 5 then 31 else if j = 4 then 47 else if j = 3 then 46 else if j = 2 then 45 else if j = 1 then 44 else if j = 0 then 43 else if fty 42 j = 3 then -1 else 0) ∧ (∀ b j, 43 ≤ b → b < 51 → M2 b j = 0) ∧ (∀ j, M2 51 j = if j = 11 then 0 else if j = 10 then 59 else if j = 9 then 58 else if j = 8 then 57 else if j = 7 then 0 else if j = 6 then 31 else if j = 5 then 31 else if j = 4 then 56 else if j = 3 then 55 else if j = 2 then 54 else if j = 1 then 53 else if j = 0 then 52 else if fty 51 j = 3 then -1 else 0) ∧ (∀ b j, 52 ≤ b → b < 60 → M2 b j = 0)) := by
  refine AMv_intro [fr 0] (by decide) (knall rfl) (Nat.le_of_ble_eq_true rfl) rfl ?_
  intro hNV hM0 μ
  refine z_aload_nr dX7_init_0 rfl ?_
  refine z_obj oi_X7_1 oi_inst oi_code (by decide) (Nat.le_of_ble_eq_true rfl) dX7_init_1 ?_
  obtain ⟨P0, hP0⟩ : ∃ z, z = M := ⟨_, rfl⟩
  refine z_aload_nr dX7_init_4 rfl ?_
  refine z_new nl_X7_7 rfl (by decide) (by decide +kernel) (by decide +kernel) dX7_init_5 (fun Mz1 hMz1 => ?_)
  have hf0 : Mz1 = fnew P0 1 := by rw [hP0]; exact hMz1
  refine z_dup rfl dX7_init_8 ?_
  refine z_callIv (n2 := 14) (A_X5_init l g Mz1) cb_X5_init cl_X7_9 (⟨⟨by decide, by decide⟩, ⟨by decide +kernel, by decide +kernel⟩, by decide +kernel⟩) rfl (by decide) rfl (Nat.le_of_ble_eq_true rfl) rfl dX7_init_9 (fun Mz2 kMz2 hc2 => ?_)
  have hq0 := hc2
  refine z_putF (kz := 0) fl_X7_10 rfl (by decide) rfl rfl (fun q h => by cases h; rfl) rfl dX7_init_12 (fun Mz3 hMz3 => ?_)
  have hp0 := hMz3
  obtain ⟨P1, hP1⟩ : ∃ z, z = Mz3 := ⟨_, rfl⟩
  refine z_aload_nr dX7_init_15 rfl ?_
  refine z_new nl_X7_16 rfl (by decide) (by decide +kernel) (by decide +kernel) dX7_init_16 (fun Mz4 hMz4 => ?_)
  have hf1 : Mz4 = fnew P1 14 := by rw [hP1]; exact hMz4
  refine z_dup rfl dX7_init_19 ?_
  refine z_callIv (n2 := 17) (A_X0_init l g Mz4) cb_X0_init cl_X7_18 (⟨⟨by decide, by decide⟩, ⟨by decide +kernel, by decide +kernel⟩, by decide +kernel⟩) rfl (by decide) rfl (Nat.le_of_ble_eq_true rfl) rfl dX7_init_20 (fun Mz5 kMz5 hc5 => ?_)
  have hq1 := hc5
  refine z_putF (kz := 1) fl_X7_19 rfl (by decide) rfl rfl (fun q h => by cases h; rfl) rfl dX7_init_23 (fun Mz6 hMz6 => ?_)
  have hp1 := hMz6
  obtain ⟨P2, hP2⟩ : ∃ z, z = Mz6 := ⟨_, rfl⟩
  refine z_aload_nr dX7_init_26 rfl ?_
  refine z_new nl_X7_23 rfl (by decide) (by decide +kernel) (by decide +kernel) dX7_init_27 (fun Mz7 hMz7 => ?_)
  have hf2 : Mz7 = fnew P2 17 := by rw [hP2]; exact hMz7
  refine z_dup rfl dX7_init_30 ?_
  refine z_callIv (n2 := 20) (A_X2_init l g Mz7) cb_X2_init cl_X7_25 (⟨⟨by decide, by decide⟩, ⟨by decide +kernel, by decide +kernel⟩, by decide +kernel⟩) rfl (by decide) rfl (Nat.le_of_ble_eq_true rfl) rfl dX7_init_31 (fun Mz8 kMz8 hc8 => ?_)
  have hq2 := hc8
  refine z_putF (kz := 2) fl_X7_26 rfl (by decide) rfl rfl (fun q h => by cases h; rfl) rfl dX7_init_34 (fun Mz9 hMz9 => ?_)
  have hp2 := hMz9
  obtain ⟨P3, hP3⟩ : ∃ z, z = Mz9 := ⟨_, rfl⟩
  refine z_aload_nr dX7_init_37 rfl ?_
  refine z_new nl_X7_30 rfl (by decide) (by decide +kernel) (by decide +kernel) dX7_init_38 (fun Mz10 hMz10 => ?_)
  have hf3 : Mz10 = fnew P3 20 := by rw [hP3]; exact hMz10
  refine z_dup rfl dX7_init_41 ?_
  refine z_callIv (n2 := 34) (A_X1_init l g Mz10) cb_X1_init cl_X7_32 (⟨⟨by decide, by decide⟩, ⟨by decide +kernel, by decide +kernel⟩, by decide +kernel⟩) rfl (by decide) rfl (Nat.le_of_ble_eq_true rfl) rfl dX7_init_42 (fun Mz11 kMz11 hc11 => ?_)
  have hq3 := hc11
  refine z_putF (kz := 3) fl_X7_33 rfl (by decide) rfl rfl (fun q h => by cases h; rfl) rfl dX7_init_45 (fun Mz12 hMz12 => ?_)
  have hp3 := hMz12
  obtain ⟨P4, hP4⟩ : ∃ z, z = Mz12 := ⟨_, rfl⟩
  refine z_aload_nr dX7_init_48 rfl ?_
  refine z_new nl_X7_37 rfl (by decide) (by decide +kernel) (by decide +kernel) dX7_init_49 (fun Mz13 hMz13 => ?_)
  have hf4 : Mz13 = fnew P4 34 := by rw [hP4]; exact hMz13
  refine z_dup rfl dX7_init_52 ?_
  refine z_callIv (n2 := 37) (A_X4_init l g Mz13) cb_X4_init cl_X7_39 (⟨⟨by decide, by decide⟩, ⟨by decide +kernel, by decide +kernel⟩, by decide +kernel⟩) rfl (by decide) rfl (Nat.le_of_ble_eq_true rfl) rfl dX7_init_53 (fun Mz14 kMz14 hc14 => ?_)
  have hq4 := hc14
  refine z_putF (kz := 4) fl_X7_40 rfl (by decide) rfl rfl (fun q h => by cases h; rfl) rfl dX7_init_56 (fun Mz15 hMz15 => ?_)
  have hp4 := hMz15
  obtain ⟨P5, hP5⟩ : ∃ z, z = Mz15 := ⟨_, rfl⟩
  refine z_aload_nr dX7_init_59 rfl ?_
  refine z_new nl_X7_44 rfl (by decide) (by decide +kernel) (by decide +kernel) dX7_init_60 (fun Mz16 hMz16 => ?_)
  have hf5 : Mz16 = fnew P5 37 := by rw [hP5]; exact hMz16
  refine z_dup rfl dX7_init_63 ?_
  refine z_callIv (n2 := 42) (A_X6_init l g Mz16) cb_X6_init cl_X7_46 (⟨⟨by decide, by decide⟩, ⟨by decide +kernel, by decide +kernel⟩, by decide +kernel⟩) rfl (by decide) rfl (Nat.le_of_ble_eq_true rfl) rfl dX7_init_64 (fun Mz17 kMz17 hc17 => ?_)
  have hq5 := hc17
  refine z_putF (kz := 5) fl_X7_47 rfl (by decide) rfl rfl (fun q h => by cases h; rfl) rfl dX7_init_67 (fun Mz18 hMz18 => ?_)
  have hp5 := hMz18
  obtain ⟨P6, hP6⟩ : ∃ z, z = Mz18 := ⟨_, rfl⟩
  refine z_aload_nr dX7_init_70 rfl ?_
  refine z_new nl_X7_51 rfl (by decide) (by decide +kernel) (by decide +kernel) dX7_init_71 (fun Mz19 hMz19 => ?_)
  have hf6 : Mz19 = fnew P6 42 := by rw [hP6]; exact hMz19
  refine z_dup rfl dX7_init_74 ?_
  refine z_callIv (n2 := 51) (A_X3_init42 l g Mz19) cb_X3_init cl_X7_53 (⟨⟨by decide, by decide⟩, ⟨by decide +kernel, by decide +kernel⟩, by decide +kernel⟩) rfl (by decide) rfl (Nat.le_of_ble_eq_true rfl) rfl dX7_init_75 (fun Mz20 kMz20 hc20 => ?_)
  have hq6 := hc20
  refine z_putr (kz := 6) fl_X7_54 rfl (by decide) rfl nr_0_6 dX7_init_78 (fun Mz21 hMz21 => ?_)
  have hp6 := hMz21
  obtain ⟨P7, hP7⟩ : ∃ z, z = Mz21 := ⟨_, rfl⟩
  refine z_aload_nr dX7_init_81 rfl ?_
  refine z_new nl_X7_51 rfl (by decide) (by decide +kernel) (by decide +kernel) dX7_init_82 (fun Mz22 hMz22 => ?_)
  have hf7 : Mz22 = fnew P7 51 := by rw [hP7]; exact hMz22
  refine z_dup rfl dX7_init_85 ?_
  refine z_callIv (n2 := 60) (A_X3_init51 l g Mz22) cb_X3_init cl_X7_53 (⟨⟨by decide, by decide⟩, ⟨by decide +kernel, by decide +kernel⟩, by decide +kernel⟩) rfl (by decide) rfl (Nat.le_of_ble_eq_true rfl) rfl dX7_init_86 (fun Mz23 kMz23 hc23 => ?_)
  have hq7 := hc23
  refine z_putr (kz := 7) fl_X7_58 rfl (by decide) rfl nr_0_7 dX7_init_89 (fun Mz24 hMz24 => ?_)
  have hp7 := hMz24
  obtain ⟨P8, hP8⟩ : ∃ z, z = Mz24 := ⟨_, rfl⟩
  refine z_aload_nr dX7_init_92 rfl ?_
  refine z_iconst dX7_init_93 ⟨by decide, by decide⟩ ?_
  refine z_puti (kz := 8) fl_X7_61 rfl (by decide) rfl nr_0_8 dX7_init_94 (fun Mz25 hMz25 => ?_)
  have hx1 := hMz25
  refine z_aload_nr dX7_init_97 rfl ?_
  refine z_iconst dX7_init_98 ⟨by decide, by decide⟩ ?_
  refine z_putz (kz := 9) fl_X7_65 rfl (by decide) rfl (by omega) nr_0_9 dX7_init_99 (fun Mz26 hMz26 => ?_)
  have hx2 := hMz26
  refine z_aload_nr dX7_init_102 rfl ?_
  refine z_iconst dX7_init_103 ⟨by decide, by decide⟩ ?_
  refine z_putz (kz := 10) fl_X7_69 rfl (by decide) rfl (by omega) nr_0_10 dX7_init_104 (fun Mz27 hMz27 => ?_)
  have hx3 := hMz27
  refine z_vret rfl (by decide) rfl (by decide +kernel) dX7_init_107 ?_
  have hl : ∀ b j, b ≠ 0 → Mz27 b j = P8 b j := fun b j h => by rw [hx3, hx2, hx1, st_cell h, st_cell h, st_cell h, hP8]
  have g0 : ∀ b j, b ≠ 0 → b < 1 → P1 b j = P0 b j := fun b j h0 hb => by rw [hP1]; exact mk_keep hf0 hq0.1 hp0 (by decide) h0 hb
  have z0 : ∀ j, P1 0 j = if j = 0 then 1 else P0 0 j := fun j => by rw [hP1]; exact mk_zero hf0 hq0.1 hp0 (by decide) (by decide) j
  have g1 : ∀ b j, b ≠ 0 → b < 14 → P2 b j = P1 b j := fun b j h0 hb => by rw [hP2]; exact mk_keep hf1 hq1.1 hp1 (by decide) h0 hb
  have z1 : ∀ j, P2 0 j = if j = 1 then 14 else P1 0 j := fun j => by rw [hP2]; exact mk_zero hf1 hq1.1 hp1 (by decide) (by decide) j
  have g2 : ∀ b j, b ≠ 0 → b < 17 → P3 b j = P2 b j := fun b j h0 hb => by rw [hP3]; exact mk_keep hf2 hq2.1 hp2 (by decide) h0 hb
  have z2 : ∀ j, P3 0 j = if j = 2 then 17 else P2 0 j := fun j => by rw [hP3]; exact mk_zero hf2 hq2.1 hp2 (by decide) (by decide) j
  have g3 : ∀ b j, b ≠ 0 → b < 20 → P4 b j = P3 b j := fun b j h0 hb => by rw [hP4]; exact mk_keep hf3 hq3.1 hp3 (by decide) h0 hb
  have z3 : ∀ j, P4 0 j = if j = 3 then 20 else P3 0 j := fun j => by rw [hP4]; exact mk_zero hf3 hq3.1 hp3 (by decide) (by decide) j
  have g4 : ∀ b j, b ≠ 0 → b < 34 → P5 b j = P4 b j := fun b j h0 hb => by rw [hP5]; exact mk_keep hf4 hq4.1 hp4 (by decide) h0 hb
  have z4 : ∀ j, P5 0 j = if j = 4 then 34 else P4 0 j := fun j => by rw [hP5]; exact mk_zero hf4 hq4.1 hp4 (by decide) (by decide) j
  have g5 : ∀ b j, b ≠ 0 → b < 37 → P6 b j = P5 b j := fun b j h0 hb => by rw [hP6]; exact mk_keep hf5 hq5.1 hp5 (by decide) h0 hb
  have z5 : ∀ j, P6 0 j = if j = 5 then 37 else P5 0 j := fun j => by rw [hP6]; exact mk_zero hf5 hq5.1 hp5 (by decide) (by decide) j
  have g6 : ∀ b j, b ≠ 0 → b < 42 → P7 b j = P6 b j := fun b j h0 hb => by rw [hP7]; exact mk_keep hf6 hq6.1 hp6 (by decide) h0 hb
  have z6 : ∀ j, P7 0 j = if j = 6 then 42 else P6 0 j := fun j => by rw [hP7]; exact mk_zero hf6 hq6.1 hp6 (by decide) (by decide) j
  have g7 : ∀ b j, b ≠ 0 → b < 51 → P8 b j = P7 b j := fun b j h0 hb => by rw [hP8]; exact mk_keep hf7 hq7.1 hp7 (by decide) h0 hb
  have z7 : ∀ j, P8 0 j = if j = 7 then 51 else P7 0 j := fun j => by rw [hP8]; exact mk_zero hf7 hq7.1 hp7 (by decide) (by decide) j
  refine ⟨fun j => ?_, fun j => ?_, fun b j h1 h2 => ?_, fun j => ?_, fun b j h1 h2 => ?_, fun j => ?_, fun b j h1 h2 => ?_, fun j => ?_, fun b j h1 h2 => ?_, fun j => ?_, fun b j h1 h2 => ?_, fun j => ?_, fun b j h1 h2 => ?_, fun j => ?_, fun b j h1 h2 => ?_, fun j => ?_, fun b j h1 h2 => ?_⟩
  · rw [hx3, st_at, hx2, st_at, hx1, st_at, ← hP8, z7, z6, z5, z4, z3, z2, z1, z0, hP0]
  · rw [hl _ _ (by decide), g7 _ _ (by decide) (by decide), g6 _ _ (by decide) (by decide), g5 _ _ (by decide) (by decide), g4 _ _ (by decide) (by decide), g3 _ _ (by decide) (by decide), g2 _ _ (by decide) (by decide), g1 _ _ (by decide) (by decide), hP1, hp0, st_cell (by decide), hq0.2.1 j, hf0, fnew_s]
  · rw [hl b j (by omega), g7 b j (by omega) (by omega), g6 b j (by omega) (by omega), g5 b j (by omega) (by omega), g4 b j (by omega) (by omega), g3 b j (by omega) (by omega), g2 b j (by omega) (by omega), g1 b j (by omega) (by omega), hP1, hp0, st_cell (by omega)]; exact hq0.2.2 b j h1 h2
  · rw [hl _ _ (by decide), g7 _ _ (by decide) (by decide), g6 _ _ (by decide) (by decide), g5 _ _ (by decide) (by decide), g4 _ _ (by decide) (by decide), g3 _ _ (by decide) (by decide), g2 _ _ (by decide) (by decide), hP2, hp1, st_cell (by decide), hq1.2.1 j, hf1, fnew_s]
  · rw [hl b j (by omega), g7 b j (by omega) (by omega), g6 b j (by omega) (by omega), g5 b j (by omega) (by omega), g4 b j (by omega) (by omega), g3 b j (by omega) (by omega), g2 b j (by omega) (by omega), hP2, hp1, st_cell (by omega)]; exact hq1.2.2 b j h1 h2
  · rw [hl _ _ (by decide), g7 _ _ (by decide) (by decide), g6 _ _ (by decide) (by decide), g5 _ _ (by decide) (by decide), g4 _ _ (by decide) (by decide), g3 _ _ (by decide) (by decide), hP3, hp2, st_cell (by decide), hq2.2.1 j, hf2, fnew_s]
  · rw [hl b j (by omega), g7 b j (by omega) (by omega), g6 b j (by omega) (by omega), g5 b j (by omega) (by omega), g4 b j (by omega) (by omega), g3 b j (by omega) (by omega), hP3, hp2, st_cell (by omega)]; exact hq2.2.2 b j h1 h2
  · rw [hl _ _ (by decide), g7 _ _ (by decide) (by decide), g6 _ _ (by decide) (by decide), g5 _ _ (by decide) (by decide), g4 _ _ (by decide) (by decide), hP4, hp3, st_cell (by decide), hq3.2.1 j, hf3, fnew_s]
  · rw [hl b j (by omega), g7 b j (by omega) (by omega), g6 b j (by omega) (by omega), g5 b j (by omega) (by omega), g4 b j (by omega) (by omega), hP4, hp3, st_cell (by omega)]; exact hq3.2.2 b j h1 h2
  · rw [hl _ _ (by decide), g7 _ _ (by decide) (by decide), g6 _ _ (by decide) (by decide), g5 _ _ (by decide) (by decide), hP5, hp4, st_cell (by decide), hq4.2.1 j, hf4, fnew_s]
  · rw [hl b j (by omega), g7 b j (by omega) (by omega), g6 b j (by omega) (by omega), g5 b j (by omega) (by omega), hP5, hp4, st_cell (by omega)]; exact hq4.2.2 b j h1 h2
  · rw [hl _ _ (by decide), g7 _ _ (by decide) (by decide), g6 _ _ (by decide) (by decide), hP6, hp5, st_cell (by decide), hq5.2.1 j, hf5, fnew_s]
  · rw [hl b j (by omega), g7 b j (by omega) (by omega), g6 b j (by omega) (by omega), hP6, hp5, st_cell (by omega)]; exact hq5.2.2 b j h1 h2
  · rw [hl _ _ (by decide), g7 _ _ (by decide) (by decide), hP7, hp6, st_cell (by decide), hq6.2.1 j, hf6, fnew_s]
  · rw [hl b j (by omega), g7 b j (by omega) (by omega), hP7, hp6, st_cell (by omega)]; exact hq6.2.2 b j h1 h2
  · rw [hl _ _ (by decide), hP8, hp7, st_cell (by decide), hq7.2.1 j, hf7, fnew_s]
  · rw [hl b j (by omega), hP8, hp7, st_cell (by omega)]; exact hq7.2.2 b j h1 h2
