/-! ===== constructors ===== -/
theorem fnew_o {M : FMem} {a b : Nat} {j : Int} (h : b ≠ a) : fnew M a b j = M b j := if_neg h
theorem fnew_a {M : FMem} {a : Nat} {j : Int} (h : fty a j ≠ 3) : fnew M a a j = 0 := (if_pos rfl).trans (if_neg h)
/-- what a maker leaves: the cells below the object as they were, the cells behind it as v says -/
def Mk (M M2 : FMem) (a n : Nat) : Prop := ∀ b j, b ≠ a → b < n → M2 b j = M b j
set_option maxHeartbeats 1600000 in
theorem A_X0_init (l : Launch) (g : Cx) (M : FMem) : AMv l g false fi_X0_init [fr 14] 15 M (fun M2 => Mk M M2 14 15 ∧ (∀ j, M2 14 j = if j = 1 then 16 else if j = 0 then 15 else M 14 j) ∧ (∀ b j, 15 ≤ b → b < 17 → M2 b j = 0)) := by
  refine AMv_intro [fr 14] (by decide) (knall rfl) (Nat.le_of_ble_eq_true rfl) rfl ?_
  intro hNV hM0 μ
  refine z_aload_nr dX0_init_0 rfl ?_
  refine z_obj oi_X0_3 oi_inst oi_code (by decide) (Nat.le_of_ble_eq_true rfl) dX0_init_1 ?_
  refine z_aload_nr dX0_init_4 rfl ?_
  refine z_bipush dX0_init_5 ⟨by decide, by decide⟩ (by decide) ?_
  refine z_newai (len := 10) ac_0 rfl rfl (by decide) (by decide) (by decide +kernel) (by decide +kernel) dX0_init_7 (fun Mz1 hMz1 => ?_)
  refine z_putF (kz := 0) fl_X0_9 rfl (by decide) rfl rfl (fun q h => by cases h; rfl) rfl dX0_init_9 (fun Mz2 hMz2 => ?_)
  refine z_aload_nr dX0_init_12 rfl ?_
  refine z_bipush dX0_init_13 ⟨by decide, by decide⟩ (by decide) ?_
  refine z_newai (len := 10) ac_0 rfl rfl (by decide) (by decide) (by decide +kernel) (by decide +kernel) dX0_init_15 (fun Mz3 hMz3 => ?_)
  refine z_putF (kz := 1) fl_X0_15 rfl (by decide) rfl rfl (fun q h => by cases h; rfl) rfl dX0_init_17 (fun Mz4 hMz4 => ?_)
  refine z_vret rfl (by decide) rfl (by decide +kernel) dX0_init_20 ?_
  refine ⟨fun b j h1 h2 => ?_, fun j => ?_, fun b j h1 h2 => ?_⟩
  · rw [hMz4, hMz3, hMz2, hMz1]
    repeat (first | rw [st_cell (by omega)] | rw [fnew_o (by omega)])
  · rw [hMz4, hMz3, hMz2, hMz1]
    repeat (first | rw [st_at] | rw [fnew_o (by decide)])
    rfl
  · have hb : b = 15 ∨ b = 16 := by omega
    rw [hMz4, hMz3, hMz2, hMz1]
    rcases hb with rfl | rfl <;>
    (repeat (first | rw [st_cell (by decide)] | rw [fnew_o (by decide)])) <;>
    first
    | exact fnew_a (show ¬ (0 : Nat) = 3 by decide)
    | exact fnew_a (show ¬ (1 : Nat) = 3 by decide)
    | exact fnew_a (show ¬ (2 : Nat) = 3 by decide)
set_option maxHeartbeats 1600000 in
theorem A_X5_init (l : Launch) (g : Cx) (M : FMem) : AMv l g false fi_X5_init [fr 1] 2 M (fun M2 => Mk M M2 1 2 ∧ (∀ j, M2 1 j = if j = 13 then 0 else if j = 12 then 13 else if j = 11 then 0 else if j = 10 then 12 else if j = 9 then 11 else if j = 8 then 10 else if j = 7 then 9 else if j = 6 then 8 else if j = 5 then 7 else if j = 4 then 6 else if j = 3 then 5 else if j = 2 then 4 else if j = 1 then 3 else if j = 0 then 2 else M 1 j) ∧ (∀ b j, 2 ≤ b → b < 14 → M2 b j = 0)) := by
  refine AMv_intro [fr 1] (by decide) (knall rfl) (Nat.le_of_ble_eq_true rfl) rfl ?_
  intro hNV hM0 μ
  refine z_aload_nr dX5_init_0 rfl ?_
  refine z_obj oi_X5_3 oi_inst oi_code (by decide) (Nat.le_of_ble_eq_true rfl) dX5_init_1 ?_
  refine z_aload_nr dX5_init_4 rfl ?_
  refine z_bipush dX5_init_5 ⟨by decide, by decide⟩ (by decide) ?_
  refine z_newai (len := 80) ac_0 rfl rfl (by decide) (by decide) (by decide +kernel) (by decide +kernel) dX5_init_7 (fun Mz1 hMz1 => ?_)
  refine z_putF (kz := 0) fl_X5_9 rfl (by decide) rfl rfl (fun q h => by cases h; rfl) rfl dX5_init_9 (fun Mz2 hMz2 => ?_)
  refine z_aload_nr dX5_init_12 rfl ?_
  refine z_bipush dX5_init_13 ⟨by decide, by decide⟩ (by decide) ?_
  refine z_newai (len := 80) ac_0 rfl rfl (by decide) (by decide) (by decide +kernel) (by decide +kernel) dX5_init_15 (fun Mz3 hMz3 => ?_)
  refine z_putF (kz := 1) fl_X5_15 rfl (by decide) rfl rfl (fun q h => by cases h; rfl) rfl dX5_init_17 (fun Mz4 hMz4 => ?_)
  refine z_aload_nr dX5_init_20 rfl ?_
  refine z_bipush dX5_init_21 ⟨by decide, by decide⟩ (by decide) ?_
  refine z_newai (len := 80) ac_0 rfl rfl (by decide) (by decide) (by decide +kernel) (by decide +kernel) dX5_init_23 (fun Mz5 hMz5 => ?_)
  refine z_putF (kz := 2) fl_X5_18 rfl (by decide) rfl rfl (fun q h => by cases h; rfl) rfl dX5_init_25 (fun Mz6 hMz6 => ?_)
  refine z_aload_nr dX5_init_28 rfl ?_
  refine z_bipush dX5_init_29 ⟨by decide, by decide⟩ (by decide) ?_
  refine z_newai (len := 80) ac_0 rfl rfl (by decide) (by decide) (by decide +kernel) (by decide +kernel) dX5_init_31 (fun Mz7 hMz7 => ?_)
  refine z_putF (kz := 3) fl_X5_21 rfl (by decide) rfl rfl (fun q h => by cases h; rfl) rfl dX5_init_33 (fun Mz8 hMz8 => ?_)
  refine z_aload_nr dX5_init_36 rfl ?_
  refine z_bipush dX5_init_37 ⟨by decide, by decide⟩ (by decide) ?_
  refine z_newai (len := 80) ac_0 rfl rfl (by decide) (by decide) (by decide +kernel) (by decide +kernel) dX5_init_39 (fun Mz9 hMz9 => ?_)
  refine z_putF (kz := 4) fl_X5_24 rfl (by decide) rfl rfl (fun q h => by cases h; rfl) rfl dX5_init_41 (fun Mz10 hMz10 => ?_)
  refine z_aload_nr dX5_init_44 rfl ?_
  refine z_bipush dX5_init_45 ⟨by decide, by decide⟩ (by decide) ?_
  refine z_newai (len := 80) ac_0 rfl rfl (by decide) (by decide) (by decide +kernel) (by decide +kernel) dX5_init_47 (fun Mz11 hMz11 => ?_)
  refine z_putF (kz := 5) fl_X5_27 rfl (by decide) rfl rfl (fun q h => by cases h; rfl) rfl dX5_init_49 (fun Mz12 hMz12 => ?_)
  refine z_aload_nr dX5_init_52 rfl ?_
  refine z_bipush dX5_init_53 ⟨by decide, by decide⟩ (by decide) ?_
  refine z_newai (len := 80) ac_0 rfl rfl (by decide) (by decide) (by decide +kernel) (by decide +kernel) dX5_init_55 (fun Mz13 hMz13 => ?_)
  refine z_putF (kz := 6) fl_X5_30 rfl (by decide) rfl rfl (fun q h => by cases h; rfl) rfl dX5_init_57 (fun Mz14 hMz14 => ?_)
  refine z_aload_nr dX5_init_60 rfl ?_
  refine z_bipush dX5_init_61 ⟨by decide, by decide⟩ (by decide) ?_
  refine z_newai (len := 80) ac_0 rfl rfl (by decide) (by decide) (by decide +kernel) (by decide +kernel) dX5_init_63 (fun Mz15 hMz15 => ?_)
  refine z_putF (kz := 7) fl_X5_33 rfl (by decide) rfl rfl (fun q h => by cases h; rfl) rfl dX5_init_65 (fun Mz16 hMz16 => ?_)
  refine z_aload_nr dX5_init_68 rfl ?_
  refine z_bipush dX5_init_69 ⟨by decide, by decide⟩ (by decide) ?_
  refine z_newaz (len := 80) ac_1 rfl rfl (by decide) (by decide) (by decide +kernel) (by decide +kernel) dX5_init_71 (fun Mz17 hMz17 => ?_)
  refine z_putF (kz := 8) fl_X5_36 rfl (by decide) rfl rfl (fun q h => by cases h; rfl) rfl dX5_init_73 (fun Mz18 hMz18 => ?_)
  refine z_aload_nr dX5_init_76 rfl ?_
  refine z_bipush dX5_init_77 ⟨by decide, by decide⟩ (by decide) ?_
  refine z_newaz (len := 80) ac_1 rfl rfl (by decide) (by decide) (by decide +kernel) (by decide +kernel) dX5_init_79 (fun Mz19 hMz19 => ?_)
  refine z_putF (kz := 9) fl_X5_40 rfl (by decide) rfl rfl (fun q h => by cases h; rfl) rfl dX5_init_81 (fun Mz20 hMz20 => ?_)
  refine z_aload_nr dX5_init_84 rfl ?_
  refine z_bipush dX5_init_85 ⟨by decide, by decide⟩ (by decide) ?_
  refine z_newai (len := 80) ac_0 rfl rfl (by decide) (by decide) (by decide +kernel) (by decide +kernel) dX5_init_87 (fun Mz21 hMz21 => ?_)
  refine z_putF (kz := 10) fl_X5_43 rfl (by decide) rfl rfl (fun q h => by cases h; rfl) rfl dX5_init_89 (fun Mz22 hMz22 => ?_)
  refine z_aload_nr dX5_init_92 rfl ?_
  refine z_iconst dX5_init_93 ⟨by decide, by decide⟩ ?_
  refine z_puti (kz := 11) fl_X5_46 rfl (by decide) rfl nr_1_11 dX5_init_94 (fun Mz23 hMz23 => ?_)
  refine z_aload_nr dX5_init_97 rfl ?_
  refine z_bipush dX5_init_98 ⟨by decide, by decide⟩ (by decide) ?_
  refine z_newai (len := 10) ac_0 rfl rfl (by decide) (by decide) (by decide +kernel) (by decide +kernel) dX5_init_100 (fun Mz24 hMz24 => ?_)
  refine z_putF (kz := 12) fl_X5_50 rfl (by decide) rfl rfl (fun q h => by cases h; rfl) rfl dX5_init_102 (fun Mz25 hMz25 => ?_)
  refine z_aload_nr dX5_init_105 rfl ?_
  refine z_iconst dX5_init_106 ⟨by decide, by decide⟩ ?_
  refine z_puti (kz := 13) fl_X5_53 rfl (by decide) rfl nr_1_13 dX5_init_107 (fun Mz26 hMz26 => ?_)
  refine z_vret rfl (by decide) rfl (by decide +kernel) dX5_init_110 ?_
  refine ⟨fun b j h1 h2 => ?_, fun j => ?_, fun b j h1 h2 => ?_⟩
  · rw [hMz26, hMz25, hMz24, hMz23, hMz22, hMz21, hMz20, hMz19, hMz18, hMz17, hMz16, hMz15, hMz14, hMz13, hMz12, hMz11, hMz10, hMz9, hMz8, hMz7, hMz6, hMz5, hMz4, hMz3, hMz2, hMz1]
    repeat (first | rw [st_cell (by omega)] | rw [fnew_o (by omega)])
  · rw [hMz26, hMz25, hMz24, hMz23, hMz22, hMz21, hMz20, hMz19, hMz18, hMz17, hMz16, hMz15, hMz14, hMz13, hMz12, hMz11, hMz10, hMz9, hMz8, hMz7, hMz6, hMz5, hMz4, hMz3, hMz2, hMz1]
    repeat (first | rw [st_at] | rw [fnew_o (by decide)])
    rfl
  · have hb : b = 2 ∨ b = 3 ∨ b = 4 ∨ b = 5 ∨ b = 6 ∨ b = 7 ∨ b = 8 ∨ b = 9 ∨ b = 10 ∨ b = 11 ∨ b = 12 ∨ b = 13 := by omega
    rw [hMz26, hMz25, hMz24, hMz23, hMz22, hMz21, hMz20, hMz19, hMz18, hMz17, hMz16, hMz15, hMz14, hMz13, hMz12, hMz11, hMz10, hMz9, hMz8, hMz7, hMz6, hMz5, hMz4, hMz3, hMz2, hMz1]
    rcases hb with rfl | rfl | rfl | rfl | rfl | rfl | rfl | rfl | rfl | rfl | rfl | rfl <;>
    (repeat (first | rw [st_cell (by decide)] | rw [fnew_o (by decide)])) <;>
    first
    | exact fnew_a (show ¬ (0 : Nat) = 3 by decide)
    | exact fnew_a (show ¬ (1 : Nat) = 3 by decide)
    | exact fnew_a (show ¬ (2 : Nat) = 3 by decide)
set_option maxHeartbeats 1600000 in
theorem A_X2_init (l : Launch) (g : Cx) (M : FMem) : AMv l g false fi_X2_init [fr 17] 18 M (fun M2 => Mk M M2 17 18 ∧ (∀ j, M2 17 j = if j = 6 then 0 else if j = 5 then 19 else if j = 4 then 0 else if j = 3 then (-1) else if j = 2 then 0 else if j = 1 then 0 else if j = 0 then 18 else M 17 j) ∧ (∀ b j, 18 ≤ b → b < 20 → M2 b j = 0)) := by
  refine AMv_intro [fr 17] (by decide) (knall rfl) (Nat.le_of_ble_eq_true rfl) rfl ?_
  intro hNV hM0 μ
  refine z_aload_nr dX2_init_0 rfl ?_
  refine z_obj oi_X2_3 oi_inst oi_code (by decide) (Nat.le_of_ble_eq_true rfl) dX2_init_1 ?_
  refine z_aload_nr dX2_init_4 rfl ?_
  refine z_sipush dX2_init_5 ⟨by decide, by decide⟩ (by decide) ?_
  refine z_newai (len := 240) ac_0 rfl rfl (by decide) (by decide) (by decide +kernel) (by decide +kernel) dX2_init_8 (fun Mz1 hMz1 => ?_)
  refine z_putF (kz := 0) fl_X2_11 rfl (by decide) rfl rfl (fun q h => by cases h; rfl) rfl dX2_init_10 (fun Mz2 hMz2 => ?_)
  refine z_aload_nr dX2_init_13 rfl ?_
  refine z_iconst dX2_init_14 ⟨by decide, by decide⟩ ?_
  refine z_puti (kz := 1) fl_X2_15 rfl (by decide) rfl nr_17_1 dX2_init_15 (fun Mz3 hMz3 => ?_)
  refine z_aload_nr dX2_init_18 rfl ?_
  refine z_iconst dX2_init_19 ⟨by decide, by decide⟩ ?_
  refine z_puti (kz := 2) fl_X2_19 rfl (by decide) rfl nr_17_2 dX2_init_20 (fun Mz4 hMz4 => ?_)
  refine z_aload_nr dX2_init_23 rfl ?_
  refine z_iconst dX2_init_24 ⟨by decide, by decide⟩ ?_
  refine z_puti (kz := 3) fl_X2_22 rfl (by decide) rfl nr_17_3 dX2_init_25 (fun Mz5 hMz5 => ?_)
  refine z_aload_nr dX2_init_28 rfl ?_
  refine z_iconst dX2_init_29 ⟨by decide, by decide⟩ ?_
  refine z_puti (kz := 4) fl_X2_25 rfl (by decide) rfl nr_17_4 dX2_init_30 (fun Mz6 hMz6 => ?_)
  refine z_aload_nr dX2_init_33 rfl ?_
  refine z_iconst dX2_init_34 ⟨by decide, by decide⟩ ?_
  refine z_newai (len := 5) ac_0 rfl rfl (by decide) (by decide) (by decide +kernel) (by decide +kernel) dX2_init_35 (fun Mz7 hMz7 => ?_)
  refine z_putF (kz := 5) fl_X2_28 rfl (by decide) rfl rfl (fun q h => by cases h; rfl) rfl dX2_init_37 (fun Mz8 hMz8 => ?_)
  refine z_aload_nr dX2_init_40 rfl ?_
  refine z_iconst dX2_init_41 ⟨by decide, by decide⟩ ?_
  refine z_puti (kz := 6) fl_X2_31 rfl (by decide) rfl nr_17_6 dX2_init_42 (fun Mz9 hMz9 => ?_)
  refine z_vret rfl (by decide) rfl (by decide +kernel) dX2_init_45 ?_
  refine ⟨fun b j h1 h2 => ?_, fun j => ?_, fun b j h1 h2 => ?_⟩
  · rw [hMz9, hMz8, hMz7, hMz6, hMz5, hMz4, hMz3, hMz2, hMz1]
    repeat (first | rw [st_cell (by omega)] | rw [fnew_o (by omega)])
  · rw [hMz9, hMz8, hMz7, hMz6, hMz5, hMz4, hMz3, hMz2, hMz1]
    repeat (first | rw [st_at] | rw [fnew_o (by decide)])
    rfl
  · have hb : b = 18 ∨ b = 19 := by omega
    rw [hMz9, hMz8, hMz7, hMz6, hMz5, hMz4, hMz3, hMz2, hMz1]
    rcases hb with rfl | rfl <;>
    (repeat (first | rw [st_cell (by decide)] | rw [fnew_o (by decide)])) <;>
    first
    | exact fnew_a (show ¬ (0 : Nat) = 3 by decide)
    | exact fnew_a (show ¬ (1 : Nat) = 3 by decide)
    | exact fnew_a (show ¬ (2 : Nat) = 3 by decide)
set_option maxHeartbeats 1600000 in
theorem A_X4_init (l : Launch) (g : Cx) (M : FMem) : AMv l g false fi_X4_init [fr 34] 35 M (fun M2 => Mk M M2 34 35 ∧ (∀ j, M2 34 j = if j = 4 then (-1) else if j = 3 then (-1) else if j = 2 then (-1) else if j = 1 then 36 else if j = 0 then 35 else M 34 j) ∧ (∀ b j, 35 ≤ b → b < 37 → M2 b j = 0)) := by
  refine AMv_intro [fr 34] (by decide) (knall rfl) (Nat.le_of_ble_eq_true rfl) rfl ?_
  intro hNV hM0 μ
  refine z_aload_nr dX4_init_0 rfl ?_
  refine z_obj oi_X4_3 oi_inst oi_code (by decide) (Nat.le_of_ble_eq_true rfl) dX4_init_1 ?_
  refine z_aload_nr dX4_init_4 rfl ?_
  refine z_bipush dX4_init_5 ⟨by decide, by decide⟩ (by decide) ?_
  refine z_newai (len := 17) ac_0 rfl rfl (by decide) (by decide) (by decide +kernel) (by decide +kernel) dX4_init_7 (fun Mz1 hMz1 => ?_)
  refine z_putF (kz := 0) fl_X4_11 rfl (by decide) rfl rfl (fun q h => by cases h; rfl) rfl dX4_init_9 (fun Mz2 hMz2 => ?_)
  refine z_aload_nr dX4_init_12 rfl ?_
  refine z_bipush dX4_init_13 ⟨by decide, by decide⟩ (by decide) ?_
  refine z_newai (len := 17) ac_0 rfl rfl (by decide) (by decide) (by decide +kernel) (by decide +kernel) dX4_init_15 (fun Mz3 hMz3 => ?_)
  refine z_putF (kz := 1) fl_X4_17 rfl (by decide) rfl rfl (fun q h => by cases h; rfl) rfl dX4_init_17 (fun Mz4 hMz4 => ?_)
  refine z_aload_nr dX4_init_20 rfl ?_
  refine z_iconst dX4_init_21 ⟨by decide, by decide⟩ ?_
  refine z_puti (kz := 2) fl_X4_20 rfl (by decide) rfl nr_34_2 dX4_init_22 (fun Mz5 hMz5 => ?_)
  refine z_aload_nr dX4_init_25 rfl ?_
  refine z_iconst dX4_init_26 ⟨by decide, by decide⟩ ?_
  refine z_puti (kz := 3) fl_X4_24 rfl (by decide) rfl nr_34_3 dX4_init_27 (fun Mz6 hMz6 => ?_)
  refine z_aload_nr dX4_init_30 rfl ?_
  refine z_iconst dX4_init_31 ⟨by decide, by decide⟩ ?_
  refine z_puti (kz := 4) fl_X4_27 rfl (by decide) rfl nr_34_4 dX4_init_32 (fun Mz7 hMz7 => ?_)
  refine z_vret rfl (by decide) rfl (by decide +kernel) dX4_init_35 ?_
  refine ⟨fun b j h1 h2 => ?_, fun j => ?_, fun b j h1 h2 => ?_⟩
  · rw [hMz7, hMz6, hMz5, hMz4, hMz3, hMz2, hMz1]
    repeat (first | rw [st_cell (by omega)] | rw [fnew_o (by omega)])
  · rw [hMz7, hMz6, hMz5, hMz4, hMz3, hMz2, hMz1]
    repeat (first | rw [st_at] | rw [fnew_o (by decide)])
    rfl
  · have hb : b = 35 ∨ b = 36 := by omega
    rw [hMz7, hMz6, hMz5, hMz4, hMz3, hMz2, hMz1]
    rcases hb with rfl | rfl <;>
    (repeat (first | rw [st_cell (by decide)] | rw [fnew_o (by decide)])) <;>
    first
    | exact fnew_a (show ¬ (0 : Nat) = 3 by decide)
    | exact fnew_a (show ¬ (1 : Nat) = 3 by decide)
    | exact fnew_a (show ¬ (2 : Nat) = 3 by decide)
set_option maxHeartbeats 1600000 in
theorem A_X3_init42 (l : Launch) (g : Cx) (M : FMem) : AMv l g false fi_X3_init [fr 42] 43 M (fun M2 => Mk M M2 42 43 ∧ (∀ j, M2 42 j = if j = 11 then 0 else if j = 10 then 50 else if j = 9 then 49 else if j = 8 then 48 else if j = 7 then 0 else if j = 6 then 31 else if j = 5 then 31 else if j = 4 then 47 else if j = 3 then 46 else if j = 2 then 45 else if j = 1 then 44 else if j = 0 then 43 else M 42 j) ∧ (∀ b j, 43 ≤ b → b < 51 → M2 b j = 0)) := by
  refine AMv_intro [fr 42] (by decide) (knall rfl) (Nat.le_of_ble_eq_true rfl) rfl ?_
  intro hNV hM0 μ
  refine z_aload_nr dX3_init_0 rfl ?_
  refine z_obj oi_X3_3 oi_inst oi_code (by decide) (Nat.le_of_ble_eq_true rfl) dX3_init_1 ?_
  refine z_aload_nr dX3_init_4 rfl ?_
  refine z_bipush dX3_init_5 ⟨by decide, by decide⟩ (by decide) ?_
  refine z_newai (len := 6) ac_0 rfl rfl (by decide) (by decide) (by decide +kernel) (by decide +kernel) dX3_init_7 (fun Mz1 hMz1 => ?_)
  refine z_putF (kz := 0) fl_X3_9 rfl (by decide) rfl rfl (fun q h => by cases h; rfl) rfl dX3_init_9 (fun Mz2 hMz2 => ?_)
  refine z_aload_nr dX3_init_12 rfl ?_
  refine z_bipush dX3_init_13 ⟨by decide, by decide⟩ (by decide) ?_
  refine z_newai (len := 6) ac_0 rfl rfl (by decide) (by decide) (by decide +kernel) (by decide +kernel) dX3_init_15 (fun Mz3 hMz3 => ?_)
  refine z_putF (kz := 1) fl_X3_15 rfl (by decide) rfl rfl (fun q h => by cases h; rfl) rfl dX3_init_17 (fun Mz4 hMz4 => ?_)
  refine z_aload_nr dX3_init_20 rfl ?_
  refine z_bipush dX3_init_21 ⟨by decide, by decide⟩ (by decide) ?_
  refine z_newai (len := 6) ac_0 rfl rfl (by decide) (by decide) (by decide +kernel) (by decide +kernel) dX3_init_23 (fun Mz5 hMz5 => ?_)
  refine z_putF (kz := 2) fl_X3_18 rfl (by decide) rfl rfl (fun q h => by cases h; rfl) rfl dX3_init_25 (fun Mz6 hMz6 => ?_)
  refine z_aload_nr dX3_init_28 rfl ?_
  refine z_bipush dX3_init_29 ⟨by decide, by decide⟩ (by decide) ?_
  refine z_newai (len := 6) ac_0 rfl rfl (by decide) (by decide) (by decide +kernel) (by decide +kernel) dX3_init_31 (fun Mz7 hMz7 => ?_)
  refine z_putF (kz := 3) fl_X3_21 rfl (by decide) rfl rfl (fun q h => by cases h; rfl) rfl dX3_init_33 (fun Mz8 hMz8 => ?_)
  refine z_aload_nr dX3_init_36 rfl ?_
  refine z_bipush dX3_init_37 ⟨by decide, by decide⟩ (by decide) ?_
  refine z_newai (len := 6) ac_0 rfl rfl (by decide) (by decide) (by decide +kernel) (by decide +kernel) dX3_init_39 (fun Mz9 hMz9 => ?_)
  refine z_putF (kz := 4) fl_X3_24 rfl (by decide) rfl rfl (fun q h => by cases h; rfl) rfl dX3_init_41 (fun Mz10 hMz10 => ?_)
  refine z_aload_nr dX3_init_44 rfl ?_
  refine z_bipush dX3_init_45 ⟨by decide, by decide⟩ (by decide) ?_
  refine z_puti (kz := 5) fl_X3_27 rfl (by decide) rfl nr_42_5 dX3_init_47 (fun Mz11 hMz11 => ?_)
  refine z_aload_nr dX3_init_50 rfl ?_
  refine z_bipush dX3_init_51 ⟨by decide, by decide⟩ (by decide) ?_
  refine z_puti (kz := 6) fl_X3_31 rfl (by decide) rfl nr_42_6 dX3_init_53 (fun Mz12 hMz12 => ?_)
  refine z_aload_nr dX3_init_56 rfl ?_
  refine z_iconst dX3_init_57 ⟨by decide, by decide⟩ ?_
  refine z_puti (kz := 7) fl_X3_34 rfl (by decide) rfl nr_42_7 dX3_init_58 (fun Mz13 hMz13 => ?_)
  refine z_aload_nr dX3_init_61 rfl ?_
  refine z_bipush dX3_init_62 ⟨by decide, by decide⟩ (by decide) ?_
  refine z_newai (len := 8) ac_0 rfl rfl (by decide) (by decide) (by decide +kernel) (by decide +kernel) dX3_init_64 (fun Mz14 hMz14 => ?_)
  refine z_putF (kz := 8) fl_X3_37 rfl (by decide) rfl rfl (fun q h => by cases h; rfl) rfl dX3_init_66 (fun Mz15 hMz15 => ?_)
  refine z_aload_nr dX3_init_69 rfl ?_
  refine z_bipush dX3_init_70 ⟨by decide, by decide⟩ (by decide) ?_
  refine z_newai (len := 8) ac_0 rfl rfl (by decide) (by decide) (by decide +kernel) (by decide +kernel) dX3_init_72 (fun Mz16 hMz16 => ?_)
  refine z_putF (kz := 9) fl_X3_40 rfl (by decide) rfl rfl (fun q h => by cases h; rfl) rfl dX3_init_74 (fun Mz17 hMz17 => ?_)
  refine z_aload_nr dX3_init_77 rfl ?_
  refine z_bipush dX3_init_78 ⟨by decide, by decide⟩ (by decide) ?_
  refine z_newaz (len := 8) ac_1 rfl rfl (by decide) (by decide) (by decide +kernel) (by decide +kernel) dX3_init_80 (fun Mz18 hMz18 => ?_)
  refine z_putF (kz := 10) fl_X3_43 rfl (by decide) rfl rfl (fun q h => by cases h; rfl) rfl dX3_init_82 (fun Mz19 hMz19 => ?_)
  refine z_aload_nr dX3_init_85 rfl ?_
  refine z_iconst dX3_init_86 ⟨by decide, by decide⟩ ?_
  refine z_puti (kz := 11) fl_X3_47 rfl (by decide) rfl nr_42_11 dX3_init_87 (fun Mz20 hMz20 => ?_)
  refine z_vret rfl (by decide) rfl (by decide +kernel) dX3_init_90 ?_
  refine ⟨fun b j h1 h2 => ?_, fun j => ?_, fun b j h1 h2 => ?_⟩
  · rw [hMz20, hMz19, hMz18, hMz17, hMz16, hMz15, hMz14, hMz13, hMz12, hMz11, hMz10, hMz9, hMz8, hMz7, hMz6, hMz5, hMz4, hMz3, hMz2, hMz1]
    repeat (first | rw [st_cell (by omega)] | rw [fnew_o (by omega)])
  · rw [hMz20, hMz19, hMz18, hMz17, hMz16, hMz15, hMz14, hMz13, hMz12, hMz11, hMz10, hMz9, hMz8, hMz7, hMz6, hMz5, hMz4, hMz3, hMz2, hMz1]
    repeat (first | rw [st_at] | rw [fnew_o (by decide)])
    rfl
  · have hb : b = 43 ∨ b = 44 ∨ b = 45 ∨ b = 46 ∨ b = 47 ∨ b = 48 ∨ b = 49 ∨ b = 50 := by omega
    rw [hMz20, hMz19, hMz18, hMz17, hMz16, hMz15, hMz14, hMz13, hMz12, hMz11, hMz10, hMz9, hMz8, hMz7, hMz6, hMz5, hMz4, hMz3, hMz2, hMz1]
    rcases hb with rfl | rfl | rfl | rfl | rfl | rfl | rfl | rfl <;>
    (repeat (first | rw [st_cell (by decide)] | rw [fnew_o (by decide)])) <;>
    first
    | exact fnew_a (show ¬ (0 : Nat) = 3 by decide)
    | exact fnew_a (show ¬ (1 : Nat) = 3 by decide)
    | exact fnew_a (show ¬ (2 : Nat) = 3 by decide)
set_option maxHeartbeats 1600000 in
theorem A_X3_init51 (l : Launch) (g : Cx) (M : FMem) : AMv l g false fi_X3_init [fr 51] 52 M (fun M2 => Mk M M2 51 52 ∧ (∀ j, M2 51 j = if j = 11 then 0 else if j = 10 then 59 else if j = 9 then 58 else if j = 8 then 57 else if j = 7 then 0 else if j = 6 then 31 else if j = 5 then 31 else if j = 4 then 56 else if j = 3 then 55 else if j = 2 then 54 else if j = 1 then 53 else if j = 0 then 52 else M 51 j) ∧ (∀ b j, 52 ≤ b → b < 60 → M2 b j = 0)) := by
  refine AMv_intro [fr 51] (by decide) (knall rfl) (Nat.le_of_ble_eq_true rfl) rfl ?_
  intro hNV hM0 μ
  refine z_aload_nr dX3_init_0 rfl ?_
  refine z_obj oi_X3_3 oi_inst oi_code (by decide) (Nat.le_of_ble_eq_true rfl) dX3_init_1 ?_
  refine z_aload_nr dX3_init_4 rfl ?_
  refine z_bipush dX3_init_5 ⟨by decide, by decide⟩ (by decide) ?_
  refine z_newai (len := 6) ac_0 rfl rfl (by decide) (by decide) (by decide +kernel) (by decide +kernel) dX3_init_7 (fun Mz1 hMz1 => ?_)
  refine z_putF (kz := 0) fl_X3_9 rfl (by decide) rfl rfl (fun q h => by cases h; rfl) rfl dX3_init_9 (fun Mz2 hMz2 => ?_)
  refine z_aload_nr dX3_init_12 rfl ?_
  refine z_bipush dX3_init_13 ⟨by decide, by decide⟩ (by decide) ?_
  refine z_newai (len := 6) ac_0 rfl rfl (by decide) (by decide) (by decide +kernel) (by decide +kernel) dX3_init_15 (fun Mz3 hMz3 => ?_)
  refine z_putF (kz := 1) fl_X3_15 rfl (by decide) rfl rfl (fun q h => by cases h; rfl) rfl dX3_init_17 (fun Mz4 hMz4 => ?_)
  refine z_aload_nr dX3_init_20 rfl ?_
  refine z_bipush dX3_init_21 ⟨by decide, by decide⟩ (by decide) ?_
  refine z_newai (len := 6) ac_0 rfl rfl (by decide) (by decide) (by decide +kernel) (by decide +kernel) dX3_init_23 (fun Mz5 hMz5 => ?_)
  refine z_putF (kz := 2) fl_X3_18 rfl (by decide) rfl rfl (fun q h => by cases h; rfl) rfl dX3_init_25 (fun Mz6 hMz6 => ?_)
  refine z_aload_nr dX3_init_28 rfl ?_
  refine z_bipush dX3_init_29 ⟨by decide, by decide⟩ (by decide) ?_
  refine z_newai (len := 6) ac_0 rfl rfl (by decide) (by decide) (by decide +kernel) (by decide +kernel) dX3_init_31 (fun Mz7 hMz7 => ?_)
  refine z_putF (kz := 3) fl_X3_21 rfl (by decide) rfl rfl (fun q h => by cases h; rfl) rfl dX3_init_33 (fun Mz8 hMz8 => ?_)
  refine z_aload_nr dX3_init_36 rfl ?_
  refine z_bipush dX3_init_37 ⟨by decide, by decide⟩ (by decide) ?_
  refine z_newai (len := 6) ac_0 rfl rfl (by decide) (by decide) (by decide +kernel) (by decide +kernel) dX3_init_39 (fun Mz9 hMz9 => ?_)
  refine z_putF (kz := 4) fl_X3_24 rfl (by decide) rfl rfl (fun q h => by cases h; rfl) rfl dX3_init_41 (fun Mz10 hMz10 => ?_)
  refine z_aload_nr dX3_init_44 rfl ?_
  refine z_bipush dX3_init_45 ⟨by decide, by decide⟩ (by decide) ?_
  refine z_puti (kz := 5) fl_X3_27 rfl (by decide) rfl nr_51_5 dX3_init_47 (fun Mz11 hMz11 => ?_)
  refine z_aload_nr dX3_init_50 rfl ?_
  refine z_bipush dX3_init_51 ⟨by decide, by decide⟩ (by decide) ?_
  refine z_puti (kz := 6) fl_X3_31 rfl (by decide) rfl nr_51_6 dX3_init_53 (fun Mz12 hMz12 => ?_)
  refine z_aload_nr dX3_init_56 rfl ?_
  refine z_iconst dX3_init_57 ⟨by decide, by decide⟩ ?_
  refine z_puti (kz := 7) fl_X3_34 rfl (by decide) rfl nr_51_7 dX3_init_58 (fun Mz13 hMz13 => ?_)
  refine z_aload_nr dX3_init_61 rfl ?_
  refine z_bipush dX3_init_62 ⟨by decide, by decide⟩ (by decide) ?_
  refine z_newai (len := 8) ac_0 rfl rfl (by decide) (by decide) (by decide +kernel) (by decide +kernel) dX3_init_64 (fun Mz14 hMz14 => ?_)
  refine z_putF (kz := 8) fl_X3_37 rfl (by decide) rfl rfl (fun q h => by cases h; rfl) rfl dX3_init_66 (fun Mz15 hMz15 => ?_)
  refine z_aload_nr dX3_init_69 rfl ?_
  refine z_bipush dX3_init_70 ⟨by decide, by decide⟩ (by decide) ?_
  refine z_newai (len := 8) ac_0 rfl rfl (by decide) (by decide) (by decide +kernel) (by decide +kernel) dX3_init_72 (fun Mz16 hMz16 => ?_)
  refine z_putF (kz := 9) fl_X3_40 rfl (by decide) rfl rfl (fun q h => by cases h; rfl) rfl dX3_init_74 (fun Mz17 hMz17 => ?_)
  refine z_aload_nr dX3_init_77 rfl ?_
  refine z_bipush dX3_init_78 ⟨by decide, by decide⟩ (by decide) ?_
  refine z_newaz (len := 8) ac_1 rfl rfl (by decide) (by decide) (by decide +kernel) (by decide +kernel) dX3_init_80 (fun Mz18 hMz18 => ?_)
  refine z_putF (kz := 10) fl_X3_43 rfl (by decide) rfl rfl (fun q h => by cases h; rfl) rfl dX3_init_82 (fun Mz19 hMz19 => ?_)
  refine z_aload_nr dX3_init_85 rfl ?_
  refine z_iconst dX3_init_86 ⟨by decide, by decide⟩ ?_
  refine z_puti (kz := 11) fl_X3_47 rfl (by decide) rfl nr_51_11 dX3_init_87 (fun Mz20 hMz20 => ?_)
  refine z_vret rfl (by decide) rfl (by decide +kernel) dX3_init_90 ?_
  refine ⟨fun b j h1 h2 => ?_, fun j => ?_, fun b j h1 h2 => ?_⟩
  · rw [hMz20, hMz19, hMz18, hMz17, hMz16, hMz15, hMz14, hMz13, hMz12, hMz11, hMz10, hMz9, hMz8, hMz7, hMz6, hMz5, hMz4, hMz3, hMz2, hMz1]
    repeat (first | rw [st_cell (by omega)] | rw [fnew_o (by omega)])
  · rw [hMz20, hMz19, hMz18, hMz17, hMz16, hMz15, hMz14, hMz13, hMz12, hMz11, hMz10, hMz9, hMz8, hMz7, hMz6, hMz5, hMz4, hMz3, hMz2, hMz1]
    repeat (first | rw [st_at] | rw [fnew_o (by decide)])
    rfl
  · have hb : b = 52 ∨ b = 53 ∨ b = 54 ∨ b = 55 ∨ b = 56 ∨ b = 57 ∨ b = 58 ∨ b = 59 := by omega
    rw [hMz20, hMz19, hMz18, hMz17, hMz16, hMz15, hMz14, hMz13, hMz12, hMz11, hMz10, hMz9, hMz8, hMz7, hMz6, hMz5, hMz4, hMz3, hMz2, hMz1]
    rcases hb with rfl | rfl | rfl | rfl | rfl | rfl | rfl | rfl <;>
    (repeat (first | rw [st_cell (by decide)] | rw [fnew_o (by decide)])) <;>
    first
    | exact fnew_a (show ¬ (0 : Nat) = 3 by decide)
    | exact fnew_a (show ¬ (1 : Nat) = 3 by decide)
    | exact fnew_a (show ¬ (2 : Nat) = 3 by decide)
set_option maxHeartbeats 1600000 in
theorem A_X1_init (l : Launch) (g : Cx) (M : FMem) : AMv l g false fi_X1_init [fr 20] 21 M (fun M2 => Mk M M2 20 21 ∧ (∀ j, M2 20 j = if j = 14 then 33 else if j = 13 then 32 else if j = 12 then 31 else if j = 11 then 30 else if j = 10 then 29 else if j = 9 then 28 else if j = 8 then 0 else if j = 7 then 0 else if j = 6 then 27 else if j = 5 then 26 else if j = 4 then 25 else if j = 3 then 24 else if j = 2 then 23 else if j = 1 then 22 else if j = 0 then 21 else M 20 j) ∧ (∀ b j, 21 ≤ b → b < 34 → M2 b j = 0)) := by
  refine AMv_intro [fr 20] (by decide) (knall rfl) (Nat.le_of_ble_eq_true rfl) rfl ?_
  intro hNV hM0 μ
  refine z_aload_nr dX1_init_0 rfl ?_
  refine z_obj oi_X1_5 oi_inst oi_code (by decide) (Nat.le_of_ble_eq_true rfl) dX1_init_1 ?_
  refine z_aload_nr dX1_init_4 rfl ?_
  refine z_bipush dX1_init_5 ⟨by decide, by decide⟩ (by decide) ?_
  refine z_newaz (len := 80) ac_1 rfl rfl (by decide) (by decide) (by decide +kernel) (by decide +kernel) dX1_init_7 (fun Mz1 hMz1 => ?_)
  refine z_putF (kz := 0) fl_X1_11 rfl (by decide) rfl rfl (fun q h => by cases h; rfl) rfl dX1_init_9 (fun Mz2 hMz2 => ?_)
  refine z_aload_nr dX1_init_12 rfl ?_
  refine z_bipush dX1_init_13 ⟨by decide, by decide⟩ (by decide) ?_
  refine z_newai (len := 80) ac_0 rfl rfl (by decide) (by decide) (by decide +kernel) (by decide +kernel) dX1_init_15 (fun Mz3 hMz3 => ?_)
  refine z_putF (kz := 1) fl_X1_15 rfl (by decide) rfl rfl (fun q h => by cases h; rfl) rfl dX1_init_17 (fun Mz4 hMz4 => ?_)
  refine z_aload_nr dX1_init_20 rfl ?_
  refine z_bipush dX1_init_21 ⟨by decide, by decide⟩ (by decide) ?_
  refine z_newai (len := 80) ac_0 rfl rfl (by decide) (by decide) (by decide +kernel) (by decide +kernel) dX1_init_23 (fun Mz5 hMz5 => ?_)
  refine z_putF (kz := 2) fl_X1_19 rfl (by decide) rfl rfl (fun q h => by cases h; rfl) rfl dX1_init_25 (fun Mz6 hMz6 => ?_)
  refine z_aload_nr dX1_init_28 rfl ?_
  refine z_bipush dX1_init_29 ⟨by decide, by decide⟩ (by decide) ?_
  refine z_newai (len := 80) ac_0 rfl rfl (by decide) (by decide) (by decide +kernel) (by decide +kernel) dX1_init_31 (fun Mz7 hMz7 => ?_)
  refine z_putF (kz := 3) fl_X1_22 rfl (by decide) rfl rfl (fun q h => by cases h; rfl) rfl dX1_init_33 (fun Mz8 hMz8 => ?_)
  refine z_aload_nr dX1_init_36 rfl ?_
  refine z_bipush dX1_init_37 ⟨by decide, by decide⟩ (by decide) ?_
  refine z_newai (len := 80) ac_0 rfl rfl (by decide) (by decide) (by decide +kernel) (by decide +kernel) dX1_init_39 (fun Mz9 hMz9 => ?_)
  refine z_putF (kz := 4) fl_X1_25 rfl (by decide) rfl rfl (fun q h => by cases h; rfl) rfl dX1_init_41 (fun Mz10 hMz10 => ?_)
  refine z_aload_nr dX1_init_44 rfl ?_
  refine z_bipush dX1_init_45 ⟨by decide, by decide⟩ (by decide) ?_
  refine z_newai (len := 80) ac_0 rfl rfl (by decide) (by decide) (by decide +kernel) (by decide +kernel) dX1_init_47 (fun Mz11 hMz11 => ?_)
  refine z_putF (kz := 5) fl_X1_28 rfl (by decide) rfl rfl (fun q h => by cases h; rfl) rfl dX1_init_49 (fun Mz12 hMz12 => ?_)
  refine z_aload_nr dX1_init_52 rfl ?_
  refine z_bipush dX1_init_53 ⟨by decide, by decide⟩ (by decide) ?_
  refine z_newai (len := 80) ac_0 rfl rfl (by decide) (by decide) (by decide +kernel) (by decide +kernel) dX1_init_55 (fun Mz13 hMz13 => ?_)
  refine z_putF (kz := 6) fl_X1_31 rfl (by decide) rfl rfl (fun q h => by cases h; rfl) rfl dX1_init_57 (fun Mz14 hMz14 => ?_)
  refine z_aload_nr dX1_init_60 rfl ?_
  refine z_iconst dX1_init_61 ⟨by decide, by decide⟩ ?_
  refine z_puti (kz := 7) fl_X1_34 rfl (by decide) rfl nr_20_7 dX1_init_62 (fun Mz15 hMz15 => ?_)
  refine z_aload_nr dX1_init_65 rfl ?_
  refine z_iconst dX1_init_66 ⟨by decide, by decide⟩ ?_
  refine z_puti (kz := 8) fl_X1_38 rfl (by decide) rfl nr_20_8 dX1_init_67 (fun Mz16 hMz16 => ?_)
  refine z_aload_nr dX1_init_70 rfl ?_
  refine z_bipush dX1_init_71 ⟨by decide, by decide⟩ (by decide) ?_
  refine z_newai (len := 17) ac_0 rfl rfl (by decide) (by decide) (by decide +kernel) (by decide +kernel) dX1_init_73 (fun Mz17 hMz17 => ?_)
  refine z_putF (kz := 9) fl_X1_41 rfl (by decide) rfl rfl (fun q h => by cases h; rfl) rfl dX1_init_75 (fun Mz18 hMz18 => ?_)
  refine z_aload_nr dX1_init_78 rfl ?_
  refine z_bipush dX1_init_79 ⟨by decide, by decide⟩ (by decide) ?_
  refine z_newai (len := 17) ac_0 rfl rfl (by decide) (by decide) (by decide +kernel) (by decide +kernel) dX1_init_81 (fun Mz19 hMz19 => ?_)
  refine z_putF (kz := 10) fl_X1_44 rfl (by decide) rfl rfl (fun q h => by cases h; rfl) rfl dX1_init_83 (fun Mz20 hMz20 => ?_)
  refine z_aload_nr dX1_init_86 rfl ?_
  refine z_bipush dX1_init_87 ⟨by decide, by decide⟩ (by decide) ?_
  refine z_newaz (len := 80) ac_1 rfl rfl (by decide) (by decide) (by decide +kernel) (by decide +kernel) dX1_init_89 (fun Mz21 hMz21 => ?_)
  refine z_putF (kz := 11) fl_X1_47 rfl (by decide) rfl rfl (fun q h => by cases h; rfl) rfl dX1_init_91 (fun Mz22 hMz22 => ?_)
  refine z_aload_nr dX1_init_94 rfl ?_
  refine z_bipush dX1_init_95 ⟨by decide, by decide⟩ (by decide) ?_
  refine z_newai (len := 10) ac_0 rfl rfl (by decide) (by decide) (by decide +kernel) (by decide +kernel) dX1_init_97 (fun Mz23 hMz23 => ?_)
  refine z_putF (kz := 12) fl_X1_50 rfl (by decide) rfl rfl (fun q h => by cases h; rfl) rfl dX1_init_99 (fun Mz24 hMz24 => ?_)
  refine z_aload_nr dX1_init_102 rfl ?_
  refine z_bipush dX1_init_103 ⟨by decide, by decide⟩ (by decide) ?_
  refine z_newai (len := 10) ac_0 rfl rfl (by decide) (by decide) (by decide +kernel) (by decide +kernel) dX1_init_105 (fun Mz25 hMz25 => ?_)
  refine z_putF (kz := 13) fl_X1_53 rfl (by decide) rfl rfl (fun q h => by cases h; rfl) rfl dX1_init_107 (fun Mz26 hMz26 => ?_)
  refine z_aload_nr dX1_init_110 rfl ?_
  refine z_bipush dX1_init_111 ⟨by decide, by decide⟩ (by decide) ?_
  refine z_newaz (len := 10) ac_1 rfl rfl (by decide) (by decide) (by decide +kernel) (by decide +kernel) dX1_init_113 (fun Mz27 hMz27 => ?_)
  refine z_putF (kz := 14) fl_X1_56 rfl (by decide) rfl rfl (fun q h => by cases h; rfl) rfl dX1_init_115 (fun Mz28 hMz28 => ?_)
  refine z_vret rfl (by decide) rfl (by decide +kernel) dX1_init_118 ?_
  refine ⟨fun b j h1 h2 => ?_, fun j => ?_, fun b j h1 h2 => ?_⟩
  · rw [hMz28, hMz27, hMz26, hMz25, hMz24, hMz23, hMz22, hMz21, hMz20, hMz19, hMz18, hMz17, hMz16, hMz15, hMz14, hMz13, hMz12, hMz11, hMz10, hMz9, hMz8, hMz7, hMz6, hMz5, hMz4, hMz3, hMz2, hMz1]
    repeat (first | rw [st_cell (by omega)] | rw [fnew_o (by omega)])
  · rw [hMz28, hMz27, hMz26, hMz25, hMz24, hMz23, hMz22, hMz21, hMz20, hMz19, hMz18, hMz17, hMz16, hMz15, hMz14, hMz13, hMz12, hMz11, hMz10, hMz9, hMz8, hMz7, hMz6, hMz5, hMz4, hMz3, hMz2, hMz1]
    repeat (first | rw [st_at] | rw [fnew_o (by decide)])
    rfl
  · have hb : b = 21 ∨ b = 22 ∨ b = 23 ∨ b = 24 ∨ b = 25 ∨ b = 26 ∨ b = 27 ∨ b = 28 ∨ b = 29 ∨ b = 30 ∨ b = 31 ∨ b = 32 ∨ b = 33 := by omega
    rw [hMz28, hMz27, hMz26, hMz25, hMz24, hMz23, hMz22, hMz21, hMz20, hMz19, hMz18, hMz17, hMz16, hMz15, hMz14, hMz13, hMz12, hMz11, hMz10, hMz9, hMz8, hMz7, hMz6, hMz5, hMz4, hMz3, hMz2, hMz1]
    rcases hb with rfl | rfl | rfl | rfl | rfl | rfl | rfl | rfl | rfl | rfl | rfl | rfl | rfl <;>
    (repeat (first | rw [st_cell (by decide)] | rw [fnew_o (by decide)])) <;>
    first
    | exact fnew_a (show ¬ (0 : Nat) = 3 by decide)
    | exact fnew_a (show ¬ (1 : Nat) = 3 by decide)
    | exact fnew_a (show ¬ (2 : Nat) = 3 by decide)
