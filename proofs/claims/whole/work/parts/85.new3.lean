/-! ===== the reference's constructor ===== -/
set_option maxHeartbeats 1600000 in
theorem A_X8_clearRules (l : Launch) (g : Cx) (M : FMem) : AMv l g false fi_X8_clearRules [fr 60] 93 M (fun M2 => M2 = st (st M 60 17 31) 60 18 31) := by
  refine AMv_intro [fr 60] (by decide) (knall rfl) (Nat.le_of_ble_eq_true rfl) rfl ?_
  intro hNV hM0 μ
  refine z_aload_nr dX8_clearRules_0 rfl ?_
  refine z_bipush dX8_clearRules_1 ⟨by decide, by decide⟩ (by decide) ?_
  refine z_puti (kz := 17) fl_X8_189 rfl (by decide) rfl nr_60_17 dX8_clearRules_3 (fun Mz1 hMz1 => ?_)
  refine z_aload_nr dX8_clearRules_6 rfl ?_
  refine z_bipush dX8_clearRules_7 ⟨by decide, by decide⟩ (by decide) ?_
  refine z_puti (kz := 18) fl_X8_192 rfl (by decide) rfl nr_60_18 dX8_clearRules_9 (fun Mz2 hMz2 => ?_)
  refine z_vret rfl (by decide) rfl (by decide +kernel) dX8_clearRules_12 ?_
  rw [hMz2, hMz1]
set_option maxHeartbeats 6400000 in
theorem A_X8_init (l : Launch) (g : Cx) (M : FMem) : AMv l g false fi_X8_init [fr 60] 61 M (fun M2 => Mk M M2 60 61 ∧ (∀ j, M2 60 j = if j = 18 then 31 else if j = 17 then 31 else if j = 53 then 92 else if j = 50 then 91 else if j = 49 then 90 else if j = 48 then 89 else if j = 47 then 88 else if j = 46 then 87 else if j = 44 then (-1) else if j = 43 then (-1) else if j = 42 then (-1) else if j = 41 then 86 else if j = 38 then (-1) else if j = 34 then 85 else if j = 33 then 84 else if j = 32 then 83 else if j = 31 then 82 else if j = 26 then 81 else if j = 25 then 80 else if j = 24 then 79 else if j = 23 then 78 else if j = 22 then 77 else if j = 19 then 76 else if j = 16 then 75 else if j = 15 then 74 else if j = 14 then 73 else if j = 13 then 72 else if j = 11 then 71 else if j = 10 then 70 else if j = 9 then 69 else if j = 8 then 68 else if j = 7 then 67 else if j = 6 then 66 else if j = 5 then 65 else if j = 4 then 64 else if j = 3 then 63 else if j = 2 then 62 else if j = 1 then 61 else M 60 j) ∧ (∀ b j, 61 ≤ b → b < 93 → M2 b j = if b = 74 ∧ 0 ≤ j ∧ j < 10 then (-1) else 0)) := by
  refine AMv_intro [fr 60, fu] (by decide) (knall rfl) (Nat.le_of_ble_eq_true rfl) rfl ?_
  intro hNV hM0 μ
  have lp287 : ∀ (kq : Nat) (kz : Int) (M1 : FMem), (10 - kz).toNat = kq → (0 ≤ kz ∧ kz ≤ 10) → (Mk M M1 60 61 ∧ (∀ j, M1 60 j = if j = 18 then 31 else if j = 17 then 31 else if j = 53 then 92 else if j = 50 then 91 else if j = 49 then 90 else if j = 48 then 89 else if j = 47 then 88 else if j = 46 then 87 else if j = 44 then (-1) else if j = 43 then (-1) else if j = 42 then (-1) else if j = 41 then 86 else if j = 38 then (-1) else if j = 34 then 85 else if j = 33 then 84 else if j = 32 then 83 else if j = 31 then 82 else if j = 26 then 81 else if j = 25 then 80 else if j = 24 then 79 else if j = 23 then 78 else if j = 22 then 77 else if j = 19 then 76 else if j = 16 then 75 else if j = 15 then 74 else if j = 14 then 73 else if j = 13 then 72 else if j = 11 then 71 else if j = 10 then 70 else if j = 9 then 69 else if j = 8 then 68 else if j = 7 then 67 else if j = 6 then 66 else if j = 5 then 65 else if j = 4 then 64 else if j = 3 then 63 else if j = 2 then 62 else if j = 1 then 61 else M 60 j) ∧ (∀ b j, 61 ≤ b → b < 93 → M1 b j = if b = 74 ∧ 0 ≤ j ∧ j < kz then (-1) else 0)) → Wa l g false fi_X8_init 61 μ (Zv g false fi_X8_init 61 μ (fun M2 => Mk M M2 60 61 ∧ (∀ j, M2 60 j = if j = 18 then 31 else if j = 17 then 31 else if j = 53 then 92 else if j = 50 then 91 else if j = 49 then 90 else if j = 48 then 89 else if j = 47 then 88 else if j = 46 then 87 else if j = 44 then (-1) else if j = 43 then (-1) else if j = 42 then (-1) else if j = 41 then 86 else if j = 38 then (-1) else if j = 34 then 85 else if j = 33 then 84 else if j = 32 then 83 else if j = 31 then 82 else if j = 26 then 81 else if j = 25 then 80 else if j = 24 then 79 else if j = 23 then 78 else if j = 22 then 77 else if j = 19 then 76 else if j = 16 then 75 else if j = 15 then 74 else if j = 14 then 73 else if j = 13 then 72 else if j = 11 then 71 else if j = 10 then 70 else if j = 9 then 69 else if j = 8 then 68 else if j = 7 then 67 else if j = 6 then 66 else if j = 5 then 65 else if j = 4 then 64 else if j = 3 then 63 else if j = 2 then 62 else if j = 1 then 61 else M 60 j) ∧ (∀ b j, 61 ≤ b → b < 93 → M2 b j = if b = 74 ∧ 0 ≤ j ∧ j < 10 then (-1) else 0))) 287 [] [fr 60, fi kz] 93 M1 := by
    intro kq
    induction kq using Nat.strongRecOn with
    | _ kq ih287 =>
    intro kz M1 hk287 hk hM
    refine z_iload_n dX8_init_287 rfl ?_
    refine z_bipush dX8_init_288 ⟨by decide, by decide⟩ (by decide) ?_
    refine z_icmp_ge (tgt := 306) dX8_init_290 (by decide) (fun c1 => ?_) (fun c1 => ?_)
    · refine z_vret rfl (by decide) rfl (by decide +kernel) dX8_init_306 ?_
      have h10 : kz = 10 := by omega
      rw [h10] at hM
      exact hM
    · refine z_aload_nr dX8_init_293 rfl ?_
      refine z_getv (b := 74) (kz := 15) fl_X8_50 rfl (by decide) rfl (fun _ => by rw [hM.2.1]; rfl) dX8_init_294 ?_
      refine z_iload_n dX8_init_297 rfl ?_
      refine z_iconst dX8_init_298 ⟨by decide, by decide⟩ ?_
      refine z_iast rfl (by decide) (by omega) (by omega) dX8_init_299 (fun Mz2 hMz2 => ?_)
      refine z_iinc (loc2 := fun vq => [fr 60, fi vq]) dX8_init_300 rfl (by decide) (by omega) (fun _ => rfl) (fun x3 hx3 => ?_)
      refine z_goto (tgt := 287) dX8_init_303 (by decide) ?_
      exact ih287 _ (by omega) x3 Mz2 rfl (by omega) (by rw [hx3]; exact ⟨fun b j h1 h2 => by rw [hMz2, st_cell (by omega)]; exact hM.1 b j h1 h2, fun j => by rw [hMz2, st_cell (by decide)]; exact hM.2.1 j, fun b j h1 h2 => by
        rw [hMz2]
        unfold st
        by_cases e : b = 74 ∧ j = kz
        · rw [if_pos e, if_pos (by omega)]
        · rw [if_neg e, hM.2.2 b j h1 h2]
          by_cases e2 : b = 74 ∧ 0 ≤ j ∧ j < kz
          · rw [if_pos e2, if_pos (by omega)]
          · rw [if_neg e2, if_neg (by omega)]⟩)
  refine z_aload_nr dX8_init_0 rfl ?_
  refine z_obj oi_X8_1 oi_inst oi_code (by decide) (Nat.le_of_ble_eq_true rfl) dX8_init_1 ?_
  refine z_aload_nr dX8_init_4 rfl ?_
  refine z_bipush dX8_init_5 ⟨by decide, by decide⟩ (by decide) ?_
  refine z_newai (len := 80) ac_0 rfl rfl (by decide) (by decide) (by decide +kernel) (by decide +kernel) dX8_init_7 (fun Mz4 hMz4 => ?_)
  refine z_putF (kz := 1) fl_X8_7 rfl (by decide) rfl rfl (fun q h => by cases h; rfl) rfl dX8_init_9 (fun Mz5 hMz5 => ?_)
  refine z_aload_nr dX8_init_12 rfl ?_
  refine z_bipush dX8_init_13 ⟨by decide, by decide⟩ (by decide) ?_
  refine z_newai (len := 80) ac_0 rfl rfl (by decide) (by decide) (by decide +kernel) (by decide +kernel) dX8_init_15 (fun Mz6 hMz6 => ?_)
  refine z_putF (kz := 2) fl_X8_13 rfl (by decide) rfl rfl (fun q h => by cases h; rfl) rfl dX8_init_17 (fun Mz7 hMz7 => ?_)
  refine z_aload_nr dX8_init_20 rfl ?_
  refine z_bipush dX8_init_21 ⟨by decide, by decide⟩ (by decide) ?_
  refine z_newai (len := 80) ac_0 rfl rfl (by decide) (by decide) (by decide +kernel) (by decide +kernel) dX8_init_23 (fun Mz8 hMz8 => ?_)
  refine z_putF (kz := 3) fl_X8_16 rfl (by decide) rfl rfl (fun q h => by cases h; rfl) rfl dX8_init_25 (fun Mz9 hMz9 => ?_)
  refine z_aload_nr dX8_init_28 rfl ?_
  refine z_bipush dX8_init_29 ⟨by decide, by decide⟩ (by decide) ?_
  refine z_newai (len := 80) ac_0 rfl rfl (by decide) (by decide) (by decide +kernel) (by decide +kernel) dX8_init_31 (fun Mz10 hMz10 => ?_)
  refine z_putF (kz := 4) fl_X8_19 rfl (by decide) rfl rfl (fun q h => by cases h; rfl) rfl dX8_init_33 (fun Mz11 hMz11 => ?_)
  refine z_aload_nr dX8_init_36 rfl ?_
  refine z_bipush dX8_init_37 ⟨by decide, by decide⟩ (by decide) ?_
  refine z_newai (len := 80) ac_0 rfl rfl (by decide) (by decide) (by decide +kernel) (by decide +kernel) dX8_init_39 (fun Mz12 hMz12 => ?_)
  refine z_putF (kz := 5) fl_X8_22 rfl (by decide) rfl rfl (fun q h => by cases h; rfl) rfl dX8_init_41 (fun Mz13 hMz13 => ?_)
  refine z_aload_nr dX8_init_44 rfl ?_
  refine z_bipush dX8_init_45 ⟨by decide, by decide⟩ (by decide) ?_
  refine z_newai (len := 80) ac_0 rfl rfl (by decide) (by decide) (by decide +kernel) (by decide +kernel) dX8_init_47 (fun Mz14 hMz14 => ?_)
  refine z_putF (kz := 6) fl_X8_25 rfl (by decide) rfl rfl (fun q h => by cases h; rfl) rfl dX8_init_49 (fun Mz15 hMz15 => ?_)
  refine z_aload_nr dX8_init_52 rfl ?_
  refine z_bipush dX8_init_53 ⟨by decide, by decide⟩ (by decide) ?_
  refine z_newai (len := 80) ac_0 rfl rfl (by decide) (by decide) (by decide +kernel) (by decide +kernel) dX8_init_55 (fun Mz16 hMz16 => ?_)
  refine z_putF (kz := 7) fl_X8_28 rfl (by decide) rfl rfl (fun q h => by cases h; rfl) rfl dX8_init_57 (fun Mz17 hMz17 => ?_)
  refine z_aload_nr dX8_init_60 rfl ?_
  refine z_bipush dX8_init_61 ⟨by decide, by decide⟩ (by decide) ?_
  refine z_newai (len := 80) ac_0 rfl rfl (by decide) (by decide) (by decide +kernel) (by decide +kernel) dX8_init_63 (fun Mz18 hMz18 => ?_)
  refine z_putF (kz := 8) fl_X8_31 rfl (by decide) rfl rfl (fun q h => by cases h; rfl) rfl dX8_init_65 (fun Mz19 hMz19 => ?_)
  refine z_aload_nr dX8_init_68 rfl ?_
  refine z_bipush dX8_init_69 ⟨by decide, by decide⟩ (by decide) ?_
  refine z_newaz (len := 80) ac_1 rfl rfl (by decide) (by decide) (by decide +kernel) (by decide +kernel) dX8_init_71 (fun Mz20 hMz20 => ?_)
  refine z_putF (kz := 9) fl_X8_34 rfl (by decide) rfl rfl (fun q h => by cases h; rfl) rfl dX8_init_73 (fun Mz21 hMz21 => ?_)
  refine z_aload_nr dX8_init_76 rfl ?_
  refine z_bipush dX8_init_77 ⟨by decide, by decide⟩ (by decide) ?_
  refine z_newaz (len := 80) ac_1 rfl rfl (by decide) (by decide) (by decide +kernel) (by decide +kernel) dX8_init_79 (fun Mz22 hMz22 => ?_)
  refine z_putF (kz := 10) fl_X8_38 rfl (by decide) rfl rfl (fun q h => by cases h; rfl) rfl dX8_init_81 (fun Mz23 hMz23 => ?_)
  refine z_aload_nr dX8_init_84 rfl ?_
  refine z_bipush dX8_init_85 ⟨by decide, by decide⟩ (by decide) ?_
  refine z_newai (len := 80) ac_0 rfl rfl (by decide) (by decide) (by decide +kernel) (by decide +kernel) dX8_init_87 (fun Mz24 hMz24 => ?_)
  refine z_putF (kz := 11) fl_X8_41 rfl (by decide) rfl rfl (fun q h => by cases h; rfl) rfl dX8_init_89 (fun Mz25 hMz25 => ?_)
  refine z_aload_nr dX8_init_92 rfl ?_
  refine z_bipush dX8_init_93 ⟨by decide, by decide⟩ (by decide) ?_
  refine z_newai (len := 10) ac_0 rfl rfl (by decide) (by decide) (by decide +kernel) (by decide +kernel) dX8_init_95 (fun Mz26 hMz26 => ?_)
  refine z_putF (kz := 13) fl_X8_44 rfl (by decide) rfl rfl (fun q h => by cases h; rfl) rfl dX8_init_97 (fun Mz27 hMz27 => ?_)
  refine z_aload_nr dX8_init_100 rfl ?_
  refine z_bipush dX8_init_101 ⟨by decide, by decide⟩ (by decide) ?_
  refine z_newai (len := 10) ac_0 rfl rfl (by decide) (by decide) (by decide +kernel) (by decide +kernel) dX8_init_103 (fun Mz28 hMz28 => ?_)
  refine z_putF (kz := 14) fl_X8_47 rfl (by decide) rfl rfl (fun q h => by cases h; rfl) rfl dX8_init_105 (fun Mz29 hMz29 => ?_)
  refine z_aload_nr dX8_init_108 rfl ?_
  refine z_bipush dX8_init_109 ⟨by decide, by decide⟩ (by decide) ?_
  refine z_newai (len := 10) ac_0 rfl rfl (by decide) (by decide) (by decide +kernel) (by decide +kernel) dX8_init_111 (fun Mz30 hMz30 => ?_)
  refine z_putF (kz := 15) fl_X8_50 rfl (by decide) rfl rfl (fun q h => by cases h; rfl) rfl dX8_init_113 (fun Mz31 hMz31 => ?_)
  refine z_aload_nr dX8_init_116 rfl ?_
  refine z_bipush dX8_init_117 ⟨by decide, by decide⟩ (by decide) ?_
  refine z_newai (len := 24) ac_0 rfl rfl (by decide) (by decide) (by decide +kernel) (by decide +kernel) dX8_init_119 (fun Mz32 hMz32 => ?_)
  refine z_putF (kz := 16) fl_X8_53 rfl (by decide) rfl rfl (fun q h => by cases h; rfl) rfl dX8_init_121 (fun Mz33 hMz33 => ?_)
  refine z_aload_nr dX8_init_124 rfl ?_
  refine z_bipush dX8_init_125 ⟨by decide, by decide⟩ (by decide) ?_
  refine z_newai (len := 6) ac_0 rfl rfl (by decide) (by decide) (by decide +kernel) (by decide +kernel) dX8_init_127 (fun Mz34 hMz34 => ?_)
  refine z_putF (kz := 19) fl_X8_56 rfl (by decide) rfl rfl (fun q h => by cases h; rfl) rfl dX8_init_129 (fun Mz35 hMz35 => ?_)
  refine z_aload_nr dX8_init_132 rfl ?_
  refine z_bipush dX8_init_133 ⟨by decide, by decide⟩ (by decide) ?_
  refine z_newai (len := 8) ac_0 rfl rfl (by decide) (by decide) (by decide +kernel) (by decide +kernel) dX8_init_135 (fun Mz36 hMz36 => ?_)
  refine z_putF (kz := 22) fl_X8_59 rfl (by decide) rfl rfl (fun q h => by cases h; rfl) rfl dX8_init_137 (fun Mz37 hMz37 => ?_)
  refine z_aload_nr dX8_init_140 rfl ?_
  refine z_bipush dX8_init_141 ⟨by decide, by decide⟩ (by decide) ?_
  refine z_newai (len := 8) ac_0 rfl rfl (by decide) (by decide) (by decide +kernel) (by decide +kernel) dX8_init_143 (fun Mz38 hMz38 => ?_)
  refine z_putF (kz := 23) fl_X8_62 rfl (by decide) rfl rfl (fun q h => by cases h; rfl) rfl dX8_init_145 (fun Mz39 hMz39 => ?_)
  refine z_aload_nr dX8_init_148 rfl ?_
  refine z_bipush dX8_init_149 ⟨by decide, by decide⟩ (by decide) ?_
  refine z_newaz (len := 8) ac_1 rfl rfl (by decide) (by decide) (by decide +kernel) (by decide +kernel) dX8_init_151 (fun Mz40 hMz40 => ?_)
  refine z_putF (kz := 24) fl_X8_65 rfl (by decide) rfl rfl (fun q h => by cases h; rfl) rfl dX8_init_153 (fun Mz41 hMz41 => ?_)
  refine z_aload_nr dX8_init_156 rfl ?_
  refine z_bipush dX8_init_157 ⟨by decide, by decide⟩ (by decide) ?_
  refine z_newai (len := 24) ac_0 rfl rfl (by decide) (by decide) (by decide +kernel) (by decide +kernel) dX8_init_159 (fun Mz42 hMz42 => ?_)
  refine z_putF (kz := 25) fl_X8_68 rfl (by decide) rfl rfl (fun q h => by cases h; rfl) rfl dX8_init_161 (fun Mz43 hMz43 => ?_)
  refine z_aload_nr dX8_init_164 rfl ?_
  refine z_bipush dX8_init_165 ⟨by decide, by decide⟩ (by decide) ?_
  refine z_newai (len := 6) ac_0 rfl rfl (by decide) (by decide) (by decide +kernel) (by decide +kernel) dX8_init_167 (fun Mz44 hMz44 => ?_)
  refine z_putF (kz := 26) fl_X8_71 rfl (by decide) rfl rfl (fun q h => by cases h; rfl) rfl dX8_init_169 (fun Mz45 hMz45 => ?_)
  refine z_aload_nr dX8_init_172 rfl ?_
  refine z_bipush dX8_init_173 ⟨by decide, by decide⟩ (by decide) ?_
  refine z_newai (len := 8) ac_0 rfl rfl (by decide) (by decide) (by decide +kernel) (by decide +kernel) dX8_init_175 (fun Mz46 hMz46 => ?_)
  refine z_putF (kz := 31) fl_X8_74 rfl (by decide) rfl rfl (fun q h => by cases h; rfl) rfl dX8_init_177 (fun Mz47 hMz47 => ?_)
  refine z_aload_nr dX8_init_180 rfl ?_
  refine z_bipush dX8_init_181 ⟨by decide, by decide⟩ (by decide) ?_
  refine z_newai (len := 8) ac_0 rfl rfl (by decide) (by decide) (by decide +kernel) (by decide +kernel) dX8_init_183 (fun Mz48 hMz48 => ?_)
  refine z_putF (kz := 32) fl_X8_77 rfl (by decide) rfl rfl (fun q h => by cases h; rfl) rfl dX8_init_185 (fun Mz49 hMz49 => ?_)
  refine z_aload_nr dX8_init_188 rfl ?_
  refine z_bipush dX8_init_189 ⟨by decide, by decide⟩ (by decide) ?_
  refine z_newaz (len := 8) ac_1 rfl rfl (by decide) (by decide) (by decide +kernel) (by decide +kernel) dX8_init_191 (fun Mz50 hMz50 => ?_)
  refine z_putF (kz := 33) fl_X8_80 rfl (by decide) rfl rfl (fun q h => by cases h; rfl) rfl dX8_init_193 (fun Mz51 hMz51 => ?_)
  refine z_aload_nr dX8_init_196 rfl ?_
  refine z_sipush dX8_init_197 ⟨by decide, by decide⟩ (by decide) ?_
  refine z_newai (len := 240) ac_0 rfl rfl (by decide) (by decide) (by decide +kernel) (by decide +kernel) dX8_init_200 (fun Mz52 hMz52 => ?_)
  refine z_putF (kz := 34) fl_X8_83 rfl (by decide) rfl rfl (fun q h => by cases h; rfl) rfl dX8_init_202 (fun Mz53 hMz53 => ?_)
  refine z_aload_nr dX8_init_205 rfl ?_
  refine z_iconst dX8_init_206 ⟨by decide, by decide⟩ ?_
  refine z_puti (kz := 38) fl_X8_86 rfl (by decide) rfl nr_60_38 dX8_init_207 (fun Mz54 hMz54 => ?_)
  refine z_aload_nr dX8_init_210 rfl ?_
  refine z_sipush dX8_init_211 ⟨by decide, by decide⟩ (by decide) ?_
  refine z_newal (len := 289) ac_2 rfl rfl (by decide) (by decide) (by decide +kernel) (by decide +kernel) dX8_init_214 (fun Mz55 hMz55 => ?_)
  refine z_putF (kz := 41) fl_X8_90 rfl (by decide) rfl rfl (fun q h => by cases h; rfl) rfl dX8_init_216 (fun Mz56 hMz56 => ?_)
  refine z_aload_nr dX8_init_219 rfl ?_
  refine z_iconst dX8_init_220 ⟨by decide, by decide⟩ ?_
  refine z_puti (kz := 42) fl_X8_94 rfl (by decide) rfl nr_60_42 dX8_init_221 (fun Mz57 hMz57 => ?_)
  refine z_aload_nr dX8_init_224 rfl ?_
  refine z_iconst dX8_init_225 ⟨by decide, by decide⟩ ?_
  refine z_puti (kz := 43) fl_X8_97 rfl (by decide) rfl nr_60_43 dX8_init_226 (fun Mz58 hMz58 => ?_)
  refine z_aload_nr dX8_init_229 rfl ?_
  refine z_iconst dX8_init_230 ⟨by decide, by decide⟩ ?_
  refine z_puti (kz := 44) fl_X8_100 rfl (by decide) rfl nr_60_44 dX8_init_231 (fun Mz59 hMz59 => ?_)
  refine z_aload_nr dX8_init_234 rfl ?_
  refine z_bipush dX8_init_235 ⟨by decide, by decide⟩ (by decide) ?_
  refine z_newal (len := 17) ac_2 rfl rfl (by decide) (by decide) (by decide +kernel) (by decide +kernel) dX8_init_237 (fun Mz60 hMz60 => ?_)
  refine z_putF (kz := 46) fl_X8_103 rfl (by decide) rfl rfl (fun q h => by cases h; rfl) rfl dX8_init_239 (fun Mz61 hMz61 => ?_)
  refine z_aload_nr dX8_init_242 rfl ?_
  refine z_bipush dX8_init_243 ⟨by decide, by decide⟩ (by decide) ?_
  refine z_newai (len := 17) ac_0 rfl rfl (by decide) (by decide) (by decide +kernel) (by decide +kernel) dX8_init_245 (fun Mz62 hMz62 => ?_)
  refine z_putF (kz := 47) fl_X8_106 rfl (by decide) rfl rfl (fun q h => by cases h; rfl) rfl dX8_init_247 (fun Mz63 hMz63 => ?_)
  refine z_aload_nr dX8_init_250 rfl ?_
  refine z_bipush dX8_init_251 ⟨by decide, by decide⟩ (by decide) ?_
  refine z_newai (len := 17) ac_0 rfl rfl (by decide) (by decide) (by decide +kernel) (by decide +kernel) dX8_init_253 (fun Mz64 hMz64 => ?_)
  refine z_putF (kz := 48) fl_X8_109 rfl (by decide) rfl rfl (fun q h => by cases h; rfl) rfl dX8_init_255 (fun Mz65 hMz65 => ?_)
  refine z_aload_nr dX8_init_258 rfl ?_
  refine z_bipush dX8_init_259 ⟨by decide, by decide⟩ (by decide) ?_
  refine z_newai (len := 34) ac_0 rfl rfl (by decide) (by decide) (by decide +kernel) (by decide +kernel) dX8_init_261 (fun Mz66 hMz66 => ?_)
  refine z_putF (kz := 49) fl_X8_112 rfl (by decide) rfl rfl (fun q h => by cases h; rfl) rfl dX8_init_263 (fun Mz67 hMz67 => ?_)
  refine z_aload_nr dX8_init_266 rfl ?_
  refine z_iconst dX8_init_267 ⟨by decide, by decide⟩ ?_
  refine z_newai (len := 2) ac_0 rfl rfl (by decide) (by decide) (by decide +kernel) (by decide +kernel) dX8_init_268 (fun Mz68 hMz68 => ?_)
  refine z_putF (kz := 50) fl_X8_115 rfl (by decide) rfl rfl (fun q h => by cases h; rfl) rfl dX8_init_270 (fun Mz69 hMz69 => ?_)
  refine z_aload_nr dX8_init_273 rfl ?_
  refine z_bipush dX8_init_274 ⟨by decide, by decide⟩ (by decide) ?_
  refine z_newai (len := 10) ac_0 rfl rfl (by decide) (by decide) (by decide +kernel) (by decide +kernel) dX8_init_276 (fun Mz70 hMz70 => ?_)
  refine z_putF (kz := 53) fl_X8_118 rfl (by decide) rfl rfl (fun q h => by cases h; rfl) rfl dX8_init_278 (fun Mz71 hMz71 => ?_)
  have hen0 : Mk M Mz71 60 61 ∧ (∀ j, Mz71 60 j = if j = 53 then 92 else if j = 50 then 91 else if j = 49 then 90 else if j = 48 then 89 else if j = 47 then 88 else if j = 46 then 87 else if j = 44 then (-1) else if j = 43 then (-1) else if j = 42 then (-1) else if j = 41 then 86 else if j = 38 then (-1) else if j = 34 then 85 else if j = 33 then 84 else if j = 32 then 83 else if j = 31 then 82 else if j = 26 then 81 else if j = 25 then 80 else if j = 24 then 79 else if j = 23 then 78 else if j = 22 then 77 else if j = 19 then 76 else if j = 16 then 75 else if j = 15 then 74 else if j = 14 then 73 else if j = 13 then 72 else if j = 11 then 71 else if j = 10 then 70 else if j = 9 then 69 else if j = 8 then 68 else if j = 7 then 67 else if j = 6 then 66 else if j = 5 then 65 else if j = 4 then 64 else if j = 3 then 63 else if j = 2 then 62 else if j = 1 then 61 else M 60 j) ∧ (∀ b j, 61 ≤ b → b < 93 → Mz71 b j = if b = 74 ∧ 0 ≤ j ∧ j < 0 then (-1) else 0) := by
    refine ⟨fun b j h1 h2 => ?_, fun j => ?_, fun b j h1 h2 => ?_⟩
    · rw [hMz71, hMz70, hMz69, hMz68, hMz67, hMz66, hMz65, hMz64, hMz63, hMz62, hMz61, hMz60, hMz59, hMz58, hMz57, hMz56, hMz55, hMz54, hMz53, hMz52, hMz51, hMz50, hMz49, hMz48, hMz47, hMz46, hMz45, hMz44, hMz43, hMz42, hMz41, hMz40, hMz39, hMz38, hMz37, hMz36, hMz35, hMz34, hMz33, hMz32, hMz31, hMz30, hMz29, hMz28, hMz27, hMz26, hMz25, hMz24, hMz23, hMz22, hMz21, hMz20, hMz19, hMz18, hMz17, hMz16, hMz15, hMz14, hMz13, hMz12, hMz11, hMz10, hMz9, hMz8, hMz7, hMz6, hMz5, hMz4]
      repeat (first | rw [st_cell (by omega)] | rw [fnew_o (by omega)])
    · rw [hMz71, hMz70, hMz69, hMz68, hMz67, hMz66, hMz65, hMz64, hMz63, hMz62, hMz61, hMz60, hMz59, hMz58, hMz57, hMz56, hMz55, hMz54, hMz53, hMz52, hMz51, hMz50, hMz49, hMz48, hMz47, hMz46, hMz45, hMz44, hMz43, hMz42, hMz41, hMz40, hMz39, hMz38, hMz37, hMz36, hMz35, hMz34, hMz33, hMz32, hMz31, hMz30, hMz29, hMz28, hMz27, hMz26, hMz25, hMz24, hMz23, hMz22, hMz21, hMz20, hMz19, hMz18, hMz17, hMz16, hMz15, hMz14, hMz13, hMz12, hMz11, hMz10, hMz9, hMz8, hMz7, hMz6, hMz5, hMz4]
      repeat (first | rw [st_at] | rw [fnew_o (by decide)])
      rfl
    · have hb : b = 61 ∨ b = 62 ∨ b = 63 ∨ b = 64 ∨ b = 65 ∨ b = 66 ∨ b = 67 ∨ b = 68 ∨ b = 69 ∨ b = 70 ∨ b = 71 ∨ b = 72 ∨ b = 73 ∨ b = 74 ∨ b = 75 ∨ b = 76 ∨ b = 77 ∨ b = 78 ∨ b = 79 ∨ b = 80 ∨ b = 81 ∨ b = 82 ∨ b = 83 ∨ b = 84 ∨ b = 85 ∨ b = 86 ∨ b = 87 ∨ b = 88 ∨ b = 89 ∨ b = 90 ∨ b = 91 ∨ b = 92 := by omega
      rw [if_neg (by omega), hMz71, hMz70, hMz69, hMz68, hMz67, hMz66, hMz65, hMz64, hMz63, hMz62, hMz61, hMz60, hMz59, hMz58, hMz57, hMz56, hMz55, hMz54, hMz53, hMz52, hMz51, hMz50, hMz49, hMz48, hMz47, hMz46, hMz45, hMz44, hMz43, hMz42, hMz41, hMz40, hMz39, hMz38, hMz37, hMz36, hMz35, hMz34, hMz33, hMz32, hMz31, hMz30, hMz29, hMz28, hMz27, hMz26, hMz25, hMz24, hMz23, hMz22, hMz21, hMz20, hMz19, hMz18, hMz17, hMz16, hMz15, hMz14, hMz13, hMz12, hMz11, hMz10, hMz9, hMz8, hMz7, hMz6, hMz5, hMz4]
      rcases hb with rfl | rfl | rfl | rfl | rfl | rfl | rfl | rfl | rfl | rfl | rfl | rfl | rfl | rfl | rfl | rfl | rfl | rfl | rfl | rfl | rfl | rfl | rfl | rfl | rfl | rfl | rfl | rfl | rfl | rfl | rfl | rfl <;>
      (repeat (first | rw [st_cell (by decide)] | rw [fnew_o (by decide)])) <;>
      first
      | exact fnew_a (show ¬ (0 : Nat) = 3 by decide)
      | exact fnew_a (show ¬ (1 : Nat) = 3 by decide)
      | exact fnew_a (show ¬ (2 : Nat) = 3 by decide)
  refine z_aload_nr dX8_init_281 rfl ?_
  refine z_callVv (n2 := 93) (A_X8_clearRules l g Mz71) cb_X8_clearRules cl_X8_121 (⟨⟨by decide, by decide⟩, ⟨by decide +kernel, by decide +kernel⟩, by decide +kernel⟩) rfl (by decide) ⟨_, rfl, rfl⟩ rfl (by decide) rfl (Nat.le_of_ble_eq_true rfl) rfl dX8_init_282 (fun Mz72 kMz72 hc72 => ?_)
  have hcr := hc72
  refine z_iconst dX8_init_285 ⟨by decide, by decide⟩ ?_
  refine z_istore_n (loc2 := [fr 60, fi 0]) dX8_init_286 (by decide) rfl ?_
  have hen : Mk M Mz72 60 61 ∧ (∀ j, Mz72 60 j = if j = 18 then 31 else if j = 17 then 31 else if j = 53 then 92 else if j = 50 then 91 else if j = 49 then 90 else if j = 48 then 89 else if j = 47 then 88 else if j = 46 then 87 else if j = 44 then (-1) else if j = 43 then (-1) else if j = 42 then (-1) else if j = 41 then 86 else if j = 38 then (-1) else if j = 34 then 85 else if j = 33 then 84 else if j = 32 then 83 else if j = 31 then 82 else if j = 26 then 81 else if j = 25 then 80 else if j = 24 then 79 else if j = 23 then 78 else if j = 22 then 77 else if j = 19 then 76 else if j = 16 then 75 else if j = 15 then 74 else if j = 14 then 73 else if j = 13 then 72 else if j = 11 then 71 else if j = 10 then 70 else if j = 9 then 69 else if j = 8 then 68 else if j = 7 then 67 else if j = 6 then 66 else if j = 5 then 65 else if j = 4 then 64 else if j = 3 then 63 else if j = 2 then 62 else if j = 1 then 61 else M 60 j) ∧ (∀ b j, 61 ≤ b → b < 93 → Mz72 b j = if b = 74 ∧ 0 ≤ j ∧ j < 0 then (-1) else 0) := by
    refine ⟨fun b j h1 h2 => ?_, fun j => ?_, fun b j h1 h2 => ?_⟩
    · rw [hcr, st_cell (by omega), st_cell (by omega)]; exact hen0.1 b j h1 h2
    · rw [hcr, st_at, st_at, hen0.2.1 j]
    · rw [hcr, st_cell (by omega), st_cell (by omega)]; exact hen0.2.2 b j h1 h2
  exact lp287 _ 0 Mz72 rfl (by omega) (hen)
