/-! ===== the reference: helpers, the calls that tell ===== -/
def addM (M : FMem) (k li so ho fs se : Int) : FMem := st (st (st (st (st (st (st (st (st (st M 61 (M 60 0) k) 62 (M 60 0) li) 63 (M 60 0) so) 64 (M 60 0) ho) 65 (M 60 0) fs) 66 (M 60 0) se) 69 (M 60 0) 0) 70 (M 60 0) 0) 60 12 0) 60 0 (M 60 0 + 1)
set_option maxHeartbeats 400000 in
theorem A_X8_in (l : Launch) (g : Cx) (M : FMem) (a lo hi : Int) : AMi l g true fi_X8_in [fl a, fl lo, fl hi] 93 M (fun r M2 => M2 = M ∧ (fun r => r = if lo ≤ a ∧ a ≤ hi then 1 else 0) r) := by
  refine AMi_intro [fl a, fu, fl lo, fu, fl hi, fu] (by decide) (knall rfl) (Nat.le_of_ble_eq_true rfl) rfl ?_
  intro hNV hM0 μ
  have ba : N64 a := hNV (fl a) (by simp)
  have blo : N64 lo := hNV (fl lo) (by simp)
  have bhi : N64 hi := hNV (fl hi) (by simp)
  refine z_lload_n dX8_in_0 rfl ?_
  refine z_lload_n dX8_in_1 rfl ?_
  refine z_lcmp_lt (tgt := 17) dX8_in_2 dX8_in_3 (by decide) (fun c1 => ?_) (fun c1 => ?_)
  · refine z_iconst dX8_in_17 ⟨by decide, by decide⟩ ?_
    refine z_zret rfl (by omega) (by decide) rfl (Nat.sub_self _) dX8_in_18 ?_
    refine ⟨rfl, ?_⟩
    first | rw [if_pos (by omega)] | rw [if_neg (by omega)]
  · refine z_lload_n dX8_in_6 rfl ?_
    refine z_lload dX8_in_7 rfl ?_
    refine z_lcmp_gt (tgt := 17) dX8_in_9 dX8_in_10 (by decide) (fun c2 => ?_) (fun c2 => ?_)
    · refine z_iconst dX8_in_17 ⟨by decide, by decide⟩ ?_
      refine z_zret rfl (by omega) (by decide) rfl (Nat.sub_self _) dX8_in_18 ?_
      refine ⟨rfl, ?_⟩
      first | rw [if_pos (by omega)] | rw [if_neg (by omega)]
    · refine z_iconst dX8_in_13 ⟨by decide, by decide⟩ ?_
      refine z_goto (tgt := 18) dX8_in_14 (by decide) ?_
      refine z_zret rfl (by omega) (by decide) rfl (Nat.sub_self _) dX8_in_18 ?_
      refine ⟨rfl, ?_⟩
      first | rw [if_pos (by omega)] | rw [if_neg (by omega)]
set_option maxHeartbeats 400000 in
theorem A_X8_one (l : Launch) (g : Cx) (M : FMem) (b : Int) (hb : b = 0 ∨ b = 1) : AMi l g true fi_X8_one [fi b] 93 M (fun r M2 => M2 = M ∧ (fun r => r = b) r) := by
  refine AMi_intro [fi b] (by decide) (knall rfl) (Nat.le_of_ble_eq_true rfl) rfl ?_
  intro hNV hM0 μ
  have bb : N32 b := hNV (fi b) (by simp)
  refine z_iload_n dX8_one_0 rfl ?_
  refine z_if_eq (tgt := 8) dX8_one_1 (by decide) (fun c1 => ?_) (fun c1 => ?_)
  · refine z_iconst dX8_one_8 ⟨by decide, by decide⟩ ?_
    refine z_iret rfl (by decide) rfl (Nat.sub_self _) dX8_one_9 ?_
    refine ⟨rfl, ?_⟩
    omega
  · refine z_iconst dX8_one_4 ⟨by decide, by decide⟩ ?_
    refine z_goto (tgt := 9) dX8_one_5 (by decide) ?_
    refine z_iret rfl (by decide) rfl (Nat.sub_self _) dX8_one_9 ?_
    refine ⟨rfl, ?_⟩
    omega
set_option maxHeartbeats 400000 in
theorem A_X8_floor (l : Launch) (g : Cx) (M : FMem) (a b : Int) (hb : b = 1000 ∨ b = 10) (ha : -1000000000000000 ≤ a ∧ a ≤ 1000000000000000) : AMl l g true fi_X8_floor [fl a, fl b] 93 M (fun r M2 => M2 = M ∧ (fun r => r = a / b) r) := by
  refine AMl_intro [fl a, fu, fl b, fu] (by decide) (knall rfl) (Nat.le_of_ble_eq_true rfl) rfl ?_
  intro hNV hM0 μ
  have ba : N64 a := hNV (fl a) (by simp)
  have bb : N64 b := hNV (fl b) (by simp)
  refine z_lload_n dX8_floor_0 rfl ?_
  refine z_lconst0 dX8_floor_1 ?_
  refine z_lcmp_lt (tgt := 12) dX8_floor_2 dX8_floor_3 (by decide) (fun c1 => ?_) (fun c1 => ?_)
  · refine z_lconst0 dX8_floor_12 ?_
    refine z_lload_n dX8_floor_13 rfl ?_
    refine z_lconst1 dX8_floor_14 ?_
    first | refine z_lsubN dX8_floor_15 (by omega) (fun x2 hx2 => ?_) | refine z_lsub dX8_floor_15 (fun x2 hx2 => ?_)
    refine z_lload_n dX8_floor_16 rfl ?_
    first | refine z_lsubN dX8_floor_17 (by omega) (fun x3 hx3 => ?_) | refine z_lsub dX8_floor_17 (fun x3 hx3 => ?_)
    refine z_lload_n dX8_floor_18 rfl ?_
    have h18 := hx3
    refine z_ldiv dX8_floor_19 (by omega) (by have h := tdiv_cs x3 b (by omega); have h2 := h.1 (by omega); rcases hb with e | e <;> rw [e] at h2 ⊢ <;> omega) (fun x4 hx4 => ?_)
    have h19 := hx4
    rw [(tdiv_cs _ b (by omega)).1 (by omega)] at h19
    refine z_lsubN dX8_floor_20 (by rcases hb with e | e <;> rw [e] at h19 <;> omega) (fun x5 hx5 => ?_)
    skip
    refine z_lret rfl (by decide) rfl (Nat.sub_self _) dX8_floor_21 ?_
    refine ⟨rfl, ?_⟩
    first
    | exact h9
    | (rcases hb with e | e <;> rw [e] at h19 ⊢ <;> omega)
  · refine z_lload_n dX8_floor_6 rfl ?_
    refine z_lload_n dX8_floor_7 rfl ?_
    refine z_ldiv dX8_floor_8 (by omega) (by have h := tdiv_cs a b (by omega); have h2 := h.1 (by omega); rcases hb with e | e <;> rw [e] at h2 ⊢ <;> omega) (fun x6 hx6 => ?_)
    have h9 : x6 = a / b := by rw [hx6, (tdiv_cs a b (by omega)).1 (by omega)]
    refine z_goto (tgt := 21) dX8_floor_9 (by decide) ?_
    skip
    refine z_lret rfl (by decide) rfl (Nat.sub_self _) dX8_floor_21 ?_
    refine ⟨rfl, ?_⟩
    first
    | exact h9
    | (rcases hb with e | e <;> rw [e] at h19 ⊢ <;> omega)
set_option maxHeartbeats 400000 in
theorem A_X8_ceiling (l : Launch) (g : Cx) (M : FMem) (a b : Int) (hb : b = 1000 ∨ b = 10) (ha : -1000000000000000 ≤ a ∧ a ≤ 1000000000000000) : AMl l g true fi_X8_ceiling [fl a, fl b] 93 M (fun r M2 => M2 = M ∧ (fun r => r = -((-a) / b)) r) := by
  refine AMl_intro [fl a, fu, fl b, fu] (by decide) (knall rfl) (Nat.le_of_ble_eq_true rfl) rfl ?_
  intro hNV hM0 μ
  have ba : N64 a := hNV (fl a) (by simp)
  have bb : N64 b := hNV (fl b) (by simp)
  refine z_lconst0 dX8_ceiling_0 ?_
  refine z_lconst0 dX8_ceiling_1 ?_
  refine z_lload_n dX8_ceiling_2 rfl ?_
  first | refine z_lsubN dX8_ceiling_3 (by omega) (fun x1 hx1 => ?_) | refine z_lsub dX8_ceiling_3 (fun x1 hx1 => ?_)
  refine z_lload_n dX8_ceiling_4 rfl ?_
  have hng : x1 = -a := by omega
  refine z_callSlp (n2 := 93) (A_X8_floor l g M x1 b (hb) (by omega)) cb_X8_floor cl_X8_124 (clr0 rfl rfl (by decide) (by decide)) rfl (by decide) rfl (Nat.le_of_ble_eq_true rfl) rfl dX8_ceiling_5 (fun x2 bx2 hx2 => ?_)
  have hfl := hx2
  have hdb : -1000000000000000 ≤ x2 ∧ x2 ≤ 1000000000000000 := by rcases hb with e | e <;> rw [e] at hfl <;> omega
  first | refine z_lsubN dX8_ceiling_8 (by omega) (fun x3 hx3 => ?_) | refine z_lsub dX8_ceiling_8 (fun x3 hx3 => ?_)
  refine z_lret rfl (by decide) rfl (Nat.sub_self _) dX8_ceiling_9 ?_
  refine ⟨rfl, ?_⟩
  rw [hng] at hfl
  omega
set_option maxHeartbeats 400000 in
theorem A_X8_isList (l : Launch) (g : Cx) (M : FMem) (a : Int) : AMi l g true fi_X8_isList [fi a] 93 M (fun r M2 => M2 = M ∧ (fun r => r = if 0 ≤ a ∧ a ≤ 5 then 1 else 0) r) := by
  refine AMi_intro [fi a] (by decide) (knall rfl) (Nat.le_of_ble_eq_true rfl) rfl ?_
  intro hNV hM0 μ
  have ba : N32 a := hNV (fi a) (by simp)
  refine z_iload_n dX8_isList_0 rfl ?_
  refine z_i2l dX8_isList_1 ?_
  refine z_lconst0 dX8_isList_2 ?_
  refine z_ldc2 (c := 5) cn_X8_128 ⟨by decide, by decide⟩ dX8_isList_3 ?_
  refine z_callSip (n2 := 93) (A_X8_in l g M a 0 5) cb_X8_in cl_X8_130 (clr0 rfl rfl (by decide) (by decide)) rfl (by decide) rfl (Nat.le_of_ble_eq_true rfl) rfl dX8_isList_6 (fun x1 bx1 hx1 => ?_)
  have i1 := if01 hx1
  refine z_zret rfl (by omega) (by decide) rfl (Nat.sub_self _) dX8_isList_9 ?_
  exact ⟨rfl, by assumption⟩
set_option maxHeartbeats 400000 in
theorem A_X8_isSort (l : Launch) (g : Cx) (M : FMem) (a : Int) : AMi l g true fi_X8_isSort [fi a] 93 M (fun r M2 => M2 = M ∧ (fun r => r = if 0 ≤ a ∧ a ≤ 5 then 1 else 0) r) := by
  refine AMi_intro [fi a] (by decide) (knall rfl) (Nat.le_of_ble_eq_true rfl) rfl ?_
  intro hNV hM0 μ
  have ba : N32 a := hNV (fi a) (by simp)
  refine z_iload_n dX8_isSort_0 rfl ?_
  refine z_i2l dX8_isSort_1 ?_
  refine z_lconst0 dX8_isSort_2 ?_
  refine z_ldc2 (c := 5) cn_X8_128 ⟨by decide, by decide⟩ dX8_isSort_3 ?_
  refine z_callSip (n2 := 93) (A_X8_in l g M a 0 5) cb_X8_in cl_X8_130 (clr0 rfl rfl (by decide) (by decide)) rfl (by decide) rfl (Nat.le_of_ble_eq_true rfl) rfl dX8_isSort_6 (fun x1 bx1 hx1 => ?_)
  have i1 := if01 hx1
  refine z_zret rfl (by omega) (by decide) rfl (Nat.sub_self _) dX8_isSort_9 ?_
  exact ⟨rfl, by assumption⟩
set_option maxHeartbeats 400000 in
theorem A_X8_isHome (l : Launch) (g : Cx) (M : FMem) (a : Int) : AMi l g true fi_X8_isHome [fi a] 93 M (fun r M2 => M2 = M ∧ (fun r => r = if 0 ≤ a ∧ a ≤ 9 then 1 else 0) r) := by
  refine AMi_intro [fi a] (by decide) (knall rfl) (Nat.le_of_ble_eq_true rfl) rfl ?_
  intro hNV hM0 μ
  have ba : N32 a := hNV (fi a) (by simp)
  refine z_iload_n dX8_isHome_0 rfl ?_
  refine z_i2l dX8_isHome_1 ?_
  refine z_lconst0 dX8_isHome_2 ?_
  refine z_ldc2 (c := 9) cn_X8_134 ⟨by decide, by decide⟩ dX8_isHome_3 ?_
  refine z_callSip (n2 := 93) (A_X8_in l g M a 0 9) cb_X8_in cl_X8_130 (clr0 rfl rfl (by decide) (by decide)) rfl (by decide) rfl (Nat.le_of_ble_eq_true rfl) rfl dX8_isHome_6 (fun x1 bx1 hx1 => ?_)
  have i1 := if01 hx1
  refine z_zret rfl (by omega) (by decide) rfl (Nat.sub_self _) dX8_isHome_9 ?_
  exact ⟨rfl, by assumption⟩
set_option maxHeartbeats 400000 in
theorem A_X8_isSpan (l : Launch) (g : Cx) (M : FMem) (u v : Int) : AMi l g true fi_X8_isSpan [fi u, fi v] 93 M (fun r M2 => M2 = M ∧ (fun r => r = if -40000 ≤ u ∧ u ≤ v ∧ v ≤ 40000 then 1 else 0) r) := by
  refine AMi_intro [fi u, fi v] (by decide) (knall rfl) (Nat.le_of_ble_eq_true rfl) rfl ?_
  intro hNV hM0 μ
  have bu : N32 u := hNV (fi u) (by simp)
  have bv : N32 v := hNV (fi v) (by simp)
  refine z_iload_n dX8_isSpan_0 rfl ?_
  refine z_i2l dX8_isSpan_1 ?_
  refine z_ldc2 (c := -40000) cn_X8_169 ⟨by decide, by decide⟩ dX8_isSpan_2 ?_
  refine z_ldc2 (c := 40000) cn_X8_171 ⟨by decide, by decide⟩ dX8_isSpan_5 ?_
  refine z_callSip (n2 := 93) (A_X8_in l g M u (-40000) 40000) cb_X8_in cl_X8_130 (clr0 rfl rfl (by decide) (by decide)) rfl (by decide) rfl (Nat.le_of_ble_eq_true rfl) rfl dX8_isSpan_8 (fun x1 bx1 hx1 => ?_)
  have i1 := if01 hx1
  refine z_if_eq (tgt := 31) dX8_isSpan_11 (by decide) (fun c2 => ?_) (fun c2 => ?_)
  · refine z_iconst dX8_isSpan_31 ⟨by decide, by decide⟩ ?_
    refine z_zret rfl (by omega) (by decide) rfl (Nat.sub_self _) dX8_isSpan_32 ?_
    refine ⟨rfl, ?_⟩
    first | rw [if_pos (by omega)] | rw [if_neg (by omega)]
  · refine z_iload_n dX8_isSpan_14 rfl ?_
    refine z_i2l dX8_isSpan_15 ?_
    refine z_iload_n dX8_isSpan_16 rfl ?_
    refine z_i2l dX8_isSpan_17 ?_
    refine z_ldc2 (c := 40000) cn_X8_171 ⟨by decide, by decide⟩ dX8_isSpan_18 ?_
    refine z_callSip (n2 := 93) (A_X8_in l g M v u 40000) cb_X8_in cl_X8_130 (clr0 rfl rfl (by decide) (by decide)) rfl (by decide) rfl (Nat.le_of_ble_eq_true rfl) rfl dX8_isSpan_21 (fun x3 bx3 hx3 => ?_)
    have i3 := if01 hx3
    refine z_if_eq (tgt := 31) dX8_isSpan_24 (by decide) (fun c4 => ?_) (fun c4 => ?_)
    · refine z_iconst dX8_isSpan_31 ⟨by decide, by decide⟩ ?_
      refine z_zret rfl (by omega) (by decide) rfl (Nat.sub_self _) dX8_isSpan_32 ?_
      refine ⟨rfl, ?_⟩
      first | rw [if_pos (by omega)] | rw [if_neg (by omega)]
    · refine z_iconst dX8_isSpan_27 ⟨by decide, by decide⟩ ?_
      refine z_goto (tgt := 32) dX8_isSpan_28 (by decide) ?_
      refine z_zret rfl (by omega) (by decide) rfl (Nat.sub_self _) dX8_isSpan_32 ?_
      refine ⟨rfl, ?_⟩
      first | rw [if_pos (by omega)] | rw [if_neg (by omega)]
set_option maxHeartbeats 400000 in
theorem A_X8_add (l : Launch) (g : Cx) (M : FMem) (k li so ho fs se : Int) (hs : 0 ≤ M 60 0 ∧ M 60 0 ≤ 80) : AMi l g true fi_X8_add [fr 60, fi k, fi li, fi so, fi ho, fi fs, fi se] 93 M (fun r M2 => if 80 ≤ M 60 0 then r = -1000004 ∧ M2 = M else r = M 60 0 ∧ M2 = addM M k li so ho fs se) := by
  refine AMi_intro [fr 60, fi k, fi li, fi so, fi ho, fi fs, fi se] (by decide) (knall rfl) (Nat.le_of_ble_eq_true rfl) rfl ?_
  intro hNV hM0 μ
  have bk : N32 k := hNV (fi k) (by simp)
  have bli : N32 li := hNV (fi li) (by simp)
  have bso : N32 so := hNV (fi so) (by simp)
  have bho : N32 ho := hNV (fi ho) (by simp)
  have bfs : N32 fs := hNV (fi fs) (by simp)
  have bse : N32 se := hNV (fi se) (by simp)
  refine z_aload_nr dX8_add_0 rfl ?_
  refine z_geti (kz := 0) fl_X8_136 rfl (by decide) rfl dX8_add_1 (fun x1 hx1 bx1 => ?_)
  refine z_bipush dX8_add_4 ⟨by decide, by decide⟩ (by decide) ?_
  refine z_icmp_ne (tgt := 12) dX8_add_6 (by decide) (fun c2 => ?_) (fun c2 => ?_)
  · refine z_aload_nr dX8_add_12 rfl ?_
    refine z_getr (b := 61) fl_X8_7 rfl (by decide) rf_60_1 rfl dX8_add_13 ?_
    refine z_aload_nr dX8_add_16 rfl ?_
    refine z_geti (kz := 0) fl_X8_136 rfl (by decide) rfl dX8_add_17 (fun x3 hx3 bx3 => ?_)
    refine z_iload_n dX8_add_20 rfl ?_
    refine z_iast rfl (by decide) (by omega) (by omega) dX8_add_21 (fun Mz4 hMz4 => ?_)
    refine z_aload_nr dX8_add_22 rfl ?_
    refine z_getr (b := 62) fl_X8_13 rfl (by decide) rf_60_2 rfl dX8_add_23 ?_
    refine z_aload_nr dX8_add_26 rfl ?_
    refine z_geti (kz := 0) fl_X8_136 rfl (by decide) rfl dX8_add_27 (fun x5 hx5 bx5 => ?_)
    rw [hMz4, st_cell (by decide)] at hx5
    refine z_iload_n dX8_add_30 rfl ?_
    refine z_iast rfl (by decide) (by omega) (by omega) dX8_add_31 (fun Mz6 hMz6 => ?_)
    refine z_aload_nr dX8_add_32 rfl ?_
    refine z_getr (b := 63) fl_X8_16 rfl (by decide) rf_60_3 rfl dX8_add_33 ?_
    refine z_aload_nr dX8_add_36 rfl ?_
    refine z_geti (kz := 0) fl_X8_136 rfl (by decide) rfl dX8_add_37 (fun x7 hx7 bx7 => ?_)
    rw [hMz6, st_cell (by decide), hMz4, st_cell (by decide)] at hx7
    refine z_iload_n dX8_add_40 rfl ?_
    refine z_iast rfl (by decide) (by omega) (by omega) dX8_add_41 (fun Mz8 hMz8 => ?_)
    refine z_aload_nr dX8_add_42 rfl ?_
    refine z_getr (b := 64) fl_X8_19 rfl (by decide) rf_60_4 rfl dX8_add_43 ?_
    refine z_aload_nr dX8_add_46 rfl ?_
    refine z_geti (kz := 0) fl_X8_136 rfl (by decide) rfl dX8_add_47 (fun x9 hx9 bx9 => ?_)
    rw [hMz8, st_cell (by decide), hMz6, st_cell (by decide), hMz4, st_cell (by decide)] at hx9
    refine z_iload dX8_add_50 rfl ?_
    refine z_iast rfl (by decide) (by omega) (by omega) dX8_add_52 (fun Mz10 hMz10 => ?_)
    refine z_aload_nr dX8_add_53 rfl ?_
    refine z_getr (b := 65) fl_X8_22 rfl (by decide) rf_60_5 rfl dX8_add_54 ?_
    refine z_aload_nr dX8_add_57 rfl ?_
    refine z_geti (kz := 0) fl_X8_136 rfl (by decide) rfl dX8_add_58 (fun x11 hx11 bx11 => ?_)
    rw [hMz10, st_cell (by decide), hMz8, st_cell (by decide), hMz6, st_cell (by decide), hMz4, st_cell (by decide)] at hx11
    refine z_iload dX8_add_61 rfl ?_
    refine z_iast rfl (by decide) (by omega) (by omega) dX8_add_63 (fun Mz12 hMz12 => ?_)
    refine z_aload_nr dX8_add_64 rfl ?_
    refine z_getr (b := 66) fl_X8_25 rfl (by decide) rf_60_6 rfl dX8_add_65 ?_
    refine z_aload_nr dX8_add_68 rfl ?_
    refine z_geti (kz := 0) fl_X8_136 rfl (by decide) rfl dX8_add_69 (fun x13 hx13 bx13 => ?_)
    rw [hMz12, st_cell (by decide), hMz10, st_cell (by decide), hMz8, st_cell (by decide), hMz6, st_cell (by decide), hMz4, st_cell (by decide)] at hx13
    refine z_iload dX8_add_72 rfl ?_
    refine z_iast rfl (by decide) (by omega) (by omega) dX8_add_74 (fun Mz14 hMz14 => ?_)
    refine z_aload_nr dX8_add_75 rfl ?_
    refine z_getr (b := 69) fl_X8_34 rfl (by decide) rf_60_9 rfl dX8_add_76 ?_
    refine z_aload_nr dX8_add_79 rfl ?_
    refine z_geti (kz := 0) fl_X8_136 rfl (by decide) rfl dX8_add_80 (fun x15 hx15 bx15 => ?_)
    rw [hMz14, st_cell (by decide), hMz12, st_cell (by decide), hMz10, st_cell (by decide), hMz8, st_cell (by decide), hMz6, st_cell (by decide), hMz4, st_cell (by decide)] at hx15
    refine z_iconst dX8_add_83 ⟨by decide, by decide⟩ ?_
    refine z_zast rfl (by decide) (by omega) (by omega) (by omega) dX8_add_84 (fun Mz16 hMz16 => ?_)
    refine z_aload_nr dX8_add_85 rfl ?_
    refine z_getr (b := 70) fl_X8_38 rfl (by decide) rf_60_10 rfl dX8_add_86 ?_
    refine z_aload_nr dX8_add_89 rfl ?_
    refine z_geti (kz := 0) fl_X8_136 rfl (by decide) rfl dX8_add_90 (fun x17 hx17 bx17 => ?_)
    rw [hMz16, st_cell (by decide), hMz14, st_cell (by decide), hMz12, st_cell (by decide), hMz10, st_cell (by decide), hMz8, st_cell (by decide), hMz6, st_cell (by decide), hMz4, st_cell (by decide)] at hx17
    refine z_iconst dX8_add_93 ⟨by decide, by decide⟩ ?_
    refine z_zast rfl (by decide) (by omega) (by omega) (by omega) dX8_add_94 (fun Mz18 hMz18 => ?_)
    refine z_aload_nr dX8_add_95 rfl ?_
    refine z_iconst dX8_add_96 ⟨by decide, by decide⟩ ?_
    refine z_puti (kz := 12) fl_X8_140 rfl (by decide) rfl nr_60_12 dX8_add_97 (fun Mz19 hMz19 => ?_)
    refine z_aload_nr dX8_add_100 rfl ?_
    refine z_dup rfl dX8_add_101 ?_
    refine z_geti (kz := 0) fl_X8_136 rfl (by decide) rfl dX8_add_102 (fun x20 hx20 bx20 => ?_)
    rw [hMz19, st_at, if_neg (by decide), hMz18, st_cell (by decide), hMz16, st_cell (by decide), hMz14, st_cell (by decide), hMz12, st_cell (by decide), hMz10, st_cell (by decide), hMz8, st_cell (by decide), hMz6, st_cell (by decide), hMz4, st_cell (by decide)] at hx20
    refine z_iconst dX8_add_105 ⟨by decide, by decide⟩ ?_
    first | refine z_iaddN dX8_add_106 (by omega) (fun x21 hx21 => ?_) | refine z_iadd dX8_add_106 (fun x21 hx21 => ?_)
    refine z_puti (kz := 0) fl_X8_136 rfl (by decide) rfl nr_60_0 dX8_add_107 (fun Mz22 hMz22 => ?_)
    refine z_aload_nr dX8_add_110 rfl ?_
    refine z_geti (kz := 0) fl_X8_136 rfl (by decide) rfl dX8_add_111 (fun x23 hx23 bx23 => ?_)
    rw [hMz22, st_same] at hx23
    refine z_iconst dX8_add_114 ⟨by decide, by decide⟩ ?_
    first | refine z_isubN dX8_add_115 (by omega) (fun x24 hx24 => ?_) | refine z_isub dX8_add_115 (fun x24 hx24 => ?_)
    refine z_iret rfl (by decide) rfl (Nat.sub_self _) dX8_add_116 ?_
    rw [if_neg (by omega)]
    refine ⟨by omega, ?_⟩
    subst_vars
    rfl
  · refine z_ldc (c := -1000004) cn_X8_139 ⟨by decide, by decide⟩ dX8_add_9 ?_
    refine z_iret rfl (by decide) rfl (Nat.sub_self _) dX8_add_11 ?_
    rw [if_pos (by omega)]
    exact ⟨rfl, rfl⟩
set_option maxHeartbeats 400000 in
theorem A_X8_shift (l : Launch) (g : Cx) (M : FMem) (li ho u v : Int) (hs : 0 ≤ M 60 0 ∧ M 60 0 ≤ 80) : AMi l g true fi_X8_shift [fr 60, fi li, fi ho, fi u, fi v] 93 M (fun r M2 => if ¬ ((0 ≤ li ∧ li ≤ 5) ∧ (0 ≤ ho ∧ ho ≤ 9)) then r = -1000001 ∧ M2 = M else if ¬ (-40000 ≤ u ∧ u ≤ v ∧ v ≤ 40000) then r = -1000002 ∧ M2 = M else if 80 ≤ M 60 0 then r = -1000004 ∧ M2 = M else r = M 60 0 ∧ M2 = addM M 1 li (-1) ho u v) := by
  refine AMi_intro [fr 60, fi li, fi ho, fi u, fi v] (by decide) (knall rfl) (Nat.le_of_ble_eq_true rfl) rfl ?_
  intro hNV hM0 μ
  have bli : N32 li := hNV (fi li) (by simp)
  have bho : N32 ho := hNV (fi ho) (by simp)
  have bu : N32 u := hNV (fi u) (by simp)
  have bv : N32 v := hNV (fi v) (by simp)
  refine z_iload_n dX8_shift_0 rfl ?_
  refine z_callSip (n2 := 93) (A_X8_isList l g M li) cb_X8_isList cl_X8_143 (clr0 rfl rfl (by decide) (by decide)) rfl (by decide) rfl (Nat.le_of_ble_eq_true rfl) rfl dX8_shift_1 (fun x1 bx1 hx1 => ?_)
  have i1 := if01 hx1
  refine z_if_eq (tgt := 14) dX8_shift_4 (by decide) (fun c2 => ?_) (fun c2 => ?_)
  · refine z_ldc (c := -1000001) cn_X8_153 ⟨by decide, by decide⟩ dX8_shift_14 ?_
    refine z_iret rfl (by decide) rfl (Nat.sub_self _) dX8_shift_16 ?_
    rw [if_pos (by omega)]
    exact ⟨rfl, rfl⟩
  · refine z_iload_n dX8_shift_7 rfl ?_
    refine z_callSip (n2 := 93) (A_X8_isHome l g M ho) cb_X8_isHome cl_X8_150 (clr0 rfl rfl (by decide) (by decide)) rfl (by decide) rfl (Nat.le_of_ble_eq_true rfl) rfl dX8_shift_8 (fun x3 bx3 hx3 => ?_)
    have i3 := if01 hx3
    refine z_if_ne (tgt := 17) dX8_shift_11 (by decide) (fun c4 => ?_) (fun c4 => ?_)
    · refine z_iload_n dX8_shift_17 rfl ?_
      refine z_iload dX8_shift_18 rfl ?_
      refine z_callSip (n2 := 93) (A_X8_isSpan l g M u v) cb_X8_isSpan cl_X8_173 (clr0 rfl rfl (by decide) (by decide)) rfl (by decide) rfl (Nat.le_of_ble_eq_true rfl) rfl dX8_shift_20 (fun x5 bx5 hx5 => ?_)
      have i5 := if01 hx5
      refine z_if_eq (tgt := 40) dX8_shift_23 (by decide) (fun c6 => ?_) (fun c6 => ?_)
      · refine z_ldc (c := -1000002) cn_X8_164 ⟨by decide, by decide⟩ dX8_shift_40 ?_
        refine z_iret rfl (by decide) rfl (Nat.sub_self _) dX8_shift_42 ?_
        first
        | (rw [if_neg (by omega), if_neg (by omega)]; exact hadd)
        | (rw [if_neg (by omega), if_pos (by omega)]; exact ⟨rfl, rfl⟩)
      · refine z_aload_nr dX8_shift_26 rfl ?_
        refine z_iconst dX8_shift_27 ⟨by decide, by decide⟩ ?_
        refine z_iload_n dX8_shift_28 rfl ?_
        refine z_iconst dX8_shift_29 ⟨by decide, by decide⟩ ?_
        refine z_iload_n dX8_shift_30 rfl ?_
        refine z_iload_n dX8_shift_31 rfl ?_
        refine z_iload dX8_shift_32 rfl ?_
        refine z_callVi (n2 := 93) (A_X8_add l g M 1 li (-1) ho u v (hs)) cb_X8_add cl_X8_165 (clr0 rfl rfl (by decide) (by decide)) rfl (by decide) ⟨_, rfl, rfl⟩ rfl (by decide) rfl (Nat.le_of_ble_eq_true rfl) rfl dX8_shift_34 (fun x7 Mz7 bx7 kMz7 hc7 => ?_)
        have hadd := hc7
        refine z_goto (tgt := 42) dX8_shift_37 (by decide) ?_
        refine z_iret rfl (by decide) rfl (Nat.sub_self _) dX8_shift_42 ?_
        first
        | (rw [if_neg (by omega), if_neg (by omega)]; exact hadd)
        | (rw [if_neg (by omega), if_pos (by omega)]; exact ⟨rfl, rfl⟩)
    · refine z_ldc (c := -1000001) cn_X8_153 ⟨by decide, by decide⟩ dX8_shift_14 ?_
      refine z_iret rfl (by decide) rfl (Nat.sub_self _) dX8_shift_16 ?_
      rw [if_pos (by omega)]
      exact ⟨rfl, rfl⟩
set_option maxHeartbeats 400000 in
theorem A_X8_anchor (l : Launch) (g : Cx) (M : FMem) (li so u v : Int) (hs : 0 ≤ M 60 0 ∧ M 60 0 ≤ 80) : AMi l g true fi_X8_anchor [fr 60, fi li, fi so, fi u, fi v] 93 M (fun r M2 => if ¬ ((0 ≤ li ∧ li ≤ 5) ∧ (0 ≤ so ∧ so ≤ 5)) then r = -1000001 ∧ M2 = M else if ¬ (-40000 ≤ u ∧ u ≤ v ∧ v ≤ 40000) then r = -1000002 ∧ M2 = M else if 80 ≤ M 60 0 then r = -1000004 ∧ M2 = M else r = M 60 0 ∧ M2 = addM M 2 li so (-1) u v) := by
  refine AMi_intro [fr 60, fi li, fi so, fi u, fi v] (by decide) (knall rfl) (Nat.le_of_ble_eq_true rfl) rfl ?_
  intro hNV hM0 μ
  have bli : N32 li := hNV (fi li) (by simp)
  have bso : N32 so := hNV (fi so) (by simp)
  have bu : N32 u := hNV (fi u) (by simp)
  have bv : N32 v := hNV (fi v) (by simp)
  refine z_iload_n dX8_anchor_0 rfl ?_
  refine z_callSip (n2 := 93) (A_X8_isList l g M li) cb_X8_isList cl_X8_143 (clr0 rfl rfl (by decide) (by decide)) rfl (by decide) rfl (Nat.le_of_ble_eq_true rfl) rfl dX8_anchor_1 (fun x1 bx1 hx1 => ?_)
  have i1 := if01 hx1
  refine z_if_eq (tgt := 14) dX8_anchor_4 (by decide) (fun c2 => ?_) (fun c2 => ?_)
  · refine z_ldc (c := -1000001) cn_X8_153 ⟨by decide, by decide⟩ dX8_anchor_14 ?_
    refine z_iret rfl (by decide) rfl (Nat.sub_self _) dX8_anchor_16 ?_
    rw [if_pos (by omega)]
    exact ⟨rfl, rfl⟩
  · refine z_iload_n dX8_anchor_7 rfl ?_
    refine z_callSip (n2 := 93) (A_X8_isSort l g M so) cb_X8_isSort cl_X8_147 (clr0 rfl rfl (by decide) (by decide)) rfl (by decide) rfl (Nat.le_of_ble_eq_true rfl) rfl dX8_anchor_8 (fun x3 bx3 hx3 => ?_)
    have i3 := if01 hx3
    refine z_if_ne (tgt := 17) dX8_anchor_11 (by decide) (fun c4 => ?_) (fun c4 => ?_)
    · refine z_iload_n dX8_anchor_17 rfl ?_
      refine z_iload dX8_anchor_18 rfl ?_
      refine z_callSip (n2 := 93) (A_X8_isSpan l g M u v) cb_X8_isSpan cl_X8_173 (clr0 rfl rfl (by decide) (by decide)) rfl (by decide) rfl (Nat.le_of_ble_eq_true rfl) rfl dX8_anchor_20 (fun x5 bx5 hx5 => ?_)
      have i5 := if01 hx5
      refine z_if_eq (tgt := 40) dX8_anchor_23 (by decide) (fun c6 => ?_) (fun c6 => ?_)
      · refine z_ldc (c := -1000002) cn_X8_164 ⟨by decide, by decide⟩ dX8_anchor_40 ?_
        refine z_iret rfl (by decide) rfl (Nat.sub_self _) dX8_anchor_42 ?_
        first
        | (rw [if_neg (by omega), if_neg (by omega)]; exact hadd)
        | (rw [if_neg (by omega), if_pos (by omega)]; exact ⟨rfl, rfl⟩)
      · refine z_aload_nr dX8_anchor_26 rfl ?_
        refine z_iconst dX8_anchor_27 ⟨by decide, by decide⟩ ?_
        refine z_iload_n dX8_anchor_28 rfl ?_
        refine z_iload_n dX8_anchor_29 rfl ?_
        refine z_iconst dX8_anchor_30 ⟨by decide, by decide⟩ ?_
        refine z_iload_n dX8_anchor_31 rfl ?_
        refine z_iload dX8_anchor_32 rfl ?_
        refine z_callVi (n2 := 93) (A_X8_add l g M 2 li so (-1) u v (hs)) cb_X8_add cl_X8_165 (clr0 rfl rfl (by decide) (by decide)) rfl (by decide) ⟨_, rfl, rfl⟩ rfl (by decide) rfl (Nat.le_of_ble_eq_true rfl) rfl dX8_anchor_34 (fun x7 Mz7 bx7 kMz7 hc7 => ?_)
        have hadd := hc7
        refine z_goto (tgt := 42) dX8_anchor_37 (by decide) ?_
        refine z_iret rfl (by decide) rfl (Nat.sub_self _) dX8_anchor_42 ?_
        first
        | (rw [if_neg (by omega), if_neg (by omega)]; exact hadd)
        | (rw [if_neg (by omega), if_pos (by omega)]; exact ⟨rfl, rfl⟩)
    · refine z_ldc (c := -1000001) cn_X8_153 ⟨by decide, by decide⟩ dX8_anchor_14 ?_
      refine z_iret rfl (by decide) rfl (Nat.sub_self _) dX8_anchor_16 ?_
      rw [if_pos (by omega)]
      exact ⟨rfl, rfl⟩
set_option maxHeartbeats 400000 in
theorem A_X8_light (l : Launch) (g : Cx) (M : FMem) (li so ho b m t c : Int) (hs : 0 ≤ M 60 0 ∧ M 60 0 ≤ 80) : AMi l g true fi_X8_light [fr 60, fi li, fi so, fi ho, fi b, fi m, fi t, fi c] 93 M (fun r M2 => if ¬ ((0 ≤ li ∧ li ≤ 5) ∧ (0 ≤ so ∧ so ≤ 5) ∧ (0 ≤ ho ∧ ho ≤ 9)) then r = -1000001 ∧ M2 = M else if ¬ ((-5000 ≤ b ∧ b ≤ 30000) ∧ (0 ≤ m ∧ m ≤ 999) ∧ (0 ≤ t ∧ t ≤ 3000) ∧ (-500 ≤ c ∧ c ≤ 3000)) then r = -1000002 ∧ M2 = M else if 80 ≤ M 60 0 then r = -1000004 ∧ M2 = M else r = M 60 0 ∧ M2 = st (st (addM M 0 li so ho b m) 67 (M 60 0) t) 68 (M 60 0) c) := by
  refine AMi_intro [fr 60, fi li, fi so, fi ho, fi b, fi m, fi t, fi c, fu] (by decide) (knall rfl) (Nat.le_of_ble_eq_true rfl) rfl ?_
  intro hNV hM0 μ
  have bli : N32 li := hNV (fi li) (by simp)
  have bso : N32 so := hNV (fi so) (by simp)
  have bho : N32 ho := hNV (fi ho) (by simp)
  have bb : N32 b := hNV (fi b) (by simp)
  have bm : N32 m := hNV (fi m) (by simp)
  have bt : N32 t := hNV (fi t) (by simp)
  have bc : N32 c := hNV (fi c) (by simp)
  refine z_iload_n dX8_light_0 rfl ?_
  refine z_callSip (n2 := 93) (A_X8_isList l g M li) cb_X8_isList cl_X8_143 (clr0 rfl rfl (by decide) (by decide)) rfl (by decide) rfl (Nat.le_of_ble_eq_true rfl) rfl dX8_light_1 (fun x1 bx1 hx1 => ?_)
  have i1 := if01 hx1
  refine z_if_eq (tgt := 21) dX8_light_4 (by decide) (fun c2 => ?_) (fun c2 => ?_)
  · refine z_ldc (c := -1000001) cn_X8_153 ⟨by decide, by decide⟩ dX8_light_21 ?_
    refine z_iret rfl (by decide) rfl (Nat.sub_self _) dX8_light_23 ?_
    rw [if_pos (by omega)]
    exact ⟨rfl, rfl⟩
  · refine z_iload_n dX8_light_7 rfl ?_
    refine z_callSip (n2 := 93) (A_X8_isSort l g M so) cb_X8_isSort cl_X8_147 (clr0 rfl rfl (by decide) (by decide)) rfl (by decide) rfl (Nat.le_of_ble_eq_true rfl) rfl dX8_light_8 (fun x3 bx3 hx3 => ?_)
    have i3 := if01 hx3
    refine z_if_eq (tgt := 21) dX8_light_11 (by decide) (fun c4 => ?_) (fun c4 => ?_)
    · refine z_ldc (c := -1000001) cn_X8_153 ⟨by decide, by decide⟩ dX8_light_21 ?_
      refine z_iret rfl (by decide) rfl (Nat.sub_self _) dX8_light_23 ?_
      rw [if_pos (by omega)]
      exact ⟨rfl, rfl⟩
    · refine z_iload_n dX8_light_14 rfl ?_
      refine z_callSip (n2 := 93) (A_X8_isHome l g M ho) cb_X8_isHome cl_X8_150 (clr0 rfl rfl (by decide) (by decide)) rfl (by decide) rfl (Nat.le_of_ble_eq_true rfl) rfl dX8_light_15 (fun x5 bx5 hx5 => ?_)
      have i5 := if01 hx5
      refine z_if_ne (tgt := 24) dX8_light_18 (by decide) (fun c6 => ?_) (fun c6 => ?_)
      · refine z_iload dX8_light_24 rfl ?_
        refine z_i2l dX8_light_26 ?_
        refine z_ldc2 (c := -5000) cn_X8_154 ⟨by decide, by decide⟩ dX8_light_27 ?_
        refine z_ldc2 (c := 30000) cn_X8_156 ⟨by decide, by decide⟩ dX8_light_30 ?_
        refine z_callSip (n2 := 93) (A_X8_in l g M b (-5000) 30000) cb_X8_in cl_X8_130 (clr0 rfl rfl (by decide) (by decide)) rfl (by decide) rfl (Nat.le_of_ble_eq_true rfl) rfl dX8_light_33 (fun x7 bx7 hx7 => ?_)
        have i7 := if01 hx7
        refine z_if_eq (tgt := 80) dX8_light_36 (by decide) (fun c8 => ?_) (fun c8 => ?_)
        · refine z_ldc (c := -1000002) cn_X8_164 ⟨by decide, by decide⟩ dX8_light_80 ?_
          refine z_iret rfl (by decide) rfl (Nat.sub_self _) dX8_light_82 ?_
          rw [if_neg (by omega), if_pos (by omega)]
          exact ⟨rfl, rfl⟩
        · refine z_iload dX8_light_39 rfl ?_
          refine z_i2l dX8_light_41 ?_
          refine z_lconst0 dX8_light_42 ?_
          refine z_ldc2 (c := 999) cn_X8_158 ⟨by decide, by decide⟩ dX8_light_43 ?_
          refine z_callSip (n2 := 93) (A_X8_in l g M m 0 999) cb_X8_in cl_X8_130 (clr0 rfl rfl (by decide) (by decide)) rfl (by decide) rfl (Nat.le_of_ble_eq_true rfl) rfl dX8_light_46 (fun x9 bx9 hx9 => ?_)
          have i9 := if01 hx9
          refine z_if_eq (tgt := 80) dX8_light_49 (by decide) (fun c10 => ?_) (fun c10 => ?_)
          · refine z_ldc (c := -1000002) cn_X8_164 ⟨by decide, by decide⟩ dX8_light_80 ?_
            refine z_iret rfl (by decide) rfl (Nat.sub_self _) dX8_light_82 ?_
            rw [if_neg (by omega), if_pos (by omega)]
            exact ⟨rfl, rfl⟩
          · refine z_iload dX8_light_52 rfl ?_
            refine z_i2l dX8_light_54 ?_
            refine z_lconst0 dX8_light_55 ?_
            refine z_ldc2 (c := 3000) cn_X8_160 ⟨by decide, by decide⟩ dX8_light_56 ?_
            refine z_callSip (n2 := 93) (A_X8_in l g M t 0 3000) cb_X8_in cl_X8_130 (clr0 rfl rfl (by decide) (by decide)) rfl (by decide) rfl (Nat.le_of_ble_eq_true rfl) rfl dX8_light_59 (fun x11 bx11 hx11 => ?_)
            have i11 := if01 hx11
            refine z_if_eq (tgt := 80) dX8_light_62 (by decide) (fun c12 => ?_) (fun c12 => ?_)
            · refine z_ldc (c := -1000002) cn_X8_164 ⟨by decide, by decide⟩ dX8_light_80 ?_
              refine z_iret rfl (by decide) rfl (Nat.sub_self _) dX8_light_82 ?_
              rw [if_neg (by omega), if_pos (by omega)]
              exact ⟨rfl, rfl⟩
            · refine z_iload dX8_light_65 rfl ?_
              refine z_i2l dX8_light_67 ?_
              refine z_ldc2 (c := -500) cn_X8_162 ⟨by decide, by decide⟩ dX8_light_68 ?_
              refine z_ldc2 (c := 3000) cn_X8_160 ⟨by decide, by decide⟩ dX8_light_71 ?_
              refine z_callSip (n2 := 93) (A_X8_in l g M c (-500) 3000) cb_X8_in cl_X8_130 (clr0 rfl rfl (by decide) (by decide)) rfl (by decide) rfl (Nat.le_of_ble_eq_true rfl) rfl dX8_light_74 (fun x13 bx13 hx13 => ?_)
              have i13 := if01 hx13
              refine z_if_ne (tgt := 83) dX8_light_77 (by decide) (fun c14 => ?_) (fun c14 => ?_)
              · refine z_aload_nr dX8_light_83 rfl ?_
                refine z_iconst dX8_light_84 ⟨by decide, by decide⟩ ?_
                refine z_iload_n dX8_light_85 rfl ?_
                refine z_iload_n dX8_light_86 rfl ?_
                refine z_iload_n dX8_light_87 rfl ?_
                refine z_iload dX8_light_88 rfl ?_
                refine z_iload dX8_light_90 rfl ?_
                refine z_callVi (n2 := 93) (A_X8_add l g M 0 li so ho b m (hs)) cb_X8_add cl_X8_165 (clr0 rfl rfl (by decide) (by decide)) rfl (by decide) ⟨_, rfl, rfl⟩ rfl (by decide) rfl (Nat.le_of_ble_eq_true rfl) rfl dX8_light_92 (fun x15 Mz15 bx15 kMz15 hc15 => ?_)
                have hadd := hc15
                have had : (80 ≤ M 60 0 ∧ x15 = -1000004 ∧ Mz15 = M) ∨ (¬ 80 ≤ M 60 0 ∧ x15 = M 60 0 ∧ Mz15 = addM M 0 li so ho b m) := by
                  split at hadd
                  · rename_i q; exact Or.inl ⟨q, hadd⟩
                  · rename_i q; exact Or.inr ⟨q, hadd⟩
                refine z_istore (loc2 := [fr 60, fi li, fi so, fi ho, fi b, fi m, fi t, fi c, fi x15]) dX8_light_95 (by decide) rfl ?_
                refine z_iload dX8_light_97 rfl ?_
                refine z_if_lt (tgt := 120) dX8_light_99 (by decide) (fun c16 => ?_) (fun c16 => ?_)
                · refine z_iload dX8_light_120 rfl ?_
                  refine z_iret rfl (by decide) rfl (Nat.sub_self _) dX8_light_122 ?_
                  rw [if_neg (by omega), if_neg (by omega)]
                  rcases had with ⟨a, b2, c2⟩ | ⟨a, b2, c2⟩
                  · first
                    | (exfalso; omega)
                    | (rw [if_pos a]; exact ⟨b2, c2⟩)
                  · first
                    | (exfalso; omega)
                    | (rw [if_neg a]; refine ⟨b2, ?_⟩; rw [hNONE, c2, b2])
                · refine z_aload_nr dX8_light_102 rfl ?_
                  refine z_getr (b := 67) fl_X8_28 rfl (by decide) rf_60_7 rfl dX8_light_103 ?_
                  refine z_iload dX8_light_106 rfl ?_
                  refine z_iload dX8_light_108 rfl ?_
                  refine z_iast rfl (by decide) (by omega) (by omega) dX8_light_110 (fun Mz17 hMz17 => ?_)
                  refine z_aload_nr dX8_light_111 rfl ?_
                  refine z_getr (b := 68) fl_X8_31 rfl (by decide) rf_60_8 rfl dX8_light_112 ?_
                  refine z_iload dX8_light_115 rfl ?_
                  refine z_iload dX8_light_117 rfl ?_
                  refine z_iast rfl (by decide) (by omega) (by omega) dX8_light_119 (fun Mz18 hMz18 => ?_)
                  refine z_iload dX8_light_120 rfl ?_
                  refine z_iret rfl (by decide) rfl (Nat.sub_self _) dX8_light_122 ?_
                  rw [if_neg (by omega), if_neg (by omega)]
                  rcases had with ⟨a, b2, c2⟩ | ⟨a, b2, c2⟩
                  · first
                    | (exfalso; omega)
                    | (rw [if_pos a]; exact ⟨b2, c2⟩)
                  · first
                    | (exfalso; omega)
                    | (rw [if_neg a]; refine ⟨b2, ?_⟩; rw [hMz18, hMz17, c2, b2])
              · refine z_ldc (c := -1000002) cn_X8_164 ⟨by decide, by decide⟩ dX8_light_80 ?_
                refine z_iret rfl (by decide) rfl (Nat.sub_self _) dX8_light_82 ?_
                rw [if_neg (by omega), if_pos (by omega)]
                exact ⟨rfl, rfl⟩
      · refine z_ldc (c := -1000001) cn_X8_153 ⟨by decide, by decide⟩ dX8_light_21 ?_
        refine z_iret rfl (by decide) rfl (Nat.sub_self _) dX8_light_23 ?_
        rw [if_pos (by omega)]
        exact ⟨rfl, rfl⟩
set_option maxHeartbeats 400000 in
theorem A_X8_redden (l : Launch) (g : Cx) (M : FMem) (ho u v : Int) : AMi l g true fi_X8_redden [fr 60, fi ho, fi u, fi v] 93 M (fun r M2 => if ¬ (0 ≤ ho ∧ ho ≤ 9) then r = -1000001 ∧ M2 = M else if ¬ (0 ≤ u ∧ u ≤ v ∧ v ≤ 2000) then r = -1000002 ∧ M2 = M else r = 1 ∧ M2 = st (st M 72 ho u) 73 ho v) := by
  refine AMi_intro [fr 60, fi ho, fi u, fi v] (by decide) (knall rfl) (Nat.le_of_ble_eq_true rfl) rfl ?_
  intro hNV hM0 μ
  have bho : N32 ho := hNV (fi ho) (by simp)
  have bu : N32 u := hNV (fi u) (by simp)
  have bv : N32 v := hNV (fi v) (by simp)
  refine z_iload_n dX8_redden_0 rfl ?_
  refine z_callSip (n2 := 93) (A_X8_isHome l g M ho) cb_X8_isHome cl_X8_150 (clr0 rfl rfl (by decide) (by decide)) rfl (by decide) rfl (Nat.le_of_ble_eq_true rfl) rfl dX8_redden_1 (fun x1 bx1 hx1 => ?_)
  have i1 := if01 hx1
  refine z_if_ne (tgt := 10) dX8_redden_4 (by decide) (fun c2 => ?_) (fun c2 => ?_)
  · refine z_iload_n dX8_redden_10 rfl ?_
    refine z_i2l dX8_redden_11 ?_
    refine z_lconst0 dX8_redden_12 ?_
    refine z_iload_n dX8_redden_13 rfl ?_
    refine z_i2l dX8_redden_14 ?_
    refine z_callSip (n2 := 93) (A_X8_in l g M u 0 v) cb_X8_in cl_X8_130 (clr0 rfl rfl (by decide) (by decide)) rfl (by decide) rfl (Nat.le_of_ble_eq_true rfl) rfl dX8_redden_15 (fun x3 bx3 hx3 => ?_)
    have i3 := if01 hx3
    refine z_if_eq (tgt := 28) dX8_redden_18 (by decide) (fun c4 => ?_) (fun c4 => ?_)
    · refine z_ldc (c := -1000002) cn_X8_164 ⟨by decide, by decide⟩ dX8_redden_28 ?_
      refine z_iret rfl (by decide) rfl (Nat.sub_self _) dX8_redden_30 ?_
      rw [if_neg (by omega), if_pos (by omega)]
      exact ⟨rfl, rfl⟩
    · refine z_iload_n dX8_redden_21 rfl ?_
      refine z_sipush dX8_redden_22 ⟨by decide, by decide⟩ (by decide) ?_
      refine z_icmp_le (tgt := 31) dX8_redden_25 (by decide) (fun c5 => ?_) (fun c5 => ?_)
      · refine z_aload_nr dX8_redden_31 rfl ?_
        refine z_getr (b := 72) fl_X8_44 rfl (by decide) rf_60_13 rfl dX8_redden_32 ?_
        refine z_iload_n dX8_redden_35 rfl ?_
        refine z_iload_n dX8_redden_36 rfl ?_
        refine z_iast rfl (by decide) (by omega) (by omega) dX8_redden_37 (fun Mz6 hMz6 => ?_)
        refine z_aload_nr dX8_redden_38 rfl ?_
        refine z_getr (b := 73) fl_X8_47 rfl (by decide) rf_60_14 rfl dX8_redden_39 ?_
        refine z_iload_n dX8_redden_42 rfl ?_
        refine z_iload_n dX8_redden_43 rfl ?_
        refine z_iast rfl (by decide) (by omega) (by omega) dX8_redden_44 (fun Mz7 hMz7 => ?_)
        refine z_iconst dX8_redden_45 ⟨by decide, by decide⟩ ?_
        refine z_iret rfl (by decide) rfl (Nat.sub_self _) dX8_redden_46 ?_
        rw [if_neg (by omega), if_neg (by omega)]
        subst_vars
        exact ⟨rfl, rfl⟩
      · refine z_ldc (c := -1000002) cn_X8_164 ⟨by decide, by decide⟩ dX8_redden_28 ?_
        refine z_iret rfl (by decide) rfl (Nat.sub_self _) dX8_redden_30 ?_
        rw [if_neg (by omega), if_pos (by omega)]
        exact ⟨rfl, rfl⟩
  · refine z_ldc (c := -1000001) cn_X8_153 ⟨by decide, by decide⟩ dX8_redden_7 ?_
    refine z_iret rfl (by decide) rfl (Nat.sub_self _) dX8_redden_9 ?_
    rw [if_pos (by omega)]
    exact ⟨rfl, rfl⟩
set_option maxHeartbeats 400000 in
theorem A_X8_redness (l : Launch) (g : Cx) (M : FMem) (ho w : Int) : AMi l g true fi_X8_redness [fr 60, fi ho, fi w] 93 M (fun r M2 => if ¬ (0 ≤ ho ∧ ho ≤ 9) then r = -1000001 ∧ M2 = M else if ¬ (-1 ≤ w ∧ w ≤ 99999) then r = -1000002 ∧ M2 = M else r = M 74 ho ∧ M2 = st M 74 ho w) := by
  refine AMi_intro [fr 60, fi ho, fi w, fu] (by decide) (knall rfl) (Nat.le_of_ble_eq_true rfl) rfl ?_
  intro hNV hM0 μ
  have bho : N32 ho := hNV (fi ho) (by simp)
  have bw : N32 w := hNV (fi w) (by simp)
  refine z_iload_n dX8_redness_0 rfl ?_
  refine z_callSip (n2 := 93) (A_X8_isHome l g M ho) cb_X8_isHome cl_X8_150 (clr0 rfl rfl (by decide) (by decide)) rfl (by decide) rfl (Nat.le_of_ble_eq_true rfl) rfl dX8_redness_1 (fun x1 bx1 hx1 => ?_)
  have i1 := if01 hx1
  refine z_if_ne (tgt := 10) dX8_redness_4 (by decide) (fun c2 => ?_) (fun c2 => ?_)
  · refine z_iload_n dX8_redness_10 rfl ?_
    refine z_i2l dX8_redness_11 ?_
    refine z_ldc2 (c := -1) cn_X8_177 ⟨by decide, by decide⟩ dX8_redness_12 ?_
    refine z_ldc2 (c := 99999) cn_X8_179 ⟨by decide, by decide⟩ dX8_redness_15 ?_
    refine z_callSip (n2 := 93) (A_X8_in l g M w (-1) 99999) cb_X8_in cl_X8_130 (clr0 rfl rfl (by decide) (by decide)) rfl (by decide) rfl (Nat.le_of_ble_eq_true rfl) rfl dX8_redness_18 (fun x3 bx3 hx3 => ?_)
    have i3 := if01 hx3
    refine z_if_ne (tgt := 27) dX8_redness_21 (by decide) (fun c4 => ?_) (fun c4 => ?_)
    · refine z_aload_nr dX8_redness_27 rfl ?_
      refine z_getr (b := 74) fl_X8_50 rfl (by decide) rf_60_15 rfl dX8_redness_28 ?_
      refine z_iload_n dX8_redness_31 rfl ?_
      refine z_iald rfl (by decide) (by omega) (by omega) dX8_redness_32 (fun x5 hx5 bx5 => ?_)
      refine z_istore_n (loc2 := [fr 60, fi ho, fi w, fi x5]) dX8_redness_33 (by decide) rfl ?_
      refine z_aload_nr dX8_redness_34 rfl ?_
      refine z_getr (b := 74) fl_X8_50 rfl (by decide) rf_60_15 rfl dX8_redness_35 ?_
      refine z_iload_n dX8_redness_38 rfl ?_
      refine z_iload_n dX8_redness_39 rfl ?_
      refine z_iast rfl (by decide) (by omega) (by omega) dX8_redness_40 (fun Mz6 hMz6 => ?_)
      refine z_iload_n dX8_redness_41 rfl ?_
      refine z_iret rfl (by decide) rfl (Nat.sub_self _) dX8_redness_42 ?_
      rw [if_neg (by omega), if_neg (by omega)]
      subst_vars
      exact ⟨rfl, rfl⟩
    · refine z_ldc (c := -1000002) cn_X8_164 ⟨by decide, by decide⟩ dX8_redness_24 ?_
      refine z_iret rfl (by decide) rfl (Nat.sub_self _) dX8_redness_26 ?_
      rw [if_neg (by omega), if_pos (by omega)]
      exact ⟨rfl, rfl⟩
  · refine z_ldc (c := -1000001) cn_X8_153 ⟨by decide, by decide⟩ dX8_redness_7 ?_
    refine z_iret rfl (by decide) rfl (Nat.sub_self _) dX8_redness_9 ?_
    rw [if_pos (by omega)]
    exact ⟨rfl, rfl⟩
set_option maxHeartbeats 400000 in
theorem A_X8_noTelling (l : Launch) (g : Cx) (M : FMem) (i : Int) (hs : 0 ≤ M 60 0 ∧ M 60 0 ≤ 80) : AMi l g true fi_X8_noTelling [fr 60, fi i] 93 M (fun r M2 => M2 = M ∧ (fun r => r = if 0 ≤ i ∧ i < M 60 0 then 0 else 1) r) := by
  refine AMi_intro [fr 60, fi i] (by decide) (knall rfl) (Nat.le_of_ble_eq_true rfl) rfl ?_
  intro hNV hM0 μ
  have bi : N32 i := hNV (fi i) (by simp)
  refine z_iload_n dX8_noTelling_0 rfl ?_
  refine z_i2l dX8_noTelling_1 ?_
  refine z_lconst0 dX8_noTelling_2 ?_
  refine z_aload_nr dX8_noTelling_3 rfl ?_
  refine z_geti (kz := 0) fl_X8_136 rfl (by decide) rfl dX8_noTelling_4 (fun x1 hx1 bx1 => ?_)
  refine z_iconst dX8_noTelling_7 ⟨by decide, by decide⟩ ?_
  first | refine z_isubN dX8_noTelling_8 (by omega) (fun x2 hx2 => ?_) | refine z_isub dX8_noTelling_8 (fun x2 hx2 => ?_)
  refine z_i2l dX8_noTelling_9 ?_
  refine z_callSip (n2 := 93) (A_X8_in l g M i 0 x2) cb_X8_in cl_X8_130 (clr0 rfl rfl (by decide) (by decide)) rfl (by decide) rfl (Nat.le_of_ble_eq_true rfl) rfl dX8_noTelling_10 (fun x3 bx3 hx3 => ?_)
  have i3 := if01 hx3
  refine z_if_ne (tgt := 20) dX8_noTelling_13 (by decide) (fun c4 => ?_) (fun c4 => ?_)
  · refine z_iconst dX8_noTelling_20 ⟨by decide, by decide⟩ ?_
    refine z_zret rfl (by omega) (by decide) rfl (Nat.sub_self _) dX8_noTelling_21 ?_
    refine ⟨rfl, ?_⟩
    first | rw [if_pos (by omega)] | rw [if_neg (by omega)]
  · refine z_iconst dX8_noTelling_16 ⟨by decide, by decide⟩ ?_
    refine z_goto (tgt := 21) dX8_noTelling_17 (by decide) ?_
    refine z_zret rfl (by omega) (by decide) rfl (Nat.sub_self _) dX8_noTelling_21 ?_
    refine ⟨rfl, ?_⟩
    first | rw [if_pos (by omega)] | rw [if_neg (by omega)]
set_option maxHeartbeats 400000 in
theorem A_X8_leave (l : Launch) (g : Cx) (M : FMem) (i b : Int) (hb : b = 0 ∨ b = 1) (hs : 0 ≤ M 60 0 ∧ M 60 0 ≤ 80) : AMi l g true fi_X8_leave [fr 60, fi i, fi b] 93 M (fun r M2 => if ¬ (0 ≤ i ∧ i < M 60 0) then r = -1000001 ∧ M2 = M else r = M 69 i ∧ M2 = st M 69 i b) := by
  refine AMi_intro [fr 60, fi i, fi b, fu] (by decide) (knall rfl) (Nat.le_of_ble_eq_true rfl) rfl ?_
  intro hNV hM0 μ
  have bi : N32 i := hNV (fi i) (by simp)
  have bb : N32 b := hNV (fi b) (by simp)
  refine z_aload_nr dX8_leave_0 rfl ?_
  refine z_iload_n dX8_leave_1 rfl ?_
  refine z_callVip (n2 := 93) (A_X8_noTelling l g M i (hs)) cb_X8_noTelling cl_X8_181 (clr0 rfl rfl (by decide) (by decide)) rfl (by decide) ⟨_, rfl, rfl⟩ rfl (by decide) rfl (Nat.le_of_ble_eq_true rfl) rfl dX8_leave_2 (fun x1 bx1 hx1 => ?_)
  have i1 := if10 hx1
  refine z_if_eq (tgt := 11) dX8_leave_5 (by decide) (fun c2 => ?_) (fun c2 => ?_)
  · refine z_aload_nr dX8_leave_11 rfl ?_
    refine z_getr (b := 69) fl_X8_34 rfl (by decide) rf_60_9 rfl dX8_leave_12 ?_
    refine z_iload_n dX8_leave_15 rfl ?_
    refine z_zald rfl (by decide) (by omega) (by omega) dX8_leave_16 (fun x3 hx3 bx3 => ?_)
    refine z_callSip (n2 := 93) (A_X8_one l g M x3 (by have := mok_z hM0 (a := 69) rfl i; omega)) cb_X8_one cl_X8_184 (clr0 rfl rfl (by decide) (by decide)) rfl (by decide) rfl (Nat.le_of_ble_eq_true rfl) rfl dX8_leave_17 (fun x4 bx4 hx4 => ?_)
    have hasn := hx4
    refine z_istore_n (loc2 := [fr 60, fi i, fi b, fi x4]) dX8_leave_20 (by decide) rfl ?_
    refine z_aload_nr dX8_leave_21 rfl ?_
    refine z_getr (b := 69) fl_X8_34 rfl (by decide) rf_60_9 rfl dX8_leave_22 ?_
    refine z_iload_n dX8_leave_25 rfl ?_
    refine z_iload_n dX8_leave_26 rfl ?_
    refine z_zast rfl (by decide) (by omega) (by omega) (by omega) dX8_leave_27 (fun Mz5 hMz5 => ?_)
    refine z_iload_n dX8_leave_28 rfl ?_
    refine z_iret rfl (by decide) rfl (Nat.sub_self _) dX8_leave_29 ?_
    rw [if_neg (by omega)]
    refine ⟨by omega, ?_⟩
    subst_vars
    rfl
  · refine z_ldc (c := -1000001) cn_X8_153 ⟨by decide, by decide⟩ dX8_leave_8 ?_
    refine z_iret rfl (by decide) rfl (Nat.sub_self _) dX8_leave_10 ?_
    rw [if_pos (by omega)]
    exact ⟨rfl, rfl⟩
set_option maxHeartbeats 400000 in
theorem A_X8_undo (l : Launch) (g : Cx) (M : FMem) (hs : 0 ≤ M 60 0 ∧ M 60 0 ≤ 80) (hc : 0 ≤ M 60 12 ∧ (M 60 12 < 80 ∨ ∀ j, 0 ≤ j → j < M 60 0 → M 70 j = 1)) : AMi l g true fi_X8_undo [fr 60] 93 M (fun r M2 => (∃ i, 0 ≤ i ∧ i < M 60 0 ∧ M 70 i = 0 ∧ (∀ j, i < j → j < M 60 0 → M 70 j = 1) ∧ r = i ∧ M2 = st (st (st M 70 i 1) 71 (M 60 12) i) 60 12 (M 60 12 + 1)) ∨ ((∀ j, 0 ≤ j → j < M 60 0 → M 70 j = 1) ∧ r = -1000003 ∧ M2 = M)) := by
  refine AMi_intro [fr 60, fu] (by decide) (knall rfl) (Nat.le_of_ble_eq_true rfl) rfl ?_
  intro hNV hM0 μ
  have lp7 : ∀ (kq : Nat) (iz : Int), (iz + 1).toNat = kq → (-1 ≤ iz ∧ iz < M 60 0) → (∀ j, iz < j → j < M 60 0 → M 70 j = 1) → Wa l g true fi_X8_undo 93 μ (Zi g true fi_X8_undo 93 μ (fun r M2 => (∃ i, 0 ≤ i ∧ i < M 60 0 ∧ M 70 i = 0 ∧ (∀ j, i < j → j < M 60 0 → M 70 j = 1) ∧ r = i ∧ M2 = st (st (st M 70 i 1) 71 (M 60 12) i) 60 12 (M 60 12 + 1)) ∨ ((∀ j, 0 ≤ j → j < M 60 0 → M 70 j = 1) ∧ r = -1000003 ∧ M2 = M))) 7 [] [fr 60, fi iz] 93 M := by
    intro kq
    induction kq using Nat.strongRecOn with
    | _ kq ih7 =>
    intro iz hk7 h0 h1
    refine z_iload_n dX8_undo_7 rfl ?_
    refine z_if_lt (tgt := 26) dX8_undo_8 (by decide) (fun c1 => ?_) (fun c1 => ?_)
    · refine z_iload_n dX8_undo_26 rfl ?_
      refine z_if_ge (tgt := 33) dX8_undo_27 (by decide) (fun c2 => ?_) (fun c2 => ?_)
      · have hun : M 70 iz = 0 := by omega
        have hst : M 60 12 < 80 := by
          rcases hc.2 with q | q
          · exact q
          · have := q iz (by omega) (by omega); omega
        refine z_aload_nr dX8_undo_33 rfl ?_
        refine z_getr (b := 70) fl_X8_38 rfl (by decide) rf_60_10 rfl dX8_undo_34 ?_
        refine z_iload_n dX8_undo_37 rfl ?_
        refine z_iconst dX8_undo_38 ⟨by decide, by decide⟩ ?_
        refine z_zast rfl (by decide) (by omega) (by omega) (by omega) dX8_undo_39 (fun Mz3 hMz3 => ?_)
        refine z_aload_nr dX8_undo_40 rfl ?_
        refine z_getr (b := 71) fl_X8_41 rfl (by decide) rf_60_11 rfl dX8_undo_41 ?_
        refine z_aload_nr dX8_undo_44 rfl ?_
        refine z_geti (kz := 12) fl_X8_140 rfl (by decide) rfl dX8_undo_45 (fun x4 hx4 bx4 => ?_)
        rw [hMz3, st_cell (by decide)] at hx4
        refine z_iload_n dX8_undo_48 rfl ?_
        refine z_iast rfl (by decide) (by first | omega | (have hq := hc.2; have hq2 := hun; rcases hc.2 with q | q; omega; have := q iz (by omega) (by omega); omega)) (by first | omega | (have hq := hc.2; have hq2 := hun; rcases hc.2 with q | q; omega; have := q iz (by omega) (by omega); omega)) dX8_undo_49 (fun Mz5 hMz5 => ?_)
        refine z_aload_nr dX8_undo_50 rfl ?_
        refine z_dup rfl dX8_undo_51 ?_
        refine z_geti (kz := 12) fl_X8_140 rfl (by decide) rfl dX8_undo_52 (fun x6 hx6 bx6 => ?_)
        rw [hMz5, st_cell (by decide), hMz3, st_cell (by decide)] at hx6
        refine z_iconst dX8_undo_55 ⟨by decide, by decide⟩ ?_
        first | refine z_iaddN dX8_undo_56 (by omega) (fun x7 hx7 => ?_) | refine z_iadd dX8_undo_56 (fun x7 hx7 => ?_)
        refine z_puti (kz := 12) fl_X8_140 rfl (by decide) rfl nr_60_12 dX8_undo_57 (fun Mz8 hMz8 => ?_)
        refine z_iload_n dX8_undo_60 rfl ?_
        refine z_iret rfl (by decide) rfl (Nat.sub_self _) dX8_undo_61 ?_
        refine Or.inl ⟨iz, by omega, by omega, hun, h1, rfl, ?_⟩
        subst_vars
        rfl
      · refine z_ldc (c := -1000003) cn_X8_188 ⟨by decide, by decide⟩ dX8_undo_30 ?_
        refine z_iret rfl (by decide) rfl (Nat.sub_self _) dX8_undo_32 ?_
        refine Or.inr ⟨fun j a b => h1 j (by omega) b, rfl, rfl⟩
    · refine z_aload_nr dX8_undo_11 rfl ?_
      refine z_getr (b := 70) fl_X8_38 rfl (by decide) rf_60_10 rfl dX8_undo_12 ?_
      refine z_iload_n dX8_undo_15 rfl ?_
      refine z_zald rfl (by decide) (by omega) (by omega) dX8_undo_16 (fun x9 hx9 bx9 => ?_)
      refine z_if_eq (tgt := 26) dX8_undo_17 (by decide) (fun c10 => ?_) (fun c10 => ?_)
      · refine z_iload_n dX8_undo_26 rfl ?_
        refine z_if_ge (tgt := 33) dX8_undo_27 (by decide) (fun c11 => ?_) (fun c11 => ?_)
        · have hun : M 70 iz = 0 := by omega
          have hst : M 60 12 < 80 := by
            rcases hc.2 with q | q
            · exact q
            · have := q iz (by omega) (by omega); omega
          refine z_aload_nr dX8_undo_33 rfl ?_
          refine z_getr (b := 70) fl_X8_38 rfl (by decide) rf_60_10 rfl dX8_undo_34 ?_
          refine z_iload_n dX8_undo_37 rfl ?_
          refine z_iconst dX8_undo_38 ⟨by decide, by decide⟩ ?_
          refine z_zast rfl (by decide) (by omega) (by omega) (by omega) dX8_undo_39 (fun Mz12 hMz12 => ?_)
          refine z_aload_nr dX8_undo_40 rfl ?_
          refine z_getr (b := 71) fl_X8_41 rfl (by decide) rf_60_11 rfl dX8_undo_41 ?_
          refine z_aload_nr dX8_undo_44 rfl ?_
          refine z_geti (kz := 12) fl_X8_140 rfl (by decide) rfl dX8_undo_45 (fun x13 hx13 bx13 => ?_)
          rw [hMz12, st_cell (by decide)] at hx13
          refine z_iload_n dX8_undo_48 rfl ?_
          refine z_iast rfl (by decide) (by first | omega | (have hq := hc.2; have hq2 := hun; rcases hc.2 with q | q; omega; have := q iz (by omega) (by omega); omega)) (by first | omega | (have hq := hc.2; have hq2 := hun; rcases hc.2 with q | q; omega; have := q iz (by omega) (by omega); omega)) dX8_undo_49 (fun Mz14 hMz14 => ?_)
          refine z_aload_nr dX8_undo_50 rfl ?_
          refine z_dup rfl dX8_undo_51 ?_
          refine z_geti (kz := 12) fl_X8_140 rfl (by decide) rfl dX8_undo_52 (fun x15 hx15 bx15 => ?_)
          rw [hMz14, st_cell (by decide), hMz12, st_cell (by decide)] at hx15
          refine z_iconst dX8_undo_55 ⟨by decide, by decide⟩ ?_
          first | refine z_iaddN dX8_undo_56 (by omega) (fun x16 hx16 => ?_) | refine z_iadd dX8_undo_56 (fun x16 hx16 => ?_)
          refine z_puti (kz := 12) fl_X8_140 rfl (by decide) rfl nr_60_12 dX8_undo_57 (fun Mz17 hMz17 => ?_)
          refine z_iload_n dX8_undo_60 rfl ?_
          refine z_iret rfl (by decide) rfl (Nat.sub_self _) dX8_undo_61 ?_
          refine Or.inl ⟨iz, by omega, by omega, hun, h1, rfl, ?_⟩
          subst_vars
          rfl
        · refine z_ldc (c := -1000003) cn_X8_188 ⟨by decide, by decide⟩ dX8_undo_30 ?_
          refine z_iret rfl (by decide) rfl (Nat.sub_self _) dX8_undo_32 ?_
          refine Or.inr ⟨fun j a b => h1 j (by omega) b, rfl, rfl⟩
      · refine z_iinc (loc2 := fun vq => [fr 60, fi vq]) dX8_undo_20 rfl (by decide) (by omega) (fun _ => rfl) (fun x18 hx18 => ?_)
        refine z_goto (tgt := 7) dX8_undo_23 (by decide) ?_
        exact ih7 _ (by omega) x18 rfl (by omega) (fun j a b => by
          by_cases e : j = iz
          · rw [e]; omega
          · exact h1 j (by omega) b)
  refine z_aload_nr dX8_undo_0 rfl ?_
  refine z_geti (kz := 0) fl_X8_136 rfl (by decide) rfl dX8_undo_1 (fun x19 hx19 bx19 => ?_)
  refine z_iconst dX8_undo_4 ⟨by decide, by decide⟩ ?_
  first | refine z_isubN dX8_undo_5 (by omega) (fun x20 hx20 => ?_) | refine z_isub dX8_undo_5 (fun x20 hx20 => ?_)
  refine z_istore_n (loc2 := [fr 60, fi x20]) dX8_undo_6 (by decide) rfl ?_
  exact lp7 _ x20 rfl (by omega) (fun j a b => by omega)
set_option maxHeartbeats 400000 in
theorem A_X8_redo (l : Launch) (g : Cx) (M : FMem) (hc : 0 ≤ M 60 12 ∧ M 60 12 ≤ 80) (hk : ∀ j, 0 ≤ j → j < M 60 12 → 0 ≤ M 71 j ∧ M 71 j < 80) : AMi l g true fi_X8_redo [fr 60] 93 M (fun r M2 => if M 60 12 ≤ 0 then r = -1000003 ∧ M2 = M else r = M 71 (M 60 12 - 1) ∧ M2 = st (st M 60 12 (M 60 12 - 1)) 70 (M 71 (M 60 12 - 1)) 0) := by
  refine AMi_intro [fr 60] (by decide) (knall rfl) (Nat.le_of_ble_eq_true rfl) rfl ?_
  intro hNV hM0 μ
  refine z_aload_nr dX8_redo_0 rfl ?_
  refine z_geti (kz := 12) fl_X8_140 rfl (by decide) rfl dX8_redo_1 (fun x1 hx1 bx1 => ?_)
  refine z_if_ne (tgt := 10) dX8_redo_4 (by decide) (fun c2 => ?_) (fun c2 => ?_)
  · refine z_aload_nr dX8_redo_10 rfl ?_
    refine z_dup rfl dX8_redo_11 ?_
    refine z_geti (kz := 12) fl_X8_140 rfl (by decide) rfl dX8_redo_12 (fun x3 hx3 bx3 => ?_)
    refine z_iconst dX8_redo_15 ⟨by decide, by decide⟩ ?_
    first | refine z_isubN dX8_redo_16 (by omega) (fun x4 hx4 => ?_) | refine z_isub dX8_redo_16 (fun x4 hx4 => ?_)
    refine z_puti (kz := 12) fl_X8_140 rfl (by decide) rfl nr_60_12 dX8_redo_17 (fun Mz5 hMz5 => ?_)
    refine z_aload_nr dX8_redo_20 rfl ?_
    refine z_getr (b := 70) fl_X8_38 rfl (by decide) rf_60_10 rfl dX8_redo_21 ?_
    refine z_aload_nr dX8_redo_24 rfl ?_
    refine z_getr (b := 71) fl_X8_41 rfl (by decide) rf_60_11 rfl dX8_redo_25 ?_
    refine z_aload_nr dX8_redo_28 rfl ?_
    refine z_geti (kz := 12) fl_X8_140 rfl (by decide) rfl dX8_redo_29 (fun x6 hx6 bx6 => ?_)
    rw [hMz5, st_same] at hx6
    have e32 : x6 = M 60 12 - 1 := by omega
    have hk1 := hk (M 60 12 - 1) (by omega) (by omega)
    refine z_iald rfl (by decide) (by omega) (by omega) dX8_redo_32 (fun x7 hx7 bx7 => ?_)
    rw [hMz5, st_cell (by decide)] at hx7
    have e33 : x7 = M 71 (M 60 12 - 1) := by rw [hx7, e32]
    refine z_iconst dX8_redo_33 ⟨by decide, by decide⟩ ?_
    refine z_zast rfl (by decide) (by omega) (by omega) (by omega) dX8_redo_34 (fun Mz8 hMz8 => ?_)
    refine z_aload_nr dX8_redo_35 rfl ?_
    refine z_getr (b := 71) fl_X8_41 rfl (by decide) rf_60_11 rfl dX8_redo_36 ?_
    refine z_aload_nr dX8_redo_39 rfl ?_
    refine z_geti (kz := 12) fl_X8_140 rfl (by decide) rfl dX8_redo_40 (fun x9 hx9 bx9 => ?_)
    rw [hMz8, st_cell (by decide), hMz5, st_same] at hx9
    have e43 : x9 = M 60 12 - 1 := by omega
    refine z_iald rfl (by decide) (by omega) (by omega) dX8_redo_43 (fun x10 hx10 bx10 => ?_)
    rw [hMz8, st_cell (by decide), hMz5, st_cell (by decide)] at hx10
    have e44 : x10 = M 71 (M 60 12 - 1) := by rw [hx10, e43]
    refine z_iret rfl (by decide) rfl (Nat.sub_self _) dX8_redo_44 ?_
    rw [if_neg (by omega)]
    refine ⟨e44, ?_⟩
    rw [hMz8, hMz5, e33]
    congr 2
    omega
  · refine z_ldc (c := -1000003) cn_X8_188 ⟨by decide, by decide⟩ dX8_redo_7 ?_
    refine z_iret rfl (by decide) rfl (Nat.sub_self _) dX8_redo_9 ?_
    rw [if_pos (by omega)]
    exact ⟨rfl, rfl⟩
set_option maxHeartbeats 400000 in
theorem A_X8_least (l : Launch) (g : Cx) (M : FMem) (a b : Int) : AMl l g true fi_X8_least [fl a, fl b] 93 M (fun r M2 => M2 = M ∧ (fun r => r = if a < b then a else b) r) := by
  refine AMl_intro [fl a, fu, fl b, fu] (by decide) (knall rfl) (Nat.le_of_ble_eq_true rfl) rfl ?_
  intro hNV hM0 μ
  have ba : N64 a := hNV (fl a) (by simp)
  have bb : N64 b := hNV (fl b) (by simp)
  refine z_lload_n dX8_least_0 rfl ?_
  refine z_lload_n dX8_least_1 rfl ?_
  refine z_lcmp_ge (tgt := 10) dX8_least_2 dX8_least_3 (by decide) (fun c1 => ?_) (fun c1 => ?_)
  · refine z_lload_n dX8_least_10 rfl ?_
    refine z_lret rfl (by decide) rfl (Nat.sub_self _) dX8_least_11 ?_
    refine ⟨rfl, ?_⟩
    first | rw [if_pos (by omega)] | rw [if_neg (by omega)]
  · refine z_lload_n dX8_least_6 rfl ?_
    refine z_goto (tgt := 11) dX8_least_7 (by decide) ?_
    refine z_lret rfl (by decide) rfl (Nat.sub_self _) dX8_least_11 ?_
    refine ⟨rfl, ?_⟩
    first | rw [if_pos (by omega)] | rw [if_neg (by omega)]
set_option maxHeartbeats 400000 in
theorem A_X8_most (l : Launch) (g : Cx) (M : FMem) (a b : Int) : AMl l g true fi_X8_most [fl a, fl b] 93 M (fun r M2 => M2 = M ∧ (fun r => r = if b < a then a else b) r) := by
  refine AMl_intro [fl a, fu, fl b, fu] (by decide) (knall rfl) (Nat.le_of_ble_eq_true rfl) rfl ?_
  intro hNV hM0 μ
  have ba : N64 a := hNV (fl a) (by simp)
  have bb : N64 b := hNV (fl b) (by simp)
  refine z_lload_n dX8_most_0 rfl ?_
  refine z_lload_n dX8_most_1 rfl ?_
  refine z_lcmp_le (tgt := 10) dX8_most_2 dX8_most_3 (by decide) (fun c1 => ?_) (fun c1 => ?_)
  · refine z_lload_n dX8_most_10 rfl ?_
    refine z_lret rfl (by decide) rfl (Nat.sub_self _) dX8_most_11 ?_
    refine ⟨rfl, ?_⟩
    first | rw [if_pos (by omega)] | rw [if_neg (by omega)]
  · refine z_lload_n dX8_most_6 rfl ?_
    refine z_goto (tgt := 11) dX8_most_7 (by decide) ?_
    refine z_lret rfl (by decide) rfl (Nat.sub_self _) dX8_most_11 ?_
    refine ⟨rfl, ?_⟩
    first | rw [if_pos (by omega)] | rw [if_neg (by omega)]
set_option maxHeartbeats 400000 in
theorem A_X8_upper (l : Launch) (g : Cx) (M : FMem) (i : Int) (hi : 0 ≤ i ∧ i < 80) (hh : -1 ≤ M 64 i ∧ M 64 i ≤ 9) : AMi l g true fi_X8_upper [fr 60, fi i] 93 M (fun r M2 => M2 = M ∧ (fun r => r = if M 61 i = 2 then 0 else 1 + M 64 i) r) := by
  refine AMi_intro [fr 60, fi i] (by decide) (knall rfl) (Nat.le_of_ble_eq_true rfl) rfl ?_
  intro hNV hM0 μ
  have bi : N32 i := hNV (fi i) (by simp)
  refine z_aload_nr dX8_upper_0 rfl ?_
  refine z_getr (b := 61) fl_X8_7 rfl (by decide) rf_60_1 rfl dX8_upper_1 ?_
  refine z_iload_n dX8_upper_4 rfl ?_
  refine z_iald rfl (by decide) (by omega) (by omega) dX8_upper_5 (fun x1 hx1 bx1 => ?_)
  refine z_iconst dX8_upper_6 ⟨by decide, by decide⟩ ?_
  refine z_icmp_ne (tgt := 14) dX8_upper_7 (by decide) (fun c2 => ?_) (fun c2 => ?_)
  · refine z_iconst dX8_upper_14 ⟨by decide, by decide⟩ ?_
    refine z_aload_nr dX8_upper_15 rfl ?_
    refine z_getr (b := 64) fl_X8_19 rfl (by decide) rf_60_4 rfl dX8_upper_16 ?_
    refine z_iload_n dX8_upper_19 rfl ?_
    refine z_iald rfl (by decide) (by omega) (by omega) dX8_upper_20 (fun x3 hx3 bx3 => ?_)
    first | refine z_iaddN dX8_upper_21 (by omega) (fun x4 hx4 => ?_) | refine z_iadd dX8_upper_21 (fun x4 hx4 => ?_)
    refine z_iret rfl (by decide) rfl (Nat.sub_self _) dX8_upper_22 ?_
    refine ⟨rfl, ?_⟩
    first | rw [if_pos (by omega)] | (rw [if_neg (by omega)]; omega)
  · refine z_iconst dX8_upper_10 ⟨by decide, by decide⟩ ?_
    refine z_goto (tgt := 22) dX8_upper_11 (by decide) ?_
    refine z_iret rfl (by decide) rfl (Nat.sub_self _) dX8_upper_22 ?_
    refine ⟨rfl, ?_⟩
    first | rw [if_pos (by omega)] | (rw [if_neg (by omega)]; omega)
set_option maxHeartbeats 400000 in
theorem A_X8_lower (l : Launch) (g : Cx) (M : FMem) (i : Int) (hi : 0 ≤ i ∧ i < 80) (hh : -1 ≤ M 63 i ∧ M 63 i ≤ 5) : AMi l g true fi_X8_lower [fr 60, fi i] 93 M (fun r M2 => M2 = M ∧ (fun r => r = if M 61 i = 1 then 0 else 11 + M 63 i) r) := by
  refine AMi_intro [fr 60, fi i] (by decide) (knall rfl) (Nat.le_of_ble_eq_true rfl) rfl ?_
  intro hNV hM0 μ
  have bi : N32 i := hNV (fi i) (by simp)
  refine z_aload_nr dX8_lower_0 rfl ?_
  refine z_getr (b := 61) fl_X8_7 rfl (by decide) rf_60_1 rfl dX8_lower_1 ?_
  refine z_iload_n dX8_lower_4 rfl ?_
  refine z_iald rfl (by decide) (by omega) (by omega) dX8_lower_5 (fun x1 hx1 bx1 => ?_)
  refine z_iconst dX8_lower_6 ⟨by decide, by decide⟩ ?_
  refine z_icmp_ne (tgt := 14) dX8_lower_7 (by decide) (fun c2 => ?_) (fun c2 => ?_)
  · refine z_bipush dX8_lower_14 ⟨by decide, by decide⟩ (by decide) ?_
    refine z_aload_nr dX8_lower_16 rfl ?_
    refine z_getr (b := 63) fl_X8_16 rfl (by decide) rf_60_3 rfl dX8_lower_17 ?_
    refine z_iload_n dX8_lower_20 rfl ?_
    refine z_iald rfl (by decide) (by omega) (by omega) dX8_lower_21 (fun x3 hx3 bx3 => ?_)
    first | refine z_iaddN dX8_lower_22 (by omega) (fun x4 hx4 => ?_) | refine z_iadd dX8_lower_22 (fun x4 hx4 => ?_)
    refine z_iret rfl (by decide) rfl (Nat.sub_self _) dX8_lower_23 ?_
    refine ⟨rfl, ?_⟩
    first | rw [if_pos (by omega)] | (rw [if_neg (by omega)]; omega)
  · refine z_iconst dX8_lower_10 ⟨by decide, by decide⟩ ?_
    refine z_goto (tgt := 23) dX8_lower_11 (by decide) ?_
    refine z_iret rfl (by decide) rfl (Nat.sub_self _) dX8_lower_23 ?_
    refine ⟨rfl, ?_⟩
    first | rw [if_pos (by omega)] | (rw [if_neg (by omega)]; omega)
set_option maxHeartbeats 400000 in
theorem A_X8_cell (l : Launch) (g : Cx) (M : FMem) (a b : Int) (ha : 0 ≤ a ∧ a < 17) (hb : 0 ≤ b ∧ b < 17) : AMi l g true fi_X8_cell [fi a, fi b] 93 M (fun r M2 => M2 = M ∧ (fun r => r = 17 * a + b) r) := by
  refine AMi_intro [fi a, fi b] (by decide) (knall rfl) (Nat.le_of_ble_eq_true rfl) rfl ?_
  intro hNV hM0 μ
  have ba : N32 a := hNV (fi a) (by simp)
  have bb : N32 b := hNV (fi b) (by simp)
  refine z_bipush dX8_cell_0 ⟨by decide, by decide⟩ (by decide) ?_
  refine z_iload_n dX8_cell_2 rfl ?_
  first | refine z_imulN dX8_cell_3 (by omega) (fun x1 hx1 => ?_) | refine z_imul dX8_cell_3 (fun x1 hx1 => ?_)
  refine z_iload_n dX8_cell_4 rfl ?_
  first | refine z_iaddN dX8_cell_5 (by omega) (fun x2 hx2 => ?_) | refine z_iadd dX8_cell_5 (fun x2 hx2 => ?_)
  refine z_iret rfl (by decide) rfl (Nat.sub_self _) dX8_cell_6 ?_
  refine ⟨rfl, ?_⟩
  omega
set_option maxHeartbeats 400000 in
theorem A_X8_isIn (l : Launch) (g : Cx) (M : FMem) (i k : Int) (hi : 0 ≤ i ∧ i < 80) : AMi l g true fi_X8_isIn [fr 60, fi i, fi k] 93 M (fun r M2 => M2 = M ∧ (fun r => r = if i < k ∧ M 70 i = 0 ∧ M 69 i = 0 ∧ i ≠ M 60 42 ∧ i ≠ M 60 43 ∧ M 62 i ≠ M 60 44 then 1 else 0) r) := by
  refine AMi_intro [fr 60, fi i, fi k] (by decide) (knall rfl) (Nat.le_of_ble_eq_true rfl) rfl ?_
  intro hNV hM0 μ
  have bi : N32 i := hNV (fi i) (by simp)
  have bk : N32 k := hNV (fi k) (by simp)
  refine z_iload_n dX8_isIn_0 rfl ?_
  refine z_iload_n dX8_isIn_1 rfl ?_
  refine z_icmp_ge (tgt := 56) dX8_isIn_2 (by decide) (fun c1 => ?_) (fun c1 => ?_)
  · refine z_iconst dX8_isIn_56 ⟨by decide, by decide⟩ ?_
    refine z_zret rfl (by omega) (by decide) rfl (Nat.sub_self _) dX8_isIn_57 ?_
    refine ⟨rfl, ?_⟩
    first | rw [if_pos (by omega)] | rw [if_neg (by omega)]
  · refine z_aload_nr dX8_isIn_5 rfl ?_
    refine z_getr (b := 70) fl_X8_38 rfl (by decide) rf_60_10 rfl dX8_isIn_6 ?_
    refine z_iload_n dX8_isIn_9 rfl ?_
    refine z_zald rfl (by decide) (by omega) (by omega) dX8_isIn_10 (fun x2 hx2 bx2 => ?_)
    refine z_if_ne (tgt := 56) dX8_isIn_11 (by decide) (fun c3 => ?_) (fun c3 => ?_)
    · refine z_iconst dX8_isIn_56 ⟨by decide, by decide⟩ ?_
      refine z_zret rfl (by omega) (by decide) rfl (Nat.sub_self _) dX8_isIn_57 ?_
      refine ⟨rfl, ?_⟩
      first | rw [if_pos (by omega)] | rw [if_neg (by omega)]
    · refine z_aload_nr dX8_isIn_14 rfl ?_
      refine z_getr (b := 69) fl_X8_34 rfl (by decide) rf_60_9 rfl dX8_isIn_15 ?_
      refine z_iload_n dX8_isIn_18 rfl ?_
      refine z_zald rfl (by decide) (by omega) (by omega) dX8_isIn_19 (fun x4 hx4 bx4 => ?_)
      refine z_if_ne (tgt := 56) dX8_isIn_20 (by decide) (fun c5 => ?_) (fun c5 => ?_)
      · refine z_iconst dX8_isIn_56 ⟨by decide, by decide⟩ ?_
        refine z_zret rfl (by omega) (by decide) rfl (Nat.sub_self _) dX8_isIn_57 ?_
        refine ⟨rfl, ?_⟩
        first | rw [if_pos (by omega)] | rw [if_neg (by omega)]
      · refine z_iload_n dX8_isIn_23 rfl ?_
        refine z_aload_nr dX8_isIn_24 rfl ?_
        refine z_geti (kz := 42) fl_X8_94 rfl (by decide) rfl dX8_isIn_25 (fun x6 hx6 bx6 => ?_)
        refine z_icmp_eq (tgt := 56) dX8_isIn_28 (by decide) (fun c7 => ?_) (fun c7 => ?_)
        · refine z_iconst dX8_isIn_56 ⟨by decide, by decide⟩ ?_
          refine z_zret rfl (by omega) (by decide) rfl (Nat.sub_self _) dX8_isIn_57 ?_
          refine ⟨rfl, ?_⟩
          first | rw [if_pos (by omega)] | rw [if_neg (by omega)]
        · refine z_iload_n dX8_isIn_31 rfl ?_
          refine z_aload_nr dX8_isIn_32 rfl ?_
          refine z_geti (kz := 43) fl_X8_97 rfl (by decide) rfl dX8_isIn_33 (fun x8 hx8 bx8 => ?_)
          refine z_icmp_eq (tgt := 56) dX8_isIn_36 (by decide) (fun c9 => ?_) (fun c9 => ?_)
          · refine z_iconst dX8_isIn_56 ⟨by decide, by decide⟩ ?_
            refine z_zret rfl (by omega) (by decide) rfl (Nat.sub_self _) dX8_isIn_57 ?_
            refine ⟨rfl, ?_⟩
            first | rw [if_pos (by omega)] | rw [if_neg (by omega)]
          · refine z_aload_nr dX8_isIn_39 rfl ?_
            refine z_getr (b := 62) fl_X8_13 rfl (by decide) rf_60_2 rfl dX8_isIn_40 ?_
            refine z_iload_n dX8_isIn_43 rfl ?_
            refine z_iald rfl (by decide) (by omega) (by omega) dX8_isIn_44 (fun x10 hx10 bx10 => ?_)
            refine z_aload_nr dX8_isIn_45 rfl ?_
            refine z_geti (kz := 44) fl_X8_100 rfl (by decide) rfl dX8_isIn_46 (fun x11 hx11 bx11 => ?_)
            refine z_icmp_eq (tgt := 56) dX8_isIn_49 (by decide) (fun c12 => ?_) (fun c12 => ?_)
            · refine z_iconst dX8_isIn_56 ⟨by decide, by decide⟩ ?_
              refine z_zret rfl (by omega) (by decide) rfl (Nat.sub_self _) dX8_isIn_57 ?_
              refine ⟨rfl, ?_⟩
              first | rw [if_pos (by omega)] | rw [if_neg (by omega)]
            · refine z_iconst dX8_isIn_52 ⟨by decide, by decide⟩ ?_
              refine z_goto (tgt := 57) dX8_isIn_53 (by decide) ?_
              refine z_zret rfl (by omega) (by decide) rfl (Nat.sub_self _) dX8_isIn_57 ?_
              refine ⟨rfl, ?_⟩
              first | rw [if_pos (by omega)] | rw [if_neg (by omega)]
set_option maxHeartbeats 400000 in
theorem A_X8_forget (l : Launch) (g : Cx) (M : FMem)  : AMv l g true fi_X8_forget [fr 60] 93 M (fun M2 => M2 = st (st (st (st M 60 42 (-1)) 60 43 (-1)) 60 44 (-1)) 60 45 0) := by
  refine AMv_intro [fr 60] (by decide) (knall rfl) (Nat.le_of_ble_eq_true rfl) rfl ?_
  intro hNV hM0 μ
  refine z_aload_nr dX8_forget_0 rfl ?_
  refine z_iconst dX8_forget_1 ⟨by decide, by decide⟩ ?_
  refine z_puti (kz := 42) fl_X8_94 rfl (by decide) rfl nr_60_42 dX8_forget_2 (fun Mz1 hMz1 => ?_)
  refine z_aload_nr dX8_forget_5 rfl ?_
  refine z_iconst dX8_forget_6 ⟨by decide, by decide⟩ ?_
  refine z_puti (kz := 43) fl_X8_97 rfl (by decide) rfl nr_60_43 dX8_forget_7 (fun Mz2 hMz2 => ?_)
  refine z_aload_nr dX8_forget_10 rfl ?_
  refine z_iconst dX8_forget_11 ⟨by decide, by decide⟩ ?_
  refine z_puti (kz := 44) fl_X8_100 rfl (by decide) rfl nr_60_44 dX8_forget_12 (fun Mz3 hMz3 => ?_)
  refine z_aload_nr dX8_forget_15 rfl ?_
  refine z_lconst0 dX8_forget_16 ?_
  refine z_putl (kz := 45) fl_X8_323 rfl (by decide) rfl nr_60_45 dX8_forget_17 (fun Mz4 hMz4 => ?_)
  refine z_vret rfl (by decide) rfl (Nat.sub_self _) dX8_forget_20 ?_
  subst_vars
  rfl
set_option maxHeartbeats 400000 in
theorem A_X8_known (l : Launch) (g : Cx) (M : FMem) (k : Int) : AMi l g true fi_X8_known [fr 60, fi k] 93 M (fun r M2 => M2 = M ∧ (fun r => r = if k < 0 then M 60 0 else k) r) := by
  refine AMi_intro [fr 60, fi k] (by decide) (knall rfl) (Nat.le_of_ble_eq_true rfl) rfl ?_
  intro hNV hM0 μ
  have bk : N32 k := hNV (fi k) (by simp)
  refine z_iload_n dX8_known_0 rfl ?_
  refine z_if_ge (tgt := 11) dX8_known_1 (by decide) (fun c1 => ?_) (fun c1 => ?_)
  · refine z_iload_n dX8_known_11 rfl ?_
    refine z_iret rfl (by decide) rfl (Nat.sub_self _) dX8_known_12 ?_
    refine ⟨rfl, ?_⟩
    first | (rw [if_pos (by omega)]; assumption) | rw [if_neg (by omega)]
  · refine z_aload_nr dX8_known_4 rfl ?_
    refine z_geti (kz := 0) fl_X8_136 rfl (by decide) rfl dX8_known_5 (fun x2 hx2 bx2 => ?_)
    refine z_goto (tgt := 12) dX8_known_8 (by decide) ?_
    refine z_iret rfl (by decide) rfl (Nat.sub_self _) dX8_known_12 ?_
    refine ⟨rfl, ?_⟩
    first | (rw [if_pos (by omega)]; assumption) | rw [if_neg (by omega)]
set_option maxHeartbeats 400000 in
theorem A_X8_isKnown (l : Launch) (g : Cx) (M : FMem) (k : Int) : AMi l g true fi_X8_isKnown [fr 60, fi k] 93 M (fun r M2 => M2 = M ∧ (fun r => r = if -1 ≤ k ∧ k ≤ M 60 0 then 1 else 0) r) := by
  refine AMi_intro [fr 60, fi k] (by decide) (knall rfl) (Nat.le_of_ble_eq_true rfl) rfl ?_
  intro hNV hM0 μ
  have bk : N32 k := hNV (fi k) (by simp)
  refine z_iload_n dX8_isKnown_0 rfl ?_
  refine z_i2l dX8_isKnown_1 ?_
  refine z_ldc2 (c := -1) cn_X8_177 ⟨by decide, by decide⟩ dX8_isKnown_2 ?_
  refine z_aload_nr dX8_isKnown_5 rfl ?_
  refine z_geti (kz := 0) fl_X8_136 rfl (by decide) rfl dX8_isKnown_6 (fun x1 hx1 bx1 => ?_)
  refine z_i2l dX8_isKnown_9 ?_
  refine z_callSip (n2 := 93) (A_X8_in l g M k (-1) x1) cb_X8_in cl_X8_130 (clr0 rfl rfl (by decide) (by decide)) rfl (by decide) rfl (Nat.le_of_ble_eq_true rfl) rfl dX8_isKnown_10 (fun x2 bx2 hx2 => ?_)
  have i2 := if01 hx2
  have hq := hx2
  refine z_zret rfl (by omega) (by decide) rfl (Nat.sub_self _) dX8_isKnown_13 ?_
  refine ⟨rfl, ?_⟩
  rw [hq]
  congr 1
  apply propext
  omega
set_option maxHeartbeats 400000 in
theorem A_X8_fault (l : Launch) (g : Cx) (M : FMem)  : AMi l g true fi_X8_fault [fr 60] 93 M (fun r M2 => M2 = M ∧ (fun r => r = M 60 38) r) := by
  refine AMi_intro [fr 60] (by decide) (knall rfl) (Nat.le_of_ble_eq_true rfl) rfl ?_
  intro hNV hM0 μ
  refine z_aload_nr dX8_fault_0 rfl ?_
  refine z_geti (kz := 38) fl_X8_86 rfl (by decide) rfl dX8_fault_1 (fun x1 hx1 bx1 => ?_)
  refine z_iret rfl (by decide) rfl (Nat.sub_self _) dX8_fault_4 ?_
  exact ⟨rfl, by assumption⟩
set_option maxHeartbeats 400000 in
theorem A_X8_blind (l : Launch) (g : Cx) (M : FMem) (v : Int) : AMi l g true fi_X8_blind [fr 60, fi v] 93 M (fun q M2 => if ¬ (-999 ≤ v ∧ v ≤ 999) then q = -1000002 ∧ M2 = M else if M 60 55 ≠ 0 then q = -1000003 ∧ M2 = M else q = 1 ∧ M2 = st (st M 60 54 v) 60 55 1) := by
  refine AMi_intro [fr 60, fi v] (by decide) (knall rfl) (Nat.le_of_ble_eq_true rfl) rfl ?_
  intro hNV hM0 μ
  have bv : N32 v := hNV (fi v) (by simp)
  refine z_iload_n dX8_blind_0 rfl ?_
  refine z_i2l dX8_blind_1 ?_
  refine z_ldc2 (c := -999) cn_X8_437 ⟨by decide, by decide⟩ dX8_blind_2 ?_
  refine z_ldc2 (c := 999) cn_X8_158 ⟨by decide, by decide⟩ dX8_blind_5 ?_
  refine z_callSip (n2 := 93) (A_X8_in l g M v (-999) 999) cb_X8_in cl_X8_130 (clr0 rfl rfl (by decide) (by decide)) rfl (by decide) rfl (Nat.le_of_ble_eq_true rfl) rfl dX8_blind_8 (fun x1 bx1 hx1 => ?_)
  have i1 := if01 hx1
  refine z_if_ne (tgt := 17) dX8_blind_11 (by decide) (fun c2 => ?_) (fun c2 => ?_)
  · refine z_aload_nr dX8_blind_17 rfl ?_
    refine z_getz (kz := 55) fl_X8_344 rfl (by decide) rfl dX8_blind_18 (fun x3 hx3 bx3 => ?_)
    refine z_if_eq (tgt := 27) dX8_blind_21 (by decide) (fun c4 => ?_) (fun c4 => ?_)
    · refine z_aload_nr dX8_blind_27 rfl ?_
      refine z_iload_n dX8_blind_28 rfl ?_
      refine z_puti (kz := 54) fl_X8_358 rfl (by decide) rfl nr_60_54 dX8_blind_29 (fun Mz5 hMz5 => ?_)
      refine z_aload_nr dX8_blind_32 rfl ?_
      refine z_iconst dX8_blind_33 ⟨by decide, by decide⟩ ?_
      refine z_putz (kz := 55) fl_X8_344 rfl (by decide) rfl (by omega) nr_60_55 dX8_blind_34 (fun Mz6 hMz6 => ?_)
      refine z_iconst dX8_blind_37 ⟨by decide, by decide⟩ ?_
      refine z_iret rfl (by decide) rfl (Nat.sub_self _) dX8_blind_38 ?_
      first
      | (rw [if_pos (by omega)]; exact ⟨rfl, rfl⟩)
      | (rw [if_neg (by omega), if_pos (by omega)]; exact ⟨rfl, rfl⟩)
      | (rw [if_neg (by omega), if_neg (by omega)]; subst_vars; exact ⟨rfl, rfl⟩)
    · refine z_ldc (c := -1000003) cn_X8_188 ⟨by decide, by decide⟩ dX8_blind_24 ?_
      refine z_iret rfl (by decide) rfl (Nat.sub_self _) dX8_blind_26 ?_
      first
      | (rw [if_pos (by omega)]; exact ⟨rfl, rfl⟩)
      | (rw [if_neg (by omega), if_pos (by omega)]; exact ⟨rfl, rfl⟩)
      | (rw [if_neg (by omega), if_neg (by omega)]; subst_vars; exact ⟨rfl, rfl⟩)
  · refine z_ldc (c := -1000002) cn_X8_164 ⟨by decide, by decide⟩ dX8_blind_14 ?_
    refine z_iret rfl (by decide) rfl (Nat.sub_self _) dX8_blind_16 ?_
    first
    | (rw [if_pos (by omega)]; exact ⟨rfl, rfl⟩)
    | (rw [if_neg (by omega), if_pos (by omega)]; exact ⟨rfl, rfl⟩)
    | (rw [if_neg (by omega), if_neg (by omega)]; subst_vars; exact ⟨rfl, rfl⟩)
set_option maxHeartbeats 400000 in
theorem A_X8_open (l : Launch) (g : Cx) (M : FMem)  : AMi l g true fi_X8_open [fr 60] 93 M (fun q M2 => if M 60 55 = 0 ∨ M 60 56 = 1 then q = -1000003 ∧ M2 = M else q = M 60 54 ∧ M2 = st M 60 56 1) := by
  refine AMi_intro [fr 60] (by decide) (knall rfl) (Nat.le_of_ble_eq_true rfl) rfl ?_
  intro hNV hM0 μ
  refine z_aload_nr dX8_open_0 rfl ?_
  refine z_getz (kz := 55) fl_X8_344 rfl (by decide) rfl dX8_open_1 (fun x1 hx1 bx1 => ?_)
  refine z_if_eq (tgt := 14) dX8_open_4 (by decide) (fun c2 => ?_) (fun c2 => ?_)
  · refine z_ldc (c := -1000003) cn_X8_188 ⟨by decide, by decide⟩ dX8_open_14 ?_
    refine z_iret rfl (by decide) rfl (Nat.sub_self _) dX8_open_16 ?_
    first
    | (rw [if_pos (by omega)]; exact ⟨rfl, rfl⟩)
    | (rw [if_neg (by omega)]; refine ⟨by omega, ?_⟩; subst_vars; rfl)
  · refine z_aload_nr dX8_open_7 rfl ?_
    refine z_getz (kz := 56) fl_X8_348 rfl (by decide) rfl dX8_open_8 (fun x3 hx3 bx3 => ?_)
    refine z_if_eq (tgt := 17) dX8_open_11 (by decide) (fun c4 => ?_) (fun c4 => ?_)
    · refine z_aload_nr dX8_open_17 rfl ?_
      refine z_iconst dX8_open_18 ⟨by decide, by decide⟩ ?_
      refine z_putz (kz := 56) fl_X8_348 rfl (by decide) rfl (by omega) nr_60_56 dX8_open_19 (fun Mz5 hMz5 => ?_)
      refine z_aload_nr dX8_open_22 rfl ?_
      refine z_geti (kz := 54) fl_X8_358 rfl (by decide) rfl dX8_open_23 (fun x6 hx6 bx6 => ?_)
      rw [hMz5, st_at, if_neg (by decide)] at hx6
      refine z_iret rfl (by decide) rfl (Nat.sub_self _) dX8_open_26 ?_
      first
      | (rw [if_pos (by omega)]; exact ⟨rfl, rfl⟩)
      | (rw [if_neg (by omega)]; refine ⟨by omega, ?_⟩; subst_vars; rfl)
    · refine z_ldc (c := -1000003) cn_X8_188 ⟨by decide, by decide⟩ dX8_open_14 ?_
      refine z_iret rfl (by decide) rfl (Nat.sub_self _) dX8_open_16 ?_
      first
      | (rw [if_pos (by omega)]; exact ⟨rfl, rfl⟩)
      | (rw [if_neg (by omega)]; refine ⟨by omega, ?_⟩; subst_vars; rfl)
