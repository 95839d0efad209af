/-! ===== the calls that tell ===== -/
def addX (M : FMem) (k li so ho fs se : Int) : FMem := st (st (st (st (st (st (st (st M 2 (M 1 13) k) 3 (M 1 13) li) 4 (M 1 13) so) 5 (M 1 13) ho) 6 (M 1 13) fs) 7 (M 1 13) se) 1 13 (M 1 13 + 1)) 1 11 0
theorem addX_size (M : FMem) (k li so ho fs se : Int) : addX M k li so ho fs se 1 13 = M 1 13 + 1 := by
  unfold addX
  simp [st]
set_option maxHeartbeats 400000 in
theorem A_X7_shift (l : Launch) (g : Cx) (M : FMem) (li ho u v : Int) (hs : 0 ≤ M 1 13 ∧ M 1 13 ≤ 80) : AMi l g true fi_X7_shift [fr 0, fi li, fi ho, fi u, fi v] 93 M (fun r M2 => if ¬ ((0 ≤ li ∧ li ≤ 5) ∧ (0 ≤ ho ∧ ho ≤ 9)) then r = -1000001 ∧ M2 = M else if ¬ (-40000 ≤ u ∧ u ≤ v ∧ v ≤ 40000) then r = -1000002 ∧ M2 = M else if 80 ≤ M 1 13 then r = -1000004 ∧ M2 = M else r = M 1 13 ∧ M2 = addX M 1 li (-1) ho u v) := by
  refine AMi_intro [fr 0, fi li, fi ho, fi u, fi v] (by decide) (knall rfl) (Nat.le_of_ble_eq_true rfl) rfl ?_
  intro hNV hM0 μ
  have bli : N32 li := hNV (fi li) (by simp)
  have bho : N32 ho := hNV (fi ho) (by simp)
  have bu : N32 u := hNV (fi u) (by simp)
  have bv : N32 v := hNV (fi v) (by simp)
  refine z_iload_n dX7_shift_0 rfl ?_
  refine z_callSip (n2 := 93) (A_X7_isList l g M li) cb_X7_isList cl_X7_72 (clr0 rfl rfl (by decide) (by decide)) rfl (by decide) rfl (Nat.le_of_ble_eq_true rfl) rfl dX7_shift_1 (fun x1 bx1 hx1 => ?_)
  have i1 := if01 hx1
  refine z_if_eq (tgt := 14) dX7_shift_4 (by decide) (fun c2 => ?_) (fun c2 => ?_)
  · refine z_ldc (c := -1000001) cn_X7_82 ⟨by decide, by decide⟩ dX7_shift_14 ?_
    refine z_iret rfl (by decide) rfl (Nat.sub_self _) dX7_shift_16 ?_
    rw [if_pos (by omega)]
    exact ⟨rfl, rfl⟩
  · refine z_iload_n dX7_shift_7 rfl ?_
    refine z_callSip (n2 := 93) (A_X7_isHome l g M ho) cb_X7_isHome cl_X7_79 (clr0 rfl rfl (by decide) (by decide)) rfl (by decide) rfl (Nat.le_of_ble_eq_true rfl) rfl dX7_shift_8 (fun x3 bx3 hx3 => ?_)
    have i3 := if01 hx3
    refine z_if_ne (tgt := 17) dX7_shift_11 (by decide) (fun c4 => ?_) (fun c4 => ?_)
    · refine z_iload_n dX7_shift_17 rfl ?_
      refine z_iload dX7_shift_18 rfl ?_
      refine z_callSip (n2 := 93) (A_X7_isSpan l g M u v) cb_X7_isSpan cl_X7_101 (clr0 rfl rfl (by decide) (by decide)) rfl (by decide) rfl (Nat.le_of_ble_eq_true rfl) rfl dX7_shift_20 (fun x5 bx5 hx5 => ?_)
      have i5 := if01 hx5
      refine z_if_ne (tgt := 29) dX7_shift_23 (by decide) (fun c6 => ?_) (fun c6 => ?_)
      · refine z_aload_nr dX7_shift_29 rfl ?_
        refine z_getr (b := 1) fl_X7_10 rfl (by decide) rf_0_0 rfl dX7_shift_30 ?_
        refine z_callVip (n2 := 93) (A_X5_isFull l g M ) cb_X5_isFull cl_X7_88 (clr0 rfl rfl (by decide) (by decide)) rfl (by decide) ⟨_, rfl, rfl⟩ rfl (by decide) rfl (Nat.le_of_ble_eq_true rfl) rfl dX7_shift_33 (fun x7 bx7 hx7 => ?_)
        have i7 := if01 hx7
        refine z_if_eq (tgt := 44) dX7_shift_36 (by decide) (fun c8 => ?_) (fun c8 => ?_)
        · refine z_aload_nr dX7_shift_44 rfl ?_
          refine z_getr (b := 1) fl_X7_10 rfl (by decide) rf_0_0 rfl dX7_shift_45 ?_
          refine z_iconst dX7_shift_48 ⟨by decide, by decide⟩ ?_
          refine z_iload_n dX7_shift_49 rfl ?_
          refine z_iconst dX7_shift_50 ⟨by decide, by decide⟩ ?_
          refine z_iload_n dX7_shift_51 rfl ?_
          refine z_iload_n dX7_shift_52 rfl ?_
          refine z_iload dX7_shift_53 rfl ?_
          refine z_callVi (n2 := 93) (A_X5_add l g M 1 li (-1) ho u v (by omega)) cb_X5_add cl_X7_93 (clr0 rfl rfl (by decide) (by decide)) rfl (by decide) ⟨_, rfl, rfl⟩ rfl (by decide) rfl (Nat.le_of_ble_eq_true rfl) rfl dX7_shift_55 (fun x9 Mz9 bx9 kMz9 hc9 => ?_)
          have hadd := hc9
          refine z_iret rfl (by decide) rfl (Nat.sub_self _) dX7_shift_58 ?_
          first
          | (rw [if_neg (by omega), if_neg (by omega), if_pos (by omega)]; exact ⟨rfl, rfl⟩)
          | (rw [if_neg (by omega), if_neg (by omega), if_neg (by omega)]; exact hadd)
        · refine z_ldc (c := -1000004) cn_X7_92 ⟨by decide, by decide⟩ dX7_shift_39 ?_
          refine z_goto (tgt := 58) dX7_shift_41 (by decide) ?_
          refine z_iret rfl (by decide) rfl (Nat.sub_self _) dX7_shift_58 ?_
          first
          | (rw [if_neg (by omega), if_neg (by omega), if_pos (by omega)]; exact ⟨rfl, rfl⟩)
          | (rw [if_neg (by omega), if_neg (by omega), if_neg (by omega)]; exact hadd)
      · refine z_ldc (c := -1000002) cn_X7_87 ⟨by decide, by decide⟩ dX7_shift_26 ?_
        refine z_iret rfl (by decide) rfl (Nat.sub_self _) dX7_shift_28 ?_
        rw [if_neg (by omega), if_pos (by omega)]
        exact ⟨rfl, rfl⟩
    · refine z_ldc (c := -1000001) cn_X7_82 ⟨by decide, by decide⟩ dX7_shift_14 ?_
      refine z_iret rfl (by decide) rfl (Nat.sub_self _) dX7_shift_16 ?_
      rw [if_pos (by omega)]
      exact ⟨rfl, rfl⟩
set_option maxHeartbeats 400000 in
theorem A_X7_anchor (l : Launch) (g : Cx) (M : FMem) (li so u v : Int) (hs : 0 ≤ M 1 13 ∧ M 1 13 ≤ 80) : AMi l g true fi_X7_anchor [fr 0, fi li, fi so, fi u, fi v] 93 M (fun r M2 => if ¬ ((0 ≤ li ∧ li ≤ 5) ∧ (0 ≤ so ∧ so ≤ 5)) then r = -1000001 ∧ M2 = M else if ¬ (-40000 ≤ u ∧ u ≤ v ∧ v ≤ 40000) then r = -1000002 ∧ M2 = M else if 80 ≤ M 1 13 then r = -1000004 ∧ M2 = M else r = M 1 13 ∧ M2 = addX M 2 li so (-1) u v) := by
  refine AMi_intro [fr 0, fi li, fi so, fi u, fi v] (by decide) (knall rfl) (Nat.le_of_ble_eq_true rfl) rfl ?_
  intro hNV hM0 μ
  have bli : N32 li := hNV (fi li) (by simp)
  have bso : N32 so := hNV (fi so) (by simp)
  have bu : N32 u := hNV (fi u) (by simp)
  have bv : N32 v := hNV (fi v) (by simp)
  refine z_iload_n dX7_anchor_0 rfl ?_
  refine z_callSip (n2 := 93) (A_X7_isList l g M li) cb_X7_isList cl_X7_72 (clr0 rfl rfl (by decide) (by decide)) rfl (by decide) rfl (Nat.le_of_ble_eq_true rfl) rfl dX7_anchor_1 (fun x1 bx1 hx1 => ?_)
  have i1 := if01 hx1
  refine z_if_eq (tgt := 14) dX7_anchor_4 (by decide) (fun c2 => ?_) (fun c2 => ?_)
  · refine z_ldc (c := -1000001) cn_X7_82 ⟨by decide, by decide⟩ dX7_anchor_14 ?_
    refine z_iret rfl (by decide) rfl (Nat.sub_self _) dX7_anchor_16 ?_
    rw [if_pos (by omega)]
    exact ⟨rfl, rfl⟩
  · refine z_iload_n dX7_anchor_7 rfl ?_
    refine z_callSip (n2 := 93) (A_X7_isSort l g M so) cb_X7_isSort cl_X7_76 (clr0 rfl rfl (by decide) (by decide)) rfl (by decide) rfl (Nat.le_of_ble_eq_true rfl) rfl dX7_anchor_8 (fun x3 bx3 hx3 => ?_)
    have i3 := if01 hx3
    refine z_if_ne (tgt := 17) dX7_anchor_11 (by decide) (fun c4 => ?_) (fun c4 => ?_)
    · refine z_iload_n dX7_anchor_17 rfl ?_
      refine z_iload dX7_anchor_18 rfl ?_
      refine z_callSip (n2 := 93) (A_X7_isSpan l g M u v) cb_X7_isSpan cl_X7_101 (clr0 rfl rfl (by decide) (by decide)) rfl (by decide) rfl (Nat.le_of_ble_eq_true rfl) rfl dX7_anchor_20 (fun x5 bx5 hx5 => ?_)
      have i5 := if01 hx5
      refine z_if_ne (tgt := 29) dX7_anchor_23 (by decide) (fun c6 => ?_) (fun c6 => ?_)
      · refine z_aload_nr dX7_anchor_29 rfl ?_
        refine z_getr (b := 1) fl_X7_10 rfl (by decide) rf_0_0 rfl dX7_anchor_30 ?_
        refine z_callVip (n2 := 93) (A_X5_isFull l g M ) cb_X5_isFull cl_X7_88 (clr0 rfl rfl (by decide) (by decide)) rfl (by decide) ⟨_, rfl, rfl⟩ rfl (by decide) rfl (Nat.le_of_ble_eq_true rfl) rfl dX7_anchor_33 (fun x7 bx7 hx7 => ?_)
        have i7 := if01 hx7
        refine z_if_eq (tgt := 44) dX7_anchor_36 (by decide) (fun c8 => ?_) (fun c8 => ?_)
        · refine z_aload_nr dX7_anchor_44 rfl ?_
          refine z_getr (b := 1) fl_X7_10 rfl (by decide) rf_0_0 rfl dX7_anchor_45 ?_
          refine z_iconst dX7_anchor_48 ⟨by decide, by decide⟩ ?_
          refine z_iload_n dX7_anchor_49 rfl ?_
          refine z_iload_n dX7_anchor_50 rfl ?_
          refine z_iconst dX7_anchor_51 ⟨by decide, by decide⟩ ?_
          refine z_iload_n dX7_anchor_52 rfl ?_
          refine z_iload dX7_anchor_53 rfl ?_
          refine z_callVi (n2 := 93) (A_X5_add l g M 2 li so (-1) u v (by omega)) cb_X5_add cl_X7_93 (clr0 rfl rfl (by decide) (by decide)) rfl (by decide) ⟨_, rfl, rfl⟩ rfl (by decide) rfl (Nat.le_of_ble_eq_true rfl) rfl dX7_anchor_55 (fun x9 Mz9 bx9 kMz9 hc9 => ?_)
          have hadd := hc9
          refine z_iret rfl (by decide) rfl (Nat.sub_self _) dX7_anchor_58 ?_
          first
          | (rw [if_neg (by omega), if_neg (by omega), if_pos (by omega)]; exact ⟨rfl, rfl⟩)
          | (rw [if_neg (by omega), if_neg (by omega), if_neg (by omega)]; exact hadd)
        · refine z_ldc (c := -1000004) cn_X7_92 ⟨by decide, by decide⟩ dX7_anchor_39 ?_
          refine z_goto (tgt := 58) dX7_anchor_41 (by decide) ?_
          refine z_iret rfl (by decide) rfl (Nat.sub_self _) dX7_anchor_58 ?_
          first
          | (rw [if_neg (by omega), if_neg (by omega), if_pos (by omega)]; exact ⟨rfl, rfl⟩)
          | (rw [if_neg (by omega), if_neg (by omega), if_neg (by omega)]; exact hadd)
      · refine z_ldc (c := -1000002) cn_X7_87 ⟨by decide, by decide⟩ dX7_anchor_26 ?_
        refine z_iret rfl (by decide) rfl (Nat.sub_self _) dX7_anchor_28 ?_
        rw [if_neg (by omega), if_pos (by omega)]
        exact ⟨rfl, rfl⟩
    · refine z_ldc (c := -1000001) cn_X7_82 ⟨by decide, by decide⟩ dX7_anchor_14 ?_
      refine z_iret rfl (by decide) rfl (Nat.sub_self _) dX7_anchor_16 ?_
      rw [if_pos (by omega)]
      exact ⟨rfl, rfl⟩
set_option maxHeartbeats 400000 in
theorem A_X7_light (l : Launch) (g : Cx) (M : FMem) (li so ho b m t c : Int) (hs : 0 ≤ M 1 13 ∧ M 1 13 ≤ 80) : AMi l g true fi_X7_light [fr 0, fi li, fi so, fi ho, fi b, fi m, fi t, fi c] 93 M (fun r M2 => if ¬ ((0 ≤ li ∧ li ≤ 5) ∧ (0 ≤ so ∧ so ≤ 5) ∧ (0 ≤ ho ∧ ho ≤ 9)) then r = -1000001 ∧ M2 = M else if ¬ ((-5000 ≤ b ∧ b ≤ 30000) ∧ (0 ≤ m ∧ m ≤ 999) ∧ (0 ≤ t ∧ t ≤ 3000) ∧ (-500 ≤ c ∧ c ≤ 3000)) then r = -1000002 ∧ M2 = M else if 80 ≤ M 1 13 then r = -1000004 ∧ M2 = M else r = M 1 13 ∧ M2 = st (st (addX M 0 li so ho b m) 8 (M 1 13) t) 9 (M 1 13) c) := by
  refine AMi_intro [fr 0, fi li, fi so, fi ho, fi b, fi m, fi t, fi c, fu, fu] (by decide) (knall rfl) (Nat.le_of_ble_eq_true rfl) rfl ?_
  intro hNV hM0 μ
  have bli : N32 li := hNV (fi li) (by simp)
  have bso : N32 so := hNV (fi so) (by simp)
  have bho : N32 ho := hNV (fi ho) (by simp)
  have bb : N32 b := hNV (fi b) (by simp)
  have bm : N32 m := hNV (fi m) (by simp)
  have bt : N32 t := hNV (fi t) (by simp)
  have bc : N32 c := hNV (fi c) (by simp)
  refine z_iload_n dX7_light_0 rfl ?_
  refine z_callSip (n2 := 93) (A_X7_isList l g M li) cb_X7_isList cl_X7_72 (clr0 rfl rfl (by decide) (by decide)) rfl (by decide) rfl (Nat.le_of_ble_eq_true rfl) rfl dX7_light_1 (fun x1 bx1 hx1 => ?_)
  have i1 := if01 hx1
  refine z_if_eq (tgt := 21) dX7_light_4 (by decide) (fun c2 => ?_) (fun c2 => ?_)
  · refine z_ldc (c := -1000001) cn_X7_82 ⟨by decide, by decide⟩ dX7_light_21 ?_
    refine z_iret rfl (by decide) rfl (Nat.sub_self _) dX7_light_23 ?_
    rw [if_pos (by omega)]
    exact ⟨rfl, rfl⟩
  · refine z_iload_n dX7_light_7 rfl ?_
    refine z_callSip (n2 := 93) (A_X7_isSort l g M so) cb_X7_isSort cl_X7_76 (clr0 rfl rfl (by decide) (by decide)) rfl (by decide) rfl (Nat.le_of_ble_eq_true rfl) rfl dX7_light_8 (fun x3 bx3 hx3 => ?_)
    have i3 := if01 hx3
    refine z_if_eq (tgt := 21) dX7_light_11 (by decide) (fun c4 => ?_) (fun c4 => ?_)
    · refine z_ldc (c := -1000001) cn_X7_82 ⟨by decide, by decide⟩ dX7_light_21 ?_
      refine z_iret rfl (by decide) rfl (Nat.sub_self _) dX7_light_23 ?_
      rw [if_pos (by omega)]
      exact ⟨rfl, rfl⟩
    · refine z_iload_n dX7_light_14 rfl ?_
      refine z_callSip (n2 := 93) (A_X7_isHome l g M ho) cb_X7_isHome cl_X7_79 (clr0 rfl rfl (by decide) (by decide)) rfl (by decide) rfl (Nat.le_of_ble_eq_true rfl) rfl dX7_light_15 (fun x5 bx5 hx5 => ?_)
      have i5 := if01 hx5
      refine z_if_ne (tgt := 24) dX7_light_18 (by decide) (fun c6 => ?_) (fun c6 => ?_)
      · refine z_iload dX7_light_24 rfl ?_
        refine z_sipush dX7_light_26 ⟨by decide, by decide⟩ (by decide) ?_
        refine z_sipush dX7_light_29 ⟨by decide, by decide⟩ (by decide) ?_
        refine z_callSip (n2 := 93) (A_X7_isFrom l g M b (-5000) 30000) cb_X7_isFrom cl_X7_83 (clr0 rfl rfl (by decide) (by decide)) rfl (by decide) rfl (Nat.le_of_ble_eq_true rfl) rfl dX7_light_32 (fun x7 bx7 hx7 => ?_)
        have i7 := if01 hx7
        have J8 : ∀ b8 : Int, (b8 = 1 ∧ ((-5000 ≤ b ∧ b ≤ 30000) ∧ (0 ≤ m ∧ m ≤ 999))) ∨ (b8 = 0 ∧ ¬ ((-5000 ≤ b ∧ b ≤ 30000) ∧ (0 ≤ m ∧ m ≤ 999))) → Wa l g true fi_X7_light 93 μ (Zi g true fi_X7_light 93 μ (fun r M2 => if ¬ ((0 ≤ li ∧ li ≤ 5) ∧ (0 ≤ so ∧ so ≤ 5) ∧ (0 ≤ ho ∧ ho ≤ 9)) then r = -1000001 ∧ M2 = M else if ¬ ((-5000 ≤ b ∧ b ≤ 30000) ∧ (0 ≤ m ∧ m ≤ 999) ∧ (0 ≤ t ∧ t ≤ 3000) ∧ (-500 ≤ c ∧ c ≤ 3000)) then r = -1000002 ∧ M2 = M else if 80 ≤ M 1 13 then r = -1000004 ∧ M2 = M else r = M 1 13 ∧ M2 = st (st (addX M 0 li so ho b m) 8 (M 1 13) t) 9 (M 1 13) c)) 55 ([fi b8]) [fr 0, fi li, fi so, fi ho, fi b, fi m, fi t, fi c, fu, fu] 93 M := by
          intro b8 j8
          refine z_istore (loc2 := [fr 0, fi li, fi so, fi ho, fi b, fi m, fi t, fi c, fi b8, fu]) dX7_light_55 (by decide) rfl ?_
          refine z_iload dX7_light_57 rfl ?_
          refine z_if_eq (tgt := 88) dX7_light_59 (by decide) (fun c9 => ?_) (fun c9 => ?_)
          · refine z_ldc (c := -1000002) cn_X7_87 ⟨by decide, by decide⟩ dX7_light_88 ?_
            refine z_iret rfl (by decide) rfl (Nat.sub_self _) dX7_light_90 ?_
            rw [if_neg (by omega), if_pos (by omega)]
            exact ⟨rfl, rfl⟩
          · refine z_iload dX7_light_62 rfl ?_
            refine z_iconst dX7_light_64 ⟨by decide, by decide⟩ ?_
            refine z_sipush dX7_light_65 ⟨by decide, by decide⟩ (by decide) ?_
            refine z_callSip (n2 := 93) (A_X7_isFrom l g M t 0 3000) cb_X7_isFrom cl_X7_83 (clr0 rfl rfl (by decide) (by decide)) rfl (by decide) rfl (Nat.le_of_ble_eq_true rfl) rfl dX7_light_68 (fun x10 bx10 hx10 => ?_)
            have i10 := if01 hx10
            refine z_if_eq (tgt := 88) dX7_light_71 (by decide) (fun c11 => ?_) (fun c11 => ?_)
            · refine z_ldc (c := -1000002) cn_X7_87 ⟨by decide, by decide⟩ dX7_light_88 ?_
              refine z_iret rfl (by decide) rfl (Nat.sub_self _) dX7_light_90 ?_
              rw [if_neg (by omega), if_pos (by omega)]
              exact ⟨rfl, rfl⟩
            · refine z_iload dX7_light_74 rfl ?_
              refine z_sipush dX7_light_76 ⟨by decide, by decide⟩ (by decide) ?_
              refine z_sipush dX7_light_79 ⟨by decide, by decide⟩ (by decide) ?_
              refine z_callSip (n2 := 93) (A_X7_isFrom l g M c (-500) 3000) cb_X7_isFrom cl_X7_83 (clr0 rfl rfl (by decide) (by decide)) rfl (by decide) rfl (Nat.le_of_ble_eq_true rfl) rfl dX7_light_82 (fun x12 bx12 hx12 => ?_)
              have i12 := if01 hx12
              refine z_if_ne (tgt := 91) dX7_light_85 (by decide) (fun c13 => ?_) (fun c13 => ?_)
              · refine z_aload_nr dX7_light_91 rfl ?_
                refine z_getr (b := 1) fl_X7_10 rfl (by decide) rf_0_0 rfl dX7_light_92 ?_
                refine z_callVip (n2 := 93) (A_X5_isFull l g M ) cb_X5_isFull cl_X7_88 (clr0 rfl rfl (by decide) (by decide)) rfl (by decide) ⟨_, rfl, rfl⟩ rfl (by decide) rfl (Nat.le_of_ble_eq_true rfl) rfl dX7_light_95 (fun x14 bx14 hx14 => ?_)
                have i14 := if01 hx14
                refine z_if_eq (tgt := 104) dX7_light_98 (by decide) (fun c15 => ?_) (fun c15 => ?_)
                · refine z_aload_nr dX7_light_104 rfl ?_
                  refine z_getr (b := 1) fl_X7_10 rfl (by decide) rf_0_0 rfl dX7_light_105 ?_
                  refine z_iconst dX7_light_108 ⟨by decide, by decide⟩ ?_
                  refine z_iload_n dX7_light_109 rfl ?_
                  refine z_iload_n dX7_light_110 rfl ?_
                  refine z_iload_n dX7_light_111 rfl ?_
                  refine z_iload dX7_light_112 rfl ?_
                  refine z_iload dX7_light_114 rfl ?_
                  refine z_callVi (n2 := 93) (A_X5_add l g M 0 li so ho b m (by omega)) cb_X5_add cl_X7_93 (clr0 rfl rfl (by decide) (by decide)) rfl (by decide) ⟨_, rfl, rfl⟩ rfl (by decide) rfl (Nat.le_of_ble_eq_true rfl) rfl dX7_light_116 (fun x16 Mz16 bx16 kMz16 hc16 => ?_)
                  have hadd := hc16
                  refine z_istore (loc2 := [fr 0, fi li, fi so, fi ho, fi b, fi m, fi t, fi c, fi b8, fi x16]) dX7_light_119 (by decide) rfl ?_
                  refine z_aload_nr dX7_light_121 rfl ?_
                  refine z_getr (b := 1) fl_X7_10 rfl (by decide) rf_0_0 rfl dX7_light_122 ?_
                  refine z_iload dX7_light_125 rfl ?_
                  refine z_iload dX7_light_127 rfl ?_
                  refine z_iload dX7_light_129 rfl ?_
                  refine z_callVv (n2 := 93) (A_X5_dress l g Mz16 x16 t c (by rw [hadd.2, hadd.1]; have := addX_size M 0 li so ho b m; unfold addX at this; omega)) cb_X5_dress cl_X7_97 (clr0 rfl rfl (by decide) (by decide)) rfl (by decide) ⟨_, rfl, rfl⟩ rfl (by decide) rfl (Nat.le_of_ble_eq_true rfl) rfl dX7_light_131 (fun Mz17 kMz17 hc17 => ?_)
                  have hdr := hc17
                  refine z_iload dX7_light_134 rfl ?_
                  refine z_iret rfl (by decide) rfl (Nat.sub_self _) dX7_light_136 ?_
                  rw [if_neg (by omega), if_neg (by omega), if_neg (by omega)]
                  refine ⟨hadd.1, ?_⟩
                  rw [hdr, hadd.2, hadd.1]
                  rfl
                · refine z_ldc (c := -1000004) cn_X7_92 ⟨by decide, by decide⟩ dX7_light_101 ?_
                  refine z_iret rfl (by decide) rfl (Nat.sub_self _) dX7_light_103 ?_
                  rw [if_neg (by omega), if_neg (by omega), if_pos (by omega)]
                  exact ⟨rfl, rfl⟩
              · refine z_ldc (c := -1000002) cn_X7_87 ⟨by decide, by decide⟩ dX7_light_88 ?_
                refine z_iret rfl (by decide) rfl (Nat.sub_self _) dX7_light_90 ?_
                rw [if_neg (by omega), if_pos (by omega)]
                exact ⟨rfl, rfl⟩
        refine z_if_eq (tgt := 54) dX7_light_35 (by decide) (fun c18 => ?_) (fun c18 => ?_)
        · refine z_iconst dX7_light_54 ⟨by decide, by decide⟩ ?_
          first | exact J8 _ (Or.inl ⟨rfl, by omega⟩) | exact J8 _ (Or.inr ⟨rfl, by omega⟩)
        · refine z_iload dX7_light_38 rfl ?_
          refine z_iconst dX7_light_40 ⟨by decide, by decide⟩ ?_
          refine z_sipush dX7_light_41 ⟨by decide, by decide⟩ (by decide) ?_
          refine z_callSip (n2 := 93) (A_X7_isFrom l g M m 0 999) cb_X7_isFrom cl_X7_83 (clr0 rfl rfl (by decide) (by decide)) rfl (by decide) rfl (Nat.le_of_ble_eq_true rfl) rfl dX7_light_44 (fun x19 bx19 hx19 => ?_)
          have i19 := if01 hx19
          refine z_if_eq (tgt := 54) dX7_light_47 (by decide) (fun c20 => ?_) (fun c20 => ?_)
          · refine z_iconst dX7_light_54 ⟨by decide, by decide⟩ ?_
            first | exact J8 _ (Or.inl ⟨rfl, by omega⟩) | exact J8 _ (Or.inr ⟨rfl, by omega⟩)
          · refine z_iconst dX7_light_50 ⟨by decide, by decide⟩ ?_
            refine z_goto (tgt := 55) dX7_light_51 (by decide) ?_
            first | exact J8 _ (Or.inl ⟨rfl, by omega⟩) | exact J8 _ (Or.inr ⟨rfl, by omega⟩)
      · refine z_ldc (c := -1000001) cn_X7_82 ⟨by decide, by decide⟩ dX7_light_21 ?_
        refine z_iret rfl (by decide) rfl (Nat.sub_self _) dX7_light_23 ?_
        rw [if_pos (by omega)]
        exact ⟨rfl, rfl⟩
set_option maxHeartbeats 400000 in
theorem A_X7_redden (l : Launch) (g : Cx) (M : FMem) (ho u v : Int) : AMi l g true fi_X7_redden [fr 0, fi ho, fi u, fi v] 93 M (fun r M2 => if ¬ (0 ≤ ho ∧ ho ≤ 9) then r = -1000001 ∧ M2 = M else if ¬ (0 ≤ u ∧ u ≤ v ∧ v ≤ 2000) then r = -1000002 ∧ M2 = M else r = 1 ∧ M2 = st (st M 15 ho u) 16 ho v) := by
  refine AMi_intro [fr 0, fi ho, fi u, fi v] (by decide) (knall rfl) (Nat.le_of_ble_eq_true rfl) rfl ?_
  intro hNV hM0 μ
  have bho : N32 ho := hNV (fi ho) (by simp)
  have bu : N32 u := hNV (fi u) (by simp)
  have bv : N32 v := hNV (fi v) (by simp)
  refine z_iload_n dX7_redden_0 rfl ?_
  refine z_callSip (n2 := 93) (A_X7_isHome l g M ho) cb_X7_isHome cl_X7_79 (clr0 rfl rfl (by decide) (by decide)) rfl (by decide) rfl (Nat.le_of_ble_eq_true rfl) rfl dX7_redden_1 (fun x1 bx1 hx1 => ?_)
  have i1 := if01 hx1
  refine z_if_ne (tgt := 10) dX7_redden_4 (by decide) (fun c2 => ?_) (fun c2 => ?_)
  · refine z_iload_n dX7_redden_10 rfl ?_
    refine z_if_lt (tgt := 26) dX7_redden_11 (by decide) (fun c3 => ?_) (fun c3 => ?_)
    · refine z_ldc (c := -1000002) cn_X7_87 ⟨by decide, by decide⟩ dX7_redden_26 ?_
      refine z_iret rfl (by decide) rfl (Nat.sub_self _) dX7_redden_28 ?_
      rw [if_neg (by omega), if_pos (by omega)]
      exact ⟨rfl, rfl⟩
    · refine z_iload_n dX7_redden_14 rfl ?_
      refine z_iload_n dX7_redden_15 rfl ?_
      refine z_icmp_lt (tgt := 26) dX7_redden_16 (by decide) (fun c4 => ?_) (fun c4 => ?_)
      · refine z_ldc (c := -1000002) cn_X7_87 ⟨by decide, by decide⟩ dX7_redden_26 ?_
        refine z_iret rfl (by decide) rfl (Nat.sub_self _) dX7_redden_28 ?_
        rw [if_neg (by omega), if_pos (by omega)]
        exact ⟨rfl, rfl⟩
      · refine z_iload_n dX7_redden_19 rfl ?_
        refine z_sipush dX7_redden_20 ⟨by decide, by decide⟩ (by decide) ?_
        refine z_icmp_le (tgt := 29) dX7_redden_23 (by decide) (fun c5 => ?_) (fun c5 => ?_)
        · refine z_aload_nr dX7_redden_29 rfl ?_
          refine z_getr (b := 14) fl_X7_19 rfl (by decide) rf_0_1 rfl dX7_redden_30 ?_
          refine z_getr (b := 15) fl_X7_105 rfl (by decide) rf_14_0 rfl dX7_redden_33 ?_
          refine z_iload_n dX7_redden_36 rfl ?_
          refine z_iload_n dX7_redden_37 rfl ?_
          refine z_iast rfl (by decide) (by omega) (by omega) dX7_redden_38 (fun Mz6 hMz6 => ?_)
          refine z_aload_nr dX7_redden_39 rfl ?_
          refine z_getr (b := 14) fl_X7_19 rfl (by decide) rf_0_1 rfl dX7_redden_40 ?_
          refine z_getr (b := 16) fl_X7_109 rfl (by decide) rf_14_1 rfl dX7_redden_43 ?_
          refine z_iload_n dX7_redden_46 rfl ?_
          refine z_iload_n dX7_redden_47 rfl ?_
          refine z_iast rfl (by decide) (by omega) (by omega) dX7_redden_48 (fun Mz7 hMz7 => ?_)
          refine z_iconst dX7_redden_49 ⟨by decide, by decide⟩ ?_
          refine z_iret rfl (by decide) rfl (Nat.sub_self _) dX7_redden_50 ?_
          rw [if_neg (by omega), if_neg (by omega)]
          subst_vars
          exact ⟨rfl, rfl⟩
        · refine z_ldc (c := -1000002) cn_X7_87 ⟨by decide, by decide⟩ dX7_redden_26 ?_
          refine z_iret rfl (by decide) rfl (Nat.sub_self _) dX7_redden_28 ?_
          rw [if_neg (by omega), if_pos (by omega)]
          exact ⟨rfl, rfl⟩
  · refine z_ldc (c := -1000001) cn_X7_82 ⟨by decide, by decide⟩ dX7_redden_7 ?_
    refine z_iret rfl (by decide) rfl (Nat.sub_self _) dX7_redden_9 ?_
    rw [if_pos (by omega)]
    exact ⟨rfl, rfl⟩
set_option maxHeartbeats 400000 in
theorem A_X7_redness (l : Launch) (g : Cx) (M : FMem) (ho w : Int) : AMi l g true fi_X7_redness [fr 0, fi ho, fi w] 93 M (fun r M2 => if ¬ (0 ≤ ho ∧ ho ≤ 9) then r = -1000001 ∧ M2 = M else if ¬ (-1 ≤ w ∧ w ≤ 99999) then r = -1000002 ∧ M2 = M else r = M 38 ho ∧ M2 = st M 38 ho w) := by
  refine AMi_intro [fr 0, fi ho, fi w, fu] (by decide) (knall rfl) (Nat.le_of_ble_eq_true rfl) rfl ?_
  intro hNV hM0 μ
  have bho : N32 ho := hNV (fi ho) (by simp)
  have bw : N32 w := hNV (fi w) (by simp)
  refine z_iload_n dX7_redness_0 rfl ?_
  refine z_callSip (n2 := 93) (A_X7_isHome l g M ho) cb_X7_isHome cl_X7_79 (clr0 rfl rfl (by decide) (by decide)) rfl (by decide) rfl (Nat.le_of_ble_eq_true rfl) rfl dX7_redness_1 (fun x1 bx1 hx1 => ?_)
  have i1 := if01 hx1
  refine z_if_ne (tgt := 10) dX7_redness_4 (by decide) (fun c2 => ?_) (fun c2 => ?_)
  · refine z_iload_n dX7_redness_10 rfl ?_
    refine z_iconst dX7_redness_11 ⟨by decide, by decide⟩ ?_
    refine z_icmp_eq (tgt := 28) dX7_redness_12 (by decide) (fun c3 => ?_) (fun c3 => ?_)
    · refine z_aload_nr dX7_redness_28 rfl ?_
      refine z_getr (b := 37) fl_X7_47 rfl (by decide) rf_0_5 rfl dX7_redness_29 ?_
      refine z_getr (b := 38) fl_X7_113 rfl (by decide) rf_37_0 rfl dX7_redness_32 ?_
      refine z_iload_n dX7_redness_35 rfl ?_
      refine z_iald rfl (by decide) (by omega) (by omega) dX7_redness_36 (fun x4 hx4 bx4 => ?_)
      refine z_istore_n (loc2 := [fr 0, fi ho, fi w, fi x4]) dX7_redness_37 (by decide) rfl ?_
      refine z_aload_nr dX7_redness_38 rfl ?_
      refine z_getr (b := 37) fl_X7_47 rfl (by decide) rf_0_5 rfl dX7_redness_39 ?_
      refine z_getr (b := 38) fl_X7_113 rfl (by decide) rf_37_0 rfl dX7_redness_42 ?_
      refine z_iload_n dX7_redness_45 rfl ?_
      refine z_iload_n dX7_redness_46 rfl ?_
      refine z_iast rfl (by decide) (by omega) (by omega) dX7_redness_47 (fun Mz5 hMz5 => ?_)
      refine z_iload_n dX7_redness_48 rfl ?_
      refine z_iret rfl (by decide) rfl (Nat.sub_self _) dX7_redness_49 ?_
      rw [if_neg (by omega), if_neg (by omega)]
      subst_vars
      exact ⟨rfl, rfl⟩
    · refine z_iload_n dX7_redness_15 rfl ?_
      refine z_iconst dX7_redness_16 ⟨by decide, by decide⟩ ?_
      refine z_ldc (c := 99999) cn_X7_112 ⟨by decide, by decide⟩ dX7_redness_17 ?_
      refine z_callSip (n2 := 93) (A_X7_isFrom l g M w 0 99999) cb_X7_isFrom cl_X7_83 (clr0 rfl rfl (by decide) (by decide)) rfl (by decide) rfl (Nat.le_of_ble_eq_true rfl) rfl dX7_redness_19 (fun x6 bx6 hx6 => ?_)
      have i6 := if01 hx6
      refine z_if_ne (tgt := 28) dX7_redness_22 (by decide) (fun c7 => ?_) (fun c7 => ?_)
      · refine z_aload_nr dX7_redness_28 rfl ?_
        refine z_getr (b := 37) fl_X7_47 rfl (by decide) rf_0_5 rfl dX7_redness_29 ?_
        refine z_getr (b := 38) fl_X7_113 rfl (by decide) rf_37_0 rfl dX7_redness_32 ?_
        refine z_iload_n dX7_redness_35 rfl ?_
        refine z_iald rfl (by decide) (by omega) (by omega) dX7_redness_36 (fun x8 hx8 bx8 => ?_)
        refine z_istore_n (loc2 := [fr 0, fi ho, fi w, fi x8]) dX7_redness_37 (by decide) rfl ?_
        refine z_aload_nr dX7_redness_38 rfl ?_
        refine z_getr (b := 37) fl_X7_47 rfl (by decide) rf_0_5 rfl dX7_redness_39 ?_
        refine z_getr (b := 38) fl_X7_113 rfl (by decide) rf_37_0 rfl dX7_redness_42 ?_
        refine z_iload_n dX7_redness_45 rfl ?_
        refine z_iload_n dX7_redness_46 rfl ?_
        refine z_iast rfl (by decide) (by omega) (by omega) dX7_redness_47 (fun Mz9 hMz9 => ?_)
        refine z_iload_n dX7_redness_48 rfl ?_
        refine z_iret rfl (by decide) rfl (Nat.sub_self _) dX7_redness_49 ?_
        rw [if_neg (by omega), if_neg (by omega)]
        subst_vars
        exact ⟨rfl, rfl⟩
      · refine z_ldc (c := -1000002) cn_X7_87 ⟨by decide, by decide⟩ dX7_redness_25 ?_
        refine z_iret rfl (by decide) rfl (Nat.sub_self _) dX7_redness_27 ?_
        rw [if_neg (by omega), if_pos (by omega)]
        exact ⟨rfl, rfl⟩
  · refine z_ldc (c := -1000001) cn_X7_82 ⟨by decide, by decide⟩ dX7_redness_7 ?_
    refine z_iret rfl (by decide) rfl (Nat.sub_self _) dX7_redness_9 ?_
    rw [if_pos (by omega)]
    exact ⟨rfl, rfl⟩
set_option maxHeartbeats 400000 in
theorem A_X7_leave (l : Launch) (g : Cx) (M : FMem) (i b : Int) (hb : b = 0 ∨ b = 1) (hs : 0 ≤ M 1 13 ∧ M 1 13 ≤ 80) : AMi l g true fi_X7_leave [fr 0, fi i, fi b] 93 M (fun r M2 => if ¬ (0 ≤ i ∧ i < M 1 13) then r = -1000001 ∧ M2 = M else r = M 10 i ∧ M2 = st M 10 i b) := by
  refine AMi_intro [fr 0, fi i, fi b, fu] (by decide) (knall rfl) (Nat.le_of_ble_eq_true rfl) rfl ?_
  intro hNV hM0 μ
  have bi : N32 i := hNV (fi i) (by simp)
  have bb : N32 b := hNV (fi b) (by simp)
  refine z_aload_nr dX7_leave_0 rfl ?_
  refine z_getr (b := 1) fl_X7_10 rfl (by decide) rf_0_0 rfl dX7_leave_1 ?_
  refine z_iload_n dX7_leave_4 rfl ?_
  refine z_callVip (n2 := 93) (A_X5_has l g M i) cb_X5_has cl_X7_116 (clr0 rfl rfl (by decide) (by decide)) rfl (by decide) ⟨_, rfl, rfl⟩ rfl (by decide) rfl (Nat.le_of_ble_eq_true rfl) rfl dX7_leave_5 (fun x1 bx1 hx1 => ?_)
  have i1 := if01 hx1
  refine z_if_ne (tgt := 14) dX7_leave_8 (by decide) (fun c2 => ?_) (fun c2 => ?_)
  · refine z_aload_nr dX7_leave_14 rfl ?_
    refine z_getr (b := 1) fl_X7_10 rfl (by decide) rf_0_0 rfl dX7_leave_15 ?_
    refine z_getr (b := 10) fl_X7_119 rfl (by decide) rf_1_8 rfl dX7_leave_18 ?_
    refine z_iload_n dX7_leave_21 rfl ?_
    refine z_zald rfl (by decide) (by omega) (by omega) dX7_leave_22 (fun x3 hx3 bx3 => ?_)
    refine z_callSip (n2 := 93) (A_X7_asNumber l g M x3 (by have := mok_z hM0 (a := 10) rfl i; omega)) cb_X7_asNumber cl_X7_123 (clr0 rfl rfl (by decide) (by decide)) rfl (by decide) rfl (Nat.le_of_ble_eq_true rfl) rfl dX7_leave_23 (fun x4 bx4 hx4 => ?_)
    have hasn := hx4
    refine z_istore_n (loc2 := [fr 0, fi i, fi b, fi x4]) dX7_leave_26 (by decide) rfl ?_
    refine z_aload_nr dX7_leave_27 rfl ?_
    refine z_getr (b := 1) fl_X7_10 rfl (by decide) rf_0_0 rfl dX7_leave_28 ?_
    refine z_getr (b := 10) fl_X7_119 rfl (by decide) rf_1_8 rfl dX7_leave_31 ?_
    refine z_iload_n dX7_leave_34 rfl ?_
    refine z_iload_n dX7_leave_35 rfl ?_
    refine z_zast rfl (by decide) (by omega) (by omega) (by omega) dX7_leave_36 (fun Mz5 hMz5 => ?_)
    refine z_iload_n dX7_leave_37 rfl ?_
    refine z_iret rfl (by decide) rfl (Nat.sub_self _) dX7_leave_38 ?_
    rw [if_neg (by omega)]
    refine ⟨by omega, ?_⟩
    subst_vars
    rfl
  · refine z_ldc (c := -1000001) cn_X7_82 ⟨by decide, by decide⟩ dX7_leave_11 ?_
    refine z_iret rfl (by decide) rfl (Nat.sub_self _) dX7_leave_13 ?_
    rw [if_pos (by omega)]
    exact ⟨rfl, rfl⟩
set_option maxHeartbeats 400000 in
theorem A_X3_setTime42 (l : Launch) (g : Cx) (M : FMem) (s u v : Int) (h : 0 ≤ s ∧ s < 6) : AMv l g true fi_X3_setTime [fr 42, fi s, fi u, fi v] 93 M (fun M2 => M2 = st (st M 43 s u) 44 s v) := by
  refine AMv_intro [fr 42, fi s, fi u, fi v] (by decide) (knall rfl) (Nat.le_of_ble_eq_true rfl) rfl ?_
  intro hNV hM0 μ
  have bs : N32 s := hNV (fi s) (by simp)
  have bu : N32 u := hNV (fi u) (by simp)
  have bv : N32 v := hNV (fi v) (by simp)
  refine z_aload_nr dX3_setTime_0 rfl ?_
  refine z_getr (b := 43) fl_X3_9 rfl (by decide) rf_42_0 rfl dX3_setTime_1 ?_
  refine z_iload_n dX3_setTime_4 rfl ?_
  refine z_iload_n dX3_setTime_5 rfl ?_
  refine z_iast rfl (by decide) (by omega) (by omega) dX3_setTime_6 (fun Mz1 hMz1 => ?_)
  refine z_aload_nr dX3_setTime_7 rfl ?_
  refine z_getr (b := 44) fl_X3_15 rfl (by decide) rf_42_1 rfl dX3_setTime_8 ?_
  refine z_iload_n dX3_setTime_11 rfl ?_
  refine z_iload_n dX3_setTime_12 rfl ?_
  refine z_iast rfl (by decide) (by omega) (by omega) dX3_setTime_13 (fun Mz2 hMz2 => ?_)
  refine z_vret rfl (by decide) rfl (Nat.sub_self _) dX3_setTime_14 ?_
  subst_vars
  rfl
set_option maxHeartbeats 400000 in
theorem A_X3_setColour42 (l : Launch) (g : Cx) (M : FMem) (s u v : Int) (h : 0 ≤ s ∧ s < 6) : AMv l g true fi_X3_setColour [fr 42, fi s, fi u, fi v] 93 M (fun M2 => M2 = st (st M 45 s u) 46 s v) := by
  refine AMv_intro [fr 42, fi s, fi u, fi v] (by decide) (knall rfl) (Nat.le_of_ble_eq_true rfl) rfl ?_
  intro hNV hM0 μ
  have bs : N32 s := hNV (fi s) (by simp)
  have bu : N32 u := hNV (fi u) (by simp)
  have bv : N32 v := hNV (fi v) (by simp)
  refine z_aload_nr dX3_setColour_0 rfl ?_
  refine z_getr (b := 45) fl_X3_18 rfl (by decide) rf_42_2 rfl dX3_setColour_1 ?_
  refine z_iload_n dX3_setColour_4 rfl ?_
  refine z_iload_n dX3_setColour_5 rfl ?_
  refine z_iast rfl (by decide) (by omega) (by omega) dX3_setColour_6 (fun Mz1 hMz1 => ?_)
  refine z_aload_nr dX3_setColour_7 rfl ?_
  refine z_getr (b := 46) fl_X3_21 rfl (by decide) rf_42_3 rfl dX3_setColour_8 ?_
  refine z_iload_n dX3_setColour_11 rfl ?_
  refine z_iload_n dX3_setColour_12 rfl ?_
  refine z_iast rfl (by decide) (by omega) (by omega) dX3_setColour_13 (fun Mz2 hMz2 => ?_)
  refine z_vret rfl (by decide) rfl (Nat.sub_self _) dX3_setColour_14 ?_
  subst_vars
  rfl
set_option maxHeartbeats 400000 in
theorem A_X3_addClaim42 (l : Launch) (g : Cx) (M : FMem) (ho ab mk : Int) (hb : ab = 0 ∨ ab = 1) (h : 0 ≤ M 42 11 ∧ M 42 11 < 8) : AMv l g true fi_X3_addClaim [fr 42, fi ho, fi ab, fi mk] 93 M (fun M2 => M2 = st (st (st (st M 48 (M 42 11) ho) 50 (M 42 11) ab) 49 (M 42 11) mk) 42 11 (M 42 11 + 1)) := by
  refine AMv_intro [fr 42, fi ho, fi ab, fi mk] (by decide) (knall rfl) (Nat.le_of_ble_eq_true rfl) rfl ?_
  intro hNV hM0 μ
  have bho : N32 ho := hNV (fi ho) (by simp)
  have bab : N32 ab := hNV (fi ab) (by simp)
  have bmk : N32 mk := hNV (fi mk) (by simp)
  refine z_aload_nr dX3_addClaim_0 rfl ?_
  refine z_geti (kz := 11) fl_X3_47 rfl (by decide) rfl dX3_addClaim_1 (fun x1 hx1 bx1 => ?_)
  refine z_bipush dX3_addClaim_4 ⟨by decide, by decide⟩ (by decide) ?_
  refine z_icmp_ge (tgt := 49) dX3_addClaim_6 (by decide) (fun c2 => ?_) (fun c2 => ?_)
  · exfalso; omega
  · refine z_aload_nr dX3_addClaim_9 rfl ?_
    refine z_getr (b := 48) fl_X3_37 rfl (by decide) rf_42_8 rfl dX3_addClaim_10 ?_
    refine z_aload_nr dX3_addClaim_13 rfl ?_
    refine z_geti (kz := 11) fl_X3_47 rfl (by decide) rfl dX3_addClaim_14 (fun x3 hx3 bx3 => ?_)
    refine z_iload_n dX3_addClaim_17 rfl ?_
    refine z_iast rfl (by decide) (by omega) (by omega) dX3_addClaim_18 (fun Mz4 hMz4 => ?_)
    refine z_aload_nr dX3_addClaim_19 rfl ?_
    refine z_getr (b := 50) fl_X3_43 rfl (by decide) rf_42_10 rfl dX3_addClaim_20 ?_
    refine z_aload_nr dX3_addClaim_23 rfl ?_
    refine z_geti (kz := 11) fl_X3_47 rfl (by decide) rfl dX3_addClaim_24 (fun x5 hx5 bx5 => ?_)
    rw [hMz4, st_cell (by decide)] at hx5
    refine z_iload_n dX3_addClaim_27 rfl ?_
    refine z_zast rfl (by decide) (by omega) (by omega) (by omega) dX3_addClaim_28 (fun Mz6 hMz6 => ?_)
    refine z_aload_nr dX3_addClaim_29 rfl ?_
    refine z_getr (b := 49) fl_X3_40 rfl (by decide) rf_42_9 rfl dX3_addClaim_30 ?_
    refine z_aload_nr dX3_addClaim_33 rfl ?_
    refine z_geti (kz := 11) fl_X3_47 rfl (by decide) rfl dX3_addClaim_34 (fun x7 hx7 bx7 => ?_)
    rw [hMz6, st_cell (by decide), hMz4, st_cell (by decide)] at hx7
    refine z_iload_n dX3_addClaim_37 rfl ?_
    refine z_iast rfl (by decide) (by omega) (by omega) dX3_addClaim_38 (fun Mz8 hMz8 => ?_)
    refine z_aload_nr dX3_addClaim_39 rfl ?_
    refine z_dup rfl dX3_addClaim_40 ?_
    refine z_geti (kz := 11) fl_X3_47 rfl (by decide) rfl dX3_addClaim_41 (fun x9 hx9 bx9 => ?_)
    rw [hMz8, st_cell (by decide), hMz6, st_cell (by decide), hMz4, st_cell (by decide)] at hx9
    refine z_iconst dX3_addClaim_44 ⟨by decide, by decide⟩ ?_
    first | refine z_iaddN dX3_addClaim_45 (by omega) (fun x10 hx10 => ?_) | refine z_iadd dX3_addClaim_45 (fun x10 hx10 => ?_)
    refine z_puti (kz := 11) fl_X3_47 rfl (by decide) rfl nr_42_11 dX3_addClaim_46 (fun Mz11 hMz11 => ?_)
    refine z_vret rfl (by decide) rfl (Nat.sub_self _) dX3_addClaim_49 ?_
    subst_vars
    rfl
set_option maxHeartbeats 400000 in
theorem A_X3_setTime51 (l : Launch) (g : Cx) (M : FMem) (s u v : Int) (h : 0 ≤ s ∧ s < 6) : AMv l g true fi_X3_setTime [fr 51, fi s, fi u, fi v] 93 M (fun M2 => M2 = st (st M 52 s u) 53 s v) := by
  refine AMv_intro [fr 51, fi s, fi u, fi v] (by decide) (knall rfl) (Nat.le_of_ble_eq_true rfl) rfl ?_
  intro hNV hM0 μ
  have bs : N32 s := hNV (fi s) (by simp)
  have bu : N32 u := hNV (fi u) (by simp)
  have bv : N32 v := hNV (fi v) (by simp)
  refine z_aload_nr dX3_setTime_0 rfl ?_
  refine z_getr (b := 52) fl_X3_9 rfl (by decide) rf_51_0 rfl dX3_setTime_1 ?_
  refine z_iload_n dX3_setTime_4 rfl ?_
  refine z_iload_n dX3_setTime_5 rfl ?_
  refine z_iast rfl (by decide) (by omega) (by omega) dX3_setTime_6 (fun Mz1 hMz1 => ?_)
  refine z_aload_nr dX3_setTime_7 rfl ?_
  refine z_getr (b := 53) fl_X3_15 rfl (by decide) rf_51_1 rfl dX3_setTime_8 ?_
  refine z_iload_n dX3_setTime_11 rfl ?_
  refine z_iload_n dX3_setTime_12 rfl ?_
  refine z_iast rfl (by decide) (by omega) (by omega) dX3_setTime_13 (fun Mz2 hMz2 => ?_)
  refine z_vret rfl (by decide) rfl (Nat.sub_self _) dX3_setTime_14 ?_
  subst_vars
  rfl
set_option maxHeartbeats 400000 in
theorem A_X3_setColour51 (l : Launch) (g : Cx) (M : FMem) (s u v : Int) (h : 0 ≤ s ∧ s < 6) : AMv l g true fi_X3_setColour [fr 51, fi s, fi u, fi v] 93 M (fun M2 => M2 = st (st M 54 s u) 55 s v) := by
  refine AMv_intro [fr 51, fi s, fi u, fi v] (by decide) (knall rfl) (Nat.le_of_ble_eq_true rfl) rfl ?_
  intro hNV hM0 μ
  have bs : N32 s := hNV (fi s) (by simp)
  have bu : N32 u := hNV (fi u) (by simp)
  have bv : N32 v := hNV (fi v) (by simp)
  refine z_aload_nr dX3_setColour_0 rfl ?_
  refine z_getr (b := 54) fl_X3_18 rfl (by decide) rf_51_2 rfl dX3_setColour_1 ?_
  refine z_iload_n dX3_setColour_4 rfl ?_
  refine z_iload_n dX3_setColour_5 rfl ?_
  refine z_iast rfl (by decide) (by omega) (by omega) dX3_setColour_6 (fun Mz1 hMz1 => ?_)
  refine z_aload_nr dX3_setColour_7 rfl ?_
  refine z_getr (b := 55) fl_X3_21 rfl (by decide) rf_51_3 rfl dX3_setColour_8 ?_
  refine z_iload_n dX3_setColour_11 rfl ?_
  refine z_iload_n dX3_setColour_12 rfl ?_
  refine z_iast rfl (by decide) (by omega) (by omega) dX3_setColour_13 (fun Mz2 hMz2 => ?_)
  refine z_vret rfl (by decide) rfl (Nat.sub_self _) dX3_setColour_14 ?_
  subst_vars
  rfl
set_option maxHeartbeats 400000 in
theorem A_X3_addClaim51 (l : Launch) (g : Cx) (M : FMem) (ho ab mk : Int) (hb : ab = 0 ∨ ab = 1) (h : 0 ≤ M 51 11 ∧ M 51 11 < 8) : AMv l g true fi_X3_addClaim [fr 51, fi ho, fi ab, fi mk] 93 M (fun M2 => M2 = st (st (st (st M 57 (M 51 11) ho) 59 (M 51 11) ab) 58 (M 51 11) mk) 51 11 (M 51 11 + 1)) := by
  refine AMv_intro [fr 51, fi ho, fi ab, fi mk] (by decide) (knall rfl) (Nat.le_of_ble_eq_true rfl) rfl ?_
  intro hNV hM0 μ
  have bho : N32 ho := hNV (fi ho) (by simp)
  have bab : N32 ab := hNV (fi ab) (by simp)
  have bmk : N32 mk := hNV (fi mk) (by simp)
  refine z_aload_nr dX3_addClaim_0 rfl ?_
  refine z_geti (kz := 11) fl_X3_47 rfl (by decide) rfl dX3_addClaim_1 (fun x1 hx1 bx1 => ?_)
  refine z_bipush dX3_addClaim_4 ⟨by decide, by decide⟩ (by decide) ?_
  refine z_icmp_ge (tgt := 49) dX3_addClaim_6 (by decide) (fun c2 => ?_) (fun c2 => ?_)
  · exfalso; omega
  · refine z_aload_nr dX3_addClaim_9 rfl ?_
    refine z_getr (b := 57) fl_X3_37 rfl (by decide) rf_51_8 rfl dX3_addClaim_10 ?_
    refine z_aload_nr dX3_addClaim_13 rfl ?_
    refine z_geti (kz := 11) fl_X3_47 rfl (by decide) rfl dX3_addClaim_14 (fun x3 hx3 bx3 => ?_)
    refine z_iload_n dX3_addClaim_17 rfl ?_
    refine z_iast rfl (by decide) (by omega) (by omega) dX3_addClaim_18 (fun Mz4 hMz4 => ?_)
    refine z_aload_nr dX3_addClaim_19 rfl ?_
    refine z_getr (b := 59) fl_X3_43 rfl (by decide) rf_51_10 rfl dX3_addClaim_20 ?_
    refine z_aload_nr dX3_addClaim_23 rfl ?_
    refine z_geti (kz := 11) fl_X3_47 rfl (by decide) rfl dX3_addClaim_24 (fun x5 hx5 bx5 => ?_)
    rw [hMz4, st_cell (by decide)] at hx5
    refine z_iload_n dX3_addClaim_27 rfl ?_
    refine z_zast rfl (by decide) (by omega) (by omega) (by omega) dX3_addClaim_28 (fun Mz6 hMz6 => ?_)
    refine z_aload_nr dX3_addClaim_29 rfl ?_
    refine z_getr (b := 58) fl_X3_40 rfl (by decide) rf_51_9 rfl dX3_addClaim_30 ?_
    refine z_aload_nr dX3_addClaim_33 rfl ?_
    refine z_geti (kz := 11) fl_X3_47 rfl (by decide) rfl dX3_addClaim_34 (fun x7 hx7 bx7 => ?_)
    rw [hMz6, st_cell (by decide), hMz4, st_cell (by decide)] at hx7
    refine z_iload_n dX3_addClaim_37 rfl ?_
    refine z_iast rfl (by decide) (by omega) (by omega) dX3_addClaim_38 (fun Mz8 hMz8 => ?_)
    refine z_aload_nr dX3_addClaim_39 rfl ?_
    refine z_dup rfl dX3_addClaim_40 ?_
    refine z_geti (kz := 11) fl_X3_47 rfl (by decide) rfl dX3_addClaim_41 (fun x9 hx9 bx9 => ?_)
    rw [hMz8, st_cell (by decide), hMz6, st_cell (by decide), hMz4, st_cell (by decide)] at hx9
    refine z_iconst dX3_addClaim_44 ⟨by decide, by decide⟩ ?_
    first | refine z_iaddN dX3_addClaim_45 (by omega) (fun x10 hx10 => ?_) | refine z_iadd dX3_addClaim_45 (fun x10 hx10 => ?_)
    refine z_puti (kz := 11) fl_X3_47 rfl (by decide) rfl nr_51_11 dX3_addClaim_46 (fun Mz11 hMz11 => ?_)
    refine z_vret rfl (by decide) rfl (Nat.sub_self _) dX3_addClaim_49 ?_
    subst_vars
    rfl
