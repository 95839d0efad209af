set_option maxHeartbeats 400000 in
theorem A_X7_undo (l : Launch) (g : Cx) (M : FMem) (hs : 0 ≤ M 1 13 ∧ M 1 13 ≤ 80) (hc : 0 ≤ M 1 11 ∧ (M 1 11 < 80 ∨ ∀ j, 0 ≤ j → j < M 1 13 → M 11 j = 1)) : AMi l g true fi_X7_undo [fr 0] 93 M (fun r M2 => (∃ i, 0 ≤ i ∧ i < M 1 13 ∧ M 11 i = 0 ∧ (∀ j, i < j → j < M 1 13 → M 11 j = 1) ∧ r = i ∧ M2 = st (st (st M 11 i 1) 12 (M 1 11) i) 1 11 (M 1 11 + 1)) ∨ ((∀ j, 0 ≤ j → j < M 1 13 → M 11 j = 1) ∧ r = -1000003 ∧ M2 = M)) := by
  refine AMi_intro [fr 0, fu] (by decide) (knall rfl) (Nat.le_of_ble_eq_true rfl) rfl ?_
  intro hNV hM0 μ
  refine z_aload_nr dX7_undo_0 rfl ?_
  refine z_getr (b := 1) fl_X7_10 rfl (by decide) rf_0_0 rfl dX7_undo_1 ?_
  refine z_callVi (n2 := 93) (A_X5_takeBack l g M (hs) (hc)) cb_X5_takeBack cl_X7_127 (clr0 rfl rfl (by decide) (by decide)) rfl (by decide) ⟨_, rfl, rfl⟩ rfl (by decide) rfl (Nat.le_of_ble_eq_true rfl) rfl dX7_undo_4 (fun x1 Mz1 bx1 kMz1 hc1 => ?_)
  have htb := hc1
  refine z_istore_n (loc2 := [fr 0, fi x1]) dX7_undo_7 (by decide) rfl ?_
  refine z_iload_n dX7_undo_8 rfl ?_
  refine z_iconst dX7_undo_9 ⟨by decide, by decide⟩ ?_
  refine z_icmp_ne (tgt := 18) dX7_undo_10 (by decide) (fun c2 => ?_) (fun c2 => ?_)
  · refine z_iload_n dX7_undo_18 rfl ?_
    refine z_iret rfl (by decide) rfl (Nat.sub_self _) dX7_undo_19 ?_
    rcases htb with ⟨i, h1, h2, h3, h4, h5, h6⟩ | ⟨h1, h2, h3⟩
    · first | (exfalso; omega) | exact Or.inl ⟨i, h1, h2, h3, h4, h5, h6⟩
    · first | (exfalso; omega) | exact Or.inr ⟨h1, rfl, h3⟩
  · refine z_ldc (c := -1000003) cn_X7_131 ⟨by decide, by decide⟩ dX7_undo_13 ?_
    refine z_goto (tgt := 19) dX7_undo_15 (by decide) ?_
    refine z_iret rfl (by decide) rfl (Nat.sub_self _) dX7_undo_19 ?_
    rcases htb with ⟨i, h1, h2, h3, h4, h5, h6⟩ | ⟨h1, h2, h3⟩
    · first | (exfalso; omega) | exact Or.inl ⟨i, h1, h2, h3, h4, h5, h6⟩
    · first | (exfalso; omega) | exact Or.inr ⟨h1, rfl, h3⟩
set_option maxHeartbeats 400000 in
theorem A_X7_redo (l : Launch) (g : Cx) (M : FMem) (hs : ∀ j, 0 ≤ j → j < M 1 11 → 0 ≤ M 12 j ∧ M 12 j < 80) (hc : M 1 11 ≤ 80) : AMi l g true fi_X7_redo [fr 0] 93 M (fun r M2 => if M 1 11 ≤ 0 then r = -1000003 ∧ M2 = M else r = M 12 (M 1 11 - 1) ∧ M2 = st (st M 1 11 (M 1 11 - 1)) 11 (M 12 (M 1 11 - 1)) 0) := by
  refine AMi_intro [fr 0, fu] (by decide) (knall rfl) (Nat.le_of_ble_eq_true rfl) rfl ?_
  intro hNV hM0 μ
  refine z_aload_nr dX7_redo_0 rfl ?_
  refine z_getr (b := 1) fl_X7_10 rfl (by decide) rf_0_0 rfl dX7_redo_1 ?_
  refine z_callVi (n2 := 93) (A_X5_putBack l g M (hs) (hc)) cb_X5_putBack cl_X7_132 (clr0 rfl rfl (by decide) (by decide)) rfl (by decide) ⟨_, rfl, rfl⟩ rfl (by decide) rfl (Nat.le_of_ble_eq_true rfl) rfl dX7_redo_4 (fun x1 Mz1 bx1 kMz1 hc1 => ?_)
  have htb := hc1
  refine z_istore_n (loc2 := [fr 0, fi x1]) dX7_redo_7 (by decide) rfl ?_
  refine z_iload_n dX7_redo_8 rfl ?_
  refine z_iconst dX7_redo_9 ⟨by decide, by decide⟩ ?_
  refine z_icmp_ne (tgt := 18) dX7_redo_10 (by decide) (fun c2 => ?_) (fun c2 => ?_)
  · refine z_iload_n dX7_redo_18 rfl ?_
    refine z_iret rfl (by decide) rfl (Nat.sub_self _) dX7_redo_19 ?_
    by_cases hz : M 1 11 ≤ 0
    · rw [if_pos hz] at htb ⊢
      first | (exfalso; omega) | exact ⟨rfl, htb.2⟩
    · rw [if_neg hz] at htb ⊢
      have := hs (M 1 11 - 1) (by omega) (by omega)
      first | (exfalso; omega) | exact htb
  · refine z_ldc (c := -1000003) cn_X7_131 ⟨by decide, by decide⟩ dX7_redo_13 ?_
    refine z_goto (tgt := 19) dX7_redo_15 (by decide) ?_
    refine z_iret rfl (by decide) rfl (Nat.sub_self _) dX7_redo_19 ?_
    by_cases hz : M 1 11 ≤ 0
    · rw [if_pos hz] at htb ⊢
      first | (exfalso; omega) | exact ⟨rfl, htb.2⟩
    · rw [if_neg hz] at htb ⊢
      have := hs (M 1 11 - 1) (by omega) (by omega)
      first | (exfalso; omega) | exact htb
/-- the rules as at first -/
def setF (M : FMem) (r : Nat) : FMem := fun b j => if (b = r + 1 ∨ b = r + 2 ∨ b = r + 3 ∨ b = r + 4 ∨ b = r + 5) ∧ 0 ≤ j ∧ j < 6 then 0 else if b = r ∧ (j = 5 ∨ j = 6) then 31 else if b = r ∧ (j = 7 ∨ j = 11) then 0 else M b j
set_option maxHeartbeats 400000 in
theorem A_X3_setAsAtFirst42 (l : Launch) (g : Cx) (M : FMem)  : AMv l g true fi_X3_setAsAtFirst [fr 42] 93 M (fun M2 => M2 = setF M 42) := by
  refine AMv_intro [fr 42, fu] (by decide) (knall rfl) (Nat.le_of_ble_eq_true rfl) rfl ?_
  intro hNV hM0 μ
  have lp44 : ∀ (kq : Nat) (i : Int) (M1 : FMem), (6 - i).toNat = kq → (0 ≤ i ∧ i ≤ 6) → (∀ b j, M1 b j = if ((b = 43 ∨ b = 44 ∨ b = 45 ∨ b = 46) ∧ 0 ≤ j ∧ j < 6) ∨ (b = 47 ∧ 0 ≤ j ∧ j < i) then 0 else M b j) → Wa l g true fi_X3_setAsAtFirst 93 μ (Zv g true fi_X3_setAsAtFirst 93 μ (fun M2 => M2 = setF M 42)) 44 [] [fr 42, fi i] 93 M1 := by
    intro kq
    induction kq using Nat.strongRecOn with
    | _ kq ih44 =>
    intro i M1 hk44 h0 h1
    refine z_iload_n dX3_setAsAtFirst_44 rfl ?_
    refine z_bipush dX3_setAsAtFirst_45 ⟨by decide, by decide⟩ (by decide) ?_
    refine z_icmp_ge (tgt := 63) dX3_setAsAtFirst_47 (by decide) (fun c1 => ?_) (fun c1 => ?_)
    · refine z_aload_nr dX3_setAsAtFirst_63 rfl ?_
      refine z_bipush dX3_setAsAtFirst_64 ⟨by decide, by decide⟩ (by decide) ?_
      refine z_puti (kz := 5) fl_X3_27 rfl (by decide) rfl nr_42_5 dX3_setAsAtFirst_66 (fun Mz2 hMz2 => ?_)
      refine z_aload_nr dX3_setAsAtFirst_69 rfl ?_
      refine z_bipush dX3_setAsAtFirst_70 ⟨by decide, by decide⟩ (by decide) ?_
      refine z_puti (kz := 6) fl_X3_31 rfl (by decide) rfl nr_42_6 dX3_setAsAtFirst_72 (fun Mz3 hMz3 => ?_)
      refine z_aload_nr dX3_setAsAtFirst_75 rfl ?_
      refine z_iconst dX3_setAsAtFirst_76 ⟨by decide, by decide⟩ ?_
      refine z_puti (kz := 7) fl_X3_34 rfl (by decide) rfl nr_42_7 dX3_setAsAtFirst_77 (fun Mz4 hMz4 => ?_)
      refine z_aload_nr dX3_setAsAtFirst_80 rfl ?_
      refine z_iconst dX3_setAsAtFirst_81 ⟨by decide, by decide⟩ ?_
      refine z_puti (kz := 11) fl_X3_47 rfl (by decide) rfl nr_42_11 dX3_setAsAtFirst_82 (fun Mz5 hMz5 => ?_)
      refine z_vret rfl (by decide) rfl (Nat.sub_self _) dX3_setAsAtFirst_85 ?_
      funext b j
      rw [hMz5, hMz4, hMz3, hMz2]
      have hz := h1 b j
      unfold setF
      simp only [st, Nat.reduceAdd]
      by_cases e0 : b = 42
      · subst e0
        rw [if_neg (show ¬ _ by omega)] at hz
        by_cases e1 : j = 5
        · subst e1; simp
        · by_cases e2 : j = 6
          · subst e2; simp
          · by_cases e3 : j = 7
            · subst e3; simp
            · by_cases e4 : j = 11
              · subst e4; simp
              · simp [e1, e2, e3, e4, hz]
      · rw [if_neg (by omega), if_neg (by omega), if_neg (by omega), if_neg (by omega), hz]
        by_cases e1 : (b = 43 ∨ b = 44 ∨ b = 45 ∨ b = 46 ∨ b = 47) ∧ 0 ≤ j ∧ j < 6
        · rw [if_pos (by omega), if_pos e1]
        · rw [if_neg (by omega), if_neg e1, if_neg (by omega), if_neg (by omega)]
    · refine z_aload_nr dX3_setAsAtFirst_50 rfl ?_
      refine z_getr (b := 47) fl_X3_24 rfl (by decide) rf_42_4 rfl dX3_setAsAtFirst_51 ?_
      refine z_iload_n dX3_setAsAtFirst_54 rfl ?_
      refine z_iconst dX3_setAsAtFirst_55 ⟨by decide, by decide⟩ ?_
      refine z_iast rfl (by decide) (by omega) (by omega) dX3_setAsAtFirst_56 (fun Mz6 hMz6 => ?_)
      refine z_iinc (loc2 := fun vq => [fr 42, fi vq]) dX3_setAsAtFirst_57 rfl (by decide) (by omega) (fun _ => rfl) (fun x7 hx7 => ?_)
      refine z_goto (tgt := 44) dX3_setAsAtFirst_60 (by decide) ?_
      have hnew : ∀ b j, Mz6 b j = if ((b = 43 ∨ b = 44 ∨ b = 45 ∨ b = 46) ∧ 0 ≤ j ∧ j < 6) ∨ (b = 47 ∧ 0 ≤ j ∧ j < i + 1) then 0 else M b j := by
        intro b j
        rw [hMz6]
        unfold st
        by_cases e : b = 47 ∧ j = i
        · rw [if_pos e, if_pos (by omega)]
        · rw [if_neg e, h1]
          congr 1
          apply propext
          omega
      exact ih44 _ (by omega) x7 Mz6 rfl (by omega) (by rw [hx7]; exact hnew)
  have lp2 : ∀ (kq : Nat) (i : Int) (M1 : FMem), (6 - i).toNat = kq → (0 ≤ i ∧ i ≤ 6) → (∀ b j, M1 b j = if ((b = 43 ∨ b = 44 ∨ b = 45 ∨ b = 46) ∧ 0 ≤ j ∧ j < i) then 0 else M b j) → Wa l g true fi_X3_setAsAtFirst 93 μ (Zv g true fi_X3_setAsAtFirst 93 μ (fun M2 => M2 = setF M 42)) 2 [] [fr 42, fi i] 93 M1 := by
    intro kq
    induction kq using Nat.strongRecOn with
    | _ kq ih2 =>
    intro i M1 hk2 h0 h1
    refine z_iload_n dX3_setAsAtFirst_2 rfl ?_
    refine z_bipush dX3_setAsAtFirst_3 ⟨by decide, by decide⟩ (by decide) ?_
    refine z_icmp_ge (tgt := 42) dX3_setAsAtFirst_5 (by decide) (fun c8 => ?_) (fun c8 => ?_)
    · have h6 : i = 6 := by omega
      rw [h6] at h1
      refine z_iconst dX3_setAsAtFirst_42 ⟨by decide, by decide⟩ ?_
      refine z_istore_n (loc2 := [fr 42, fi 0]) dX3_setAsAtFirst_43 (by decide) rfl ?_
      exact lp44 _ 0 M1 rfl (by omega) (fun b j => by rw [h1]; congr 1; apply propext; omega)
    · refine z_aload_nr dX3_setAsAtFirst_8 rfl ?_
      refine z_getr (b := 43) fl_X3_9 rfl (by decide) rf_42_0 rfl dX3_setAsAtFirst_9 ?_
      refine z_iload_n dX3_setAsAtFirst_12 rfl ?_
      refine z_iconst dX3_setAsAtFirst_13 ⟨by decide, by decide⟩ ?_
      refine z_iast rfl (by decide) (by omega) (by omega) dX3_setAsAtFirst_14 (fun Mz9 hMz9 => ?_)
      refine z_aload_nr dX3_setAsAtFirst_15 rfl ?_
      refine z_getr (b := 44) fl_X3_15 rfl (by decide) rf_42_1 rfl dX3_setAsAtFirst_16 ?_
      refine z_iload_n dX3_setAsAtFirst_19 rfl ?_
      refine z_iconst dX3_setAsAtFirst_20 ⟨by decide, by decide⟩ ?_
      refine z_iast rfl (by decide) (by omega) (by omega) dX3_setAsAtFirst_21 (fun Mz10 hMz10 => ?_)
      refine z_aload_nr dX3_setAsAtFirst_22 rfl ?_
      refine z_getr (b := 45) fl_X3_18 rfl (by decide) rf_42_2 rfl dX3_setAsAtFirst_23 ?_
      refine z_iload_n dX3_setAsAtFirst_26 rfl ?_
      refine z_iconst dX3_setAsAtFirst_27 ⟨by decide, by decide⟩ ?_
      refine z_iast rfl (by decide) (by omega) (by omega) dX3_setAsAtFirst_28 (fun Mz11 hMz11 => ?_)
      refine z_aload_nr dX3_setAsAtFirst_29 rfl ?_
      refine z_getr (b := 46) fl_X3_21 rfl (by decide) rf_42_3 rfl dX3_setAsAtFirst_30 ?_
      refine z_iload_n dX3_setAsAtFirst_33 rfl ?_
      refine z_iconst dX3_setAsAtFirst_34 ⟨by decide, by decide⟩ ?_
      refine z_iast rfl (by decide) (by omega) (by omega) dX3_setAsAtFirst_35 (fun Mz12 hMz12 => ?_)
      refine z_iinc (loc2 := fun vq => [fr 42, fi vq]) dX3_setAsAtFirst_36 rfl (by decide) (by omega) (fun _ => rfl) (fun x13 hx13 => ?_)
      refine z_goto (tgt := 2) dX3_setAsAtFirst_39 (by decide) ?_
      have hnew : ∀ b j, Mz12 b j = if ((b = 43 ∨ b = 44 ∨ b = 45 ∨ b = 46) ∧ 0 ≤ j ∧ j < i + 1) then 0 else M b j := by
        intro b j
        rw [hMz12, hMz11, hMz10, hMz9]
        simp only [st]
        rw [h1]
        by_cases e : (b = 43 ∨ b = 44 ∨ b = 45 ∨ b = 46) ∧ 0 ≤ j ∧ j < i + 1
        · rw [if_pos e]
          by_cases e2 : j = i
          · obtain ⟨e3 | e3 | e3 | e3, -⟩ := e <;> simp [e2, e3]
          · rw [if_neg (by omega), if_neg (by omega), if_neg (by omega), if_neg (by omega), if_pos (by omega)]
        · rw [if_neg e, if_neg (by omega), if_neg (by omega), if_neg (by omega), if_neg (by omega), if_neg (by omega)]
      exact ih2 _ (by omega) x13 Mz12 rfl (by omega) (by rw [hx13]; exact hnew)
  refine z_iconst dX3_setAsAtFirst_0 ⟨by decide, by decide⟩ ?_
  refine z_istore_n (loc2 := [fr 42, fi 0]) dX3_setAsAtFirst_1 (by decide) rfl ?_
  exact lp2 _ 0 M rfl (by omega) (fun b j => by rw [if_neg (by omega)])
set_option maxHeartbeats 400000 in
theorem A_X3_setAsAtFirst51 (l : Launch) (g : Cx) (M : FMem)  : AMv l g true fi_X3_setAsAtFirst [fr 51] 93 M (fun M2 => M2 = setF M 51) := by
  refine AMv_intro [fr 51, fu] (by decide) (knall rfl) (Nat.le_of_ble_eq_true rfl) rfl ?_
  intro hNV hM0 μ
  have lp44 : ∀ (kq : Nat) (i : Int) (M1 : FMem), (6 - i).toNat = kq → (0 ≤ i ∧ i ≤ 6) → (∀ b j, M1 b j = if ((b = 52 ∨ b = 53 ∨ b = 54 ∨ b = 55) ∧ 0 ≤ j ∧ j < 6) ∨ (b = 56 ∧ 0 ≤ j ∧ j < i) then 0 else M b j) → Wa l g true fi_X3_setAsAtFirst 93 μ (Zv g true fi_X3_setAsAtFirst 93 μ (fun M2 => M2 = setF M 51)) 44 [] [fr 51, fi i] 93 M1 := by
    intro kq
    induction kq using Nat.strongRecOn with
    | _ kq ih44 =>
    intro i M1 hk44 h0 h1
    refine z_iload_n dX3_setAsAtFirst_44 rfl ?_
    refine z_bipush dX3_setAsAtFirst_45 ⟨by decide, by decide⟩ (by decide) ?_
    refine z_icmp_ge (tgt := 63) dX3_setAsAtFirst_47 (by decide) (fun c1 => ?_) (fun c1 => ?_)
    · refine z_aload_nr dX3_setAsAtFirst_63 rfl ?_
      refine z_bipush dX3_setAsAtFirst_64 ⟨by decide, by decide⟩ (by decide) ?_
      refine z_puti (kz := 5) fl_X3_27 rfl (by decide) rfl nr_51_5 dX3_setAsAtFirst_66 (fun Mz2 hMz2 => ?_)
      refine z_aload_nr dX3_setAsAtFirst_69 rfl ?_
      refine z_bipush dX3_setAsAtFirst_70 ⟨by decide, by decide⟩ (by decide) ?_
      refine z_puti (kz := 6) fl_X3_31 rfl (by decide) rfl nr_51_6 dX3_setAsAtFirst_72 (fun Mz3 hMz3 => ?_)
      refine z_aload_nr dX3_setAsAtFirst_75 rfl ?_
      refine z_iconst dX3_setAsAtFirst_76 ⟨by decide, by decide⟩ ?_
      refine z_puti (kz := 7) fl_X3_34 rfl (by decide) rfl nr_51_7 dX3_setAsAtFirst_77 (fun Mz4 hMz4 => ?_)
      refine z_aload_nr dX3_setAsAtFirst_80 rfl ?_
      refine z_iconst dX3_setAsAtFirst_81 ⟨by decide, by decide⟩ ?_
      refine z_puti (kz := 11) fl_X3_47 rfl (by decide) rfl nr_51_11 dX3_setAsAtFirst_82 (fun Mz5 hMz5 => ?_)
      refine z_vret rfl (by decide) rfl (Nat.sub_self _) dX3_setAsAtFirst_85 ?_
      funext b j
      rw [hMz5, hMz4, hMz3, hMz2]
      have hz := h1 b j
      unfold setF
      simp only [st, Nat.reduceAdd]
      by_cases e0 : b = 51
      · subst e0
        rw [if_neg (show ¬ _ by omega)] at hz
        by_cases e1 : j = 5
        · subst e1; simp
        · by_cases e2 : j = 6
          · subst e2; simp
          · by_cases e3 : j = 7
            · subst e3; simp
            · by_cases e4 : j = 11
              · subst e4; simp
              · simp [e1, e2, e3, e4, hz]
      · rw [if_neg (by omega), if_neg (by omega), if_neg (by omega), if_neg (by omega), hz]
        by_cases e1 : (b = 52 ∨ b = 53 ∨ b = 54 ∨ b = 55 ∨ b = 56) ∧ 0 ≤ j ∧ j < 6
        · rw [if_pos (by omega), if_pos e1]
        · rw [if_neg (by omega), if_neg e1, if_neg (by omega), if_neg (by omega)]
    · refine z_aload_nr dX3_setAsAtFirst_50 rfl ?_
      refine z_getr (b := 56) fl_X3_24 rfl (by decide) rf_51_4 rfl dX3_setAsAtFirst_51 ?_
      refine z_iload_n dX3_setAsAtFirst_54 rfl ?_
      refine z_iconst dX3_setAsAtFirst_55 ⟨by decide, by decide⟩ ?_
      refine z_iast rfl (by decide) (by omega) (by omega) dX3_setAsAtFirst_56 (fun Mz6 hMz6 => ?_)
      refine z_iinc (loc2 := fun vq => [fr 51, fi vq]) dX3_setAsAtFirst_57 rfl (by decide) (by omega) (fun _ => rfl) (fun x7 hx7 => ?_)
      refine z_goto (tgt := 44) dX3_setAsAtFirst_60 (by decide) ?_
      have hnew : ∀ b j, Mz6 b j = if ((b = 52 ∨ b = 53 ∨ b = 54 ∨ b = 55) ∧ 0 ≤ j ∧ j < 6) ∨ (b = 56 ∧ 0 ≤ j ∧ j < i + 1) then 0 else M b j := by
        intro b j
        rw [hMz6]
        unfold st
        by_cases e : b = 56 ∧ j = i
        · rw [if_pos e, if_pos (by omega)]
        · rw [if_neg e, h1]
          congr 1
          apply propext
          omega
      exact ih44 _ (by omega) x7 Mz6 rfl (by omega) (by rw [hx7]; exact hnew)
  have lp2 : ∀ (kq : Nat) (i : Int) (M1 : FMem), (6 - i).toNat = kq → (0 ≤ i ∧ i ≤ 6) → (∀ b j, M1 b j = if ((b = 52 ∨ b = 53 ∨ b = 54 ∨ b = 55) ∧ 0 ≤ j ∧ j < i) then 0 else M b j) → Wa l g true fi_X3_setAsAtFirst 93 μ (Zv g true fi_X3_setAsAtFirst 93 μ (fun M2 => M2 = setF M 51)) 2 [] [fr 51, fi i] 93 M1 := by
    intro kq
    induction kq using Nat.strongRecOn with
    | _ kq ih2 =>
    intro i M1 hk2 h0 h1
    refine z_iload_n dX3_setAsAtFirst_2 rfl ?_
    refine z_bipush dX3_setAsAtFirst_3 ⟨by decide, by decide⟩ (by decide) ?_
    refine z_icmp_ge (tgt := 42) dX3_setAsAtFirst_5 (by decide) (fun c8 => ?_) (fun c8 => ?_)
    · have h6 : i = 6 := by omega
      rw [h6] at h1
      refine z_iconst dX3_setAsAtFirst_42 ⟨by decide, by decide⟩ ?_
      refine z_istore_n (loc2 := [fr 51, fi 0]) dX3_setAsAtFirst_43 (by decide) rfl ?_
      exact lp44 _ 0 M1 rfl (by omega) (fun b j => by rw [h1]; congr 1; apply propext; omega)
    · refine z_aload_nr dX3_setAsAtFirst_8 rfl ?_
      refine z_getr (b := 52) fl_X3_9 rfl (by decide) rf_51_0 rfl dX3_setAsAtFirst_9 ?_
      refine z_iload_n dX3_setAsAtFirst_12 rfl ?_
      refine z_iconst dX3_setAsAtFirst_13 ⟨by decide, by decide⟩ ?_
      refine z_iast rfl (by decide) (by omega) (by omega) dX3_setAsAtFirst_14 (fun Mz9 hMz9 => ?_)
      refine z_aload_nr dX3_setAsAtFirst_15 rfl ?_
      refine z_getr (b := 53) fl_X3_15 rfl (by decide) rf_51_1 rfl dX3_setAsAtFirst_16 ?_
      refine z_iload_n dX3_setAsAtFirst_19 rfl ?_
      refine z_iconst dX3_setAsAtFirst_20 ⟨by decide, by decide⟩ ?_
      refine z_iast rfl (by decide) (by omega) (by omega) dX3_setAsAtFirst_21 (fun Mz10 hMz10 => ?_)
      refine z_aload_nr dX3_setAsAtFirst_22 rfl ?_
      refine z_getr (b := 54) fl_X3_18 rfl (by decide) rf_51_2 rfl dX3_setAsAtFirst_23 ?_
      refine z_iload_n dX3_setAsAtFirst_26 rfl ?_
      refine z_iconst dX3_setAsAtFirst_27 ⟨by decide, by decide⟩ ?_
      refine z_iast rfl (by decide) (by omega) (by omega) dX3_setAsAtFirst_28 (fun Mz11 hMz11 => ?_)
      refine z_aload_nr dX3_setAsAtFirst_29 rfl ?_
      refine z_getr (b := 55) fl_X3_21 rfl (by decide) rf_51_3 rfl dX3_setAsAtFirst_30 ?_
      refine z_iload_n dX3_setAsAtFirst_33 rfl ?_
      refine z_iconst dX3_setAsAtFirst_34 ⟨by decide, by decide⟩ ?_
      refine z_iast rfl (by decide) (by omega) (by omega) dX3_setAsAtFirst_35 (fun Mz12 hMz12 => ?_)
      refine z_iinc (loc2 := fun vq => [fr 51, fi vq]) dX3_setAsAtFirst_36 rfl (by decide) (by omega) (fun _ => rfl) (fun x13 hx13 => ?_)
      refine z_goto (tgt := 2) dX3_setAsAtFirst_39 (by decide) ?_
      have hnew : ∀ b j, Mz12 b j = if ((b = 52 ∨ b = 53 ∨ b = 54 ∨ b = 55) ∧ 0 ≤ j ∧ j < i + 1) then 0 else M b j := by
        intro b j
        rw [hMz12, hMz11, hMz10, hMz9]
        simp only [st]
        rw [h1]
        by_cases e : (b = 52 ∨ b = 53 ∨ b = 54 ∨ b = 55) ∧ 0 ≤ j ∧ j < i + 1
        · rw [if_pos e]
          by_cases e2 : j = i
          · obtain ⟨e3 | e3 | e3 | e3, -⟩ := e <;> simp [e2, e3]
          · rw [if_neg (by omega), if_neg (by omega), if_neg (by omega), if_neg (by omega), if_pos (by omega)]
        · rw [if_neg e, if_neg (by omega), if_neg (by omega), if_neg (by omega), if_neg (by omega), if_neg (by omega)]
      exact ih2 _ (by omega) x13 Mz12 rfl (by omega) (by rw [hx13]; exact hnew)
  refine z_iconst dX3_setAsAtFirst_0 ⟨by decide, by decide⟩ ?_
  refine z_istore_n (loc2 := [fr 51, fi 0]) dX3_setAsAtFirst_1 (by decide) rfl ?_
  exact lp2 _ 0 M rfl (by omega) (fun b j => by rw [if_neg (by omega)])
