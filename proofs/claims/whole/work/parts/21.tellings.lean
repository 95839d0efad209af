/-! ===== sums ===== -/
def sumN (f : Int → Int) : Nat → Int
  | 0 => 0
  | n + 1 => sumN f n + f n
def sumI (f : Int → Int) (n : Int) : Int := sumN f n.toNat
theorem sumI_0 (f : Int → Int) : sumI f 0 = 0 := rfl
theorem sumI_succ {f : Int → Int} {n : Int} (h : 0 ≤ n) : sumI f (n + 1) = sumI f n + f n := by
  unfold sumI
  obtain ⟨k, rfl⟩ : ∃ k : Nat, n = k := ⟨n.toNat, by omega⟩
  rw [show ((k : Int) + 1).toNat = k + 1 by omega, show (k : Int).toNat = k by omega]
  rfl
theorem sumI_le {f : Int → Int} (hf : ∀ i, 0 ≤ f i ∧ f i ≤ 1) : ∀ n : Int, 0 ≤ sumI f n ∧ (0 ≤ n → sumI f n ≤ n) := by
  intro n
  unfold sumI
  have : ∀ k : Nat, 0 ≤ sumN f k ∧ sumN f k ≤ k := by
    intro k
    induction k with
    | zero => exact ⟨Int.le_refl 0, Int.le_refl 0⟩
    | succ k ih => have := hf k; simp only [sumN]; omega
  have := this n.toNat
  omega
theorem sumI_congr {f f' : Int → Int} {n : Int} (h : ∀ i, 0 ≤ i → i < n → f i = f' i) : sumI f n = sumI f' n := by
  unfold sumI
  have : ∀ k : Nat, (k : Int) ≤ n → sumN f k = sumN f' k := by
    intro k
    induction k with
    | zero => intro _; rfl
    | succ k ih => intro hk; simp only [sumN]; rw [ih (by omega), h k (by omega) (by omega)]
  by_cases hn : 0 ≤ n
  · exact this _ (by omega)
  · rw [show n.toNat = 0 by omega]; rfl
def b01 (p : Prop) [Decidable p] : Int := if p then 1 else 0
theorem b01_01 (p : Prop) [Decidable p] : b01 p = 0 ∨ b01 p = 1 := by unfold b01; split <;> simp
theorem b01_r (p : Prop) [Decidable p] : 0 ≤ b01 p ∧ b01 p ≤ 1 := by unfold b01; split <;> omega
/-! ===== Tellings: undone and put back, counts ===== -/
set_option maxHeartbeats 400000 in
theorem A_X5_takeBack (l : Launch) (g : Cx) (M : FMem) (hs : 0 ≤ M 1 13 ∧ M 1 13 ≤ 80) (hc : 0 ≤ M 1 11 ∧ (M 1 11 < 80 ∨ ∀ j, 0 ≤ j → j < M 1 13 → M 11 j = 1)) : AMi l g true fi_X5_takeBack [fr 1] 93 M (fun r M2 => (∃ i, 0 ≤ i ∧ i < M 1 13 ∧ M 11 i = 0 ∧ (∀ j, i < j → j < M 1 13 → M 11 j = 1) ∧ r = i ∧ M2 = st (st (st M 11 i 1) 12 (M 1 11) i) 1 11 (M 1 11 + 1)) ∨ ((∀ j, 0 ≤ j → j < M 1 13 → M 11 j = 1) ∧ r = -1 ∧ M2 = M)) := by
  refine AMi_intro [fr 1, fu] (by decide) (knall rfl) (Nat.le_of_ble_eq_true rfl) rfl ?_
  intro hNV hM0 μ
  have lp7 : ∀ (kq : Nat) (i : Int), (i + 1).toNat = kq → (-1 ≤ i ∧ i < M 1 13) → (∀ j, i < j → j < M 1 13 → M 11 j = 1) → Wa l g true fi_X5_takeBack 93 μ (Zi g true fi_X5_takeBack 93 μ (fun r M2 => (∃ i, 0 ≤ i ∧ i < M 1 13 ∧ M 11 i = 0 ∧ (∀ j, i < j → j < M 1 13 → M 11 j = 1) ∧ r = i ∧ M2 = st (st (st M 11 i 1) 12 (M 1 11) i) 1 11 (M 1 11 + 1)) ∨ ((∀ j, 0 ≤ j → j < M 1 13 → M 11 j = 1) ∧ r = -1 ∧ M2 = M))) 7 [] [fr 1, fi i] 93 M := by
    intro kq
    induction kq using Nat.strongRecOn with
    | _ kq ih7 =>
    intro i hk7 h0 h1
    refine z_iload_n dX5_takeBack_7 rfl ?_
    refine z_if_lt (tgt := 64) dX5_takeBack_8 (by decide) (fun c1 => ?_) (fun c1 => ?_)
    · refine z_iconst dX5_takeBack_64 ⟨by decide, by decide⟩ ?_
      refine z_iret rfl (by decide) rfl (Nat.sub_self _) dX5_takeBack_65 ?_
      exact Or.inr ⟨fun j h2 h3 => h1 j (by omega) h3, rfl, rfl⟩
    · refine z_aload_nr dX5_takeBack_11 rfl ?_
      refine z_getr (b := 11) fl_X5_40 rfl (by decide) rf_1_9 rfl dX5_takeBack_12 ?_
      refine z_iload_n dX5_takeBack_15 rfl ?_
      refine z_zald rfl (by decide) (by omega) (by omega) dX5_takeBack_16 (fun x2 hx2 bx2 => ?_)
      refine z_if_ne (tgt := 58) dX5_takeBack_17 (by decide) (fun c3 => ?_) (fun c3 => ?_)
      · refine z_iinc (loc2 := fun vq => [fr 1, fi vq]) dX5_takeBack_58 rfl (by decide) (by omega) (fun _ => rfl) (fun x4 hx4 => ?_)
        refine z_goto (tgt := 7) dX5_takeBack_61 (by decide) ?_
        exact ih7 _ (by omega) x4 rfl (by omega) (fun j h2 h3 => by by_cases e : j = i; (subst e; first | omega | (rcases hc.2 with hc2 | hc2; omega; exact hc2 j (by omega) h3)); exact h1 j (by omega) h3)
      · refine z_aload_nr dX5_takeBack_20 rfl ?_
        refine z_geti (kz := 11) fl_X5_46 rfl (by decide) rfl dX5_takeBack_21 (fun x5 hx5 bx5 => ?_)
        refine z_bipush dX5_takeBack_24 ⟨by decide, by decide⟩ (by decide) ?_
        refine z_icmp_ge (tgt := 58) dX5_takeBack_26 (by decide) (fun c6 => ?_) (fun c6 => ?_)
        · refine z_iinc (loc2 := fun vq => [fr 1, fi vq]) dX5_takeBack_58 rfl (by decide) (by omega) (fun _ => rfl) (fun x7 hx7 => ?_)
          refine z_goto (tgt := 7) dX5_takeBack_61 (by decide) ?_
          exact ih7 _ (by omega) x7 rfl (by omega) (fun j h2 h3 => by by_cases e : j = i; (subst e; first | omega | (rcases hc.2 with hc2 | hc2; omega; exact hc2 j (by omega) h3)); exact h1 j (by omega) h3)
        · refine z_aload_nr dX5_takeBack_29 rfl ?_
          refine z_getr (b := 11) fl_X5_40 rfl (by decide) rf_1_9 rfl dX5_takeBack_30 ?_
          refine z_iload_n dX5_takeBack_33 rfl ?_
          refine z_iconst dX5_takeBack_34 ⟨by decide, by decide⟩ ?_
          refine z_zast rfl (by decide) (by omega) (by omega) (by omega) dX5_takeBack_35 (fun Mz8 hMz8 => ?_)
          refine z_aload_nr dX5_takeBack_36 rfl ?_
          refine z_getr (b := 12) fl_X5_43 rfl (by decide) rf_1_10 rfl dX5_takeBack_37 ?_
          refine z_aload_nr dX5_takeBack_40 rfl ?_
          refine z_geti (kz := 11) fl_X5_46 rfl (by decide) rfl dX5_takeBack_41 (fun x9 hx9 bx9 => ?_)
          rw [hMz8, st_cell (by decide)] at hx9
          refine z_iload_n dX5_takeBack_44 rfl ?_
          refine z_iast rfl (by decide) (by omega) (by omega) dX5_takeBack_45 (fun Mz10 hMz10 => ?_)
          refine z_aload_nr dX5_takeBack_46 rfl ?_
          refine z_dup rfl dX5_takeBack_47 ?_
          refine z_geti (kz := 11) fl_X5_46 rfl (by decide) rfl dX5_takeBack_48 (fun x11 hx11 bx11 => ?_)
          rw [hMz10, st_cell (by decide), hMz8, st_cell (by decide)] at hx11
          refine z_iconst dX5_takeBack_51 ⟨by decide, by decide⟩ ?_
          first | refine z_iaddN dX5_takeBack_52 (by omega) (fun x12 hx12 => ?_) | refine z_iadd dX5_takeBack_52 (fun x12 hx12 => ?_)
          refine z_puti (kz := 11) fl_X5_46 rfl (by decide) rfl nr_1_11 dX5_takeBack_53 (fun Mz13 hMz13 => ?_)
          refine z_iload_n dX5_takeBack_56 rfl ?_
          refine z_iret rfl (by decide) rfl (Nat.sub_self _) dX5_takeBack_57 ?_
          subst_vars
          exact Or.inl ⟨i, by omega, by omega, by omega, h1, rfl, rfl⟩
  refine z_aload_nr dX5_takeBack_0 rfl ?_
  refine z_geti (kz := 13) fl_X5_53 rfl (by decide) rfl dX5_takeBack_1 (fun x14 hx14 bx14 => ?_)
  refine z_iconst dX5_takeBack_4 ⟨by decide, by decide⟩ ?_
  first | refine z_isubN dX5_takeBack_5 (by omega) (fun x15 hx15 => ?_) | refine z_isub dX5_takeBack_5 (fun x15 hx15 => ?_)
  refine z_istore_n (loc2 := [fr 1, fi x15]) dX5_takeBack_6 (by decide) rfl ?_
  exact lp7 _ x15 rfl (by omega) (fun j h1 h2 => by omega)
set_option maxHeartbeats 400000 in
theorem A_X5_putBack (l : Launch) (g : Cx) (M : FMem) (hs : ∀ j, 0 ≤ j → j < M 1 11 → 0 ≤ M 12 j ∧ M 12 j < 80) (hc : M 1 11 ≤ 80) : AMi l g true fi_X5_putBack [fr 1] 93 M (fun r M2 => if M 1 11 ≤ 0 then r = -1 ∧ M2 = M else r = M 12 (M 1 11 - 1) ∧ M2 = st (st M 1 11 (M 1 11 - 1)) 11 (M 12 (M 1 11 - 1)) 0) := by
  refine AMi_intro [fr 1, fu] (by decide) (knall rfl) (Nat.le_of_ble_eq_true rfl) rfl ?_
  intro hNV hM0 μ
  refine z_aload_nr dX5_putBack_0 rfl ?_
  refine z_geti (kz := 11) fl_X5_46 rfl (by decide) rfl dX5_putBack_1 (fun x1 hx1 bx1 => ?_)
  refine z_if_gt (tgt := 9) dX5_putBack_4 (by decide) (fun c2 => ?_) (fun c2 => ?_)
  · refine z_aload_nr dX5_putBack_9 rfl ?_
    refine z_dup rfl dX5_putBack_10 ?_
    refine z_geti (kz := 11) fl_X5_46 rfl (by decide) rfl dX5_putBack_11 (fun x3 hx3 bx3 => ?_)
    refine z_iconst dX5_putBack_14 ⟨by decide, by decide⟩ ?_
    first | refine z_isubN dX5_putBack_15 (by omega) (fun x4 hx4 => ?_) | refine z_isub dX5_putBack_15 (fun x4 hx4 => ?_)
    refine z_puti (kz := 11) fl_X5_46 rfl (by decide) rfl nr_1_11 dX5_putBack_16 (fun Mz5 hMz5 => ?_)
    refine z_aload_nr dX5_putBack_19 rfl ?_
    refine z_getr (b := 12) fl_X5_43 rfl (by decide) rf_1_10 rfl dX5_putBack_20 ?_
    refine z_aload_nr dX5_putBack_23 rfl ?_
    refine z_geti (kz := 11) fl_X5_46 rfl (by decide) rfl dX5_putBack_24 (fun x6 hx6 bx6 => ?_)
    rw [hMz5, st_same] at hx6
    refine z_iald rfl (by decide) (by omega) (by omega) dX5_putBack_27 (fun x7 hx7 bx7 => ?_)
    rw [hMz5, st_cell (by decide)] at hx7
    refine z_istore_n (loc2 := [fr 1, fi x7]) dX5_putBack_28 (by decide) rfl ?_
    refine z_aload_nr dX5_putBack_29 rfl ?_
    refine z_getr (b := 11) fl_X5_40 rfl (by decide) rf_1_9 rfl dX5_putBack_30 ?_
    have hq := hs (M 1 11 - 1) (by omega) (by omega)
    subst_vars
    refine z_iload_n dX5_putBack_33 rfl ?_
    refine z_iconst dX5_putBack_34 ⟨by decide, by decide⟩ ?_
    refine z_zast rfl (by decide) (by omega) (by omega) (by omega) dX5_putBack_35 (fun Mz8 hMz8 => ?_)
    refine z_iload_n dX5_putBack_36 rfl ?_
    refine z_iret rfl (by decide) rfl (Nat.sub_self _) dX5_putBack_37 ?_
    subst_vars
    rw [if_neg (by omega)]
    exact ⟨rfl, rfl⟩
  · refine z_iconst dX5_putBack_7 ⟨by decide, by decide⟩ ?_
    refine z_iret rfl (by decide) rfl (Nat.sub_self _) dX5_putBack_8 ?_
    subst_vars
    rw [if_pos (by omega)]
    exact ⟨rfl, rfl⟩
set_option maxHeartbeats 400000 in
theorem A_X5_isOne (l : Launch) (g : Cx) (M : FMem) (i what : Int) (hi : 0 ≤ i ∧ i < 80) : AMi l g true fi_X5_isOne [fr 1, fi i, fi what] 93 M (fun r M2 => M2 = M ∧ (fun r => r = (if what = 0 then b01 (M 11 i = 0 ∧ M 10 i = 0) else if what = 1 then M 10 i else if what = 2 then M 11 i else b01 (M 2 i = 0))) r) := by
  refine AMi_intro [fr 1, fi i, fi what] (by decide) (knall rfl) (Nat.le_of_ble_eq_true rfl) rfl ?_
  intro hNV hM0 μ
  have bi : N32 i := hNV (fi i) (by simp)
  have bwhat : N32 what := hNV (fi what) (by simp)
  refine z_iload_n dX5_isOne_0 rfl ?_
  by_cases s1_0 : what = 0
  · refine z_tableIn (tgt := 28) dX5_isOne_1 (by omega) (by omega) (by rw [s1_0]; rfl) (by decide) ?_
    refine z_aload_nr dX5_isOne_28 rfl ?_
    refine z_iload_n dX5_isOne_29 rfl ?_
    refine z_callVip (n2 := 93) (A_X5_isInNet l g M i (by omega)) cb_X5_isInNet cl_X5_69 (clr0 rfl rfl (by decide) (by decide)) rfl (by decide) ⟨_, rfl, rfl⟩ rfl (by decide) rfl (Nat.le_of_ble_eq_true rfl) rfl dX5_isOne_30 (fun x2 bx2 hx2 => ?_)
    have i2 := if01 hx2
    refine z_zret rfl (by first | omega | (split at * <;> simp_all)) (by decide) rfl (Nat.sub_self _) dX5_isOne_33 ?_
    refine ⟨rfl, ?_⟩
    subst_vars
    simp_all [b01]
  by_cases s1_1 : what = 1
  · refine z_tableIn (tgt := 34) dX5_isOne_1 (by omega) (by omega) (by rw [s1_1]; rfl) (by decide) ?_
    refine z_aload_nr dX5_isOne_34 rfl ?_
    refine z_getr (b := 10) fl_X5_36 rfl (by decide) rf_1_8 rfl dX5_isOne_35 ?_
    refine z_iload_n dX5_isOne_38 rfl ?_
    refine z_zald rfl (by decide) (by omega) (by omega) dX5_isOne_39 (fun x3 hx3 bx3 => ?_)
    refine z_zret rfl (by first | omega | (split at * <;> simp_all)) (by decide) rfl (Nat.sub_self _) dX5_isOne_40 ?_
    refine ⟨rfl, ?_⟩
    subst_vars
    simp_all [b01]
  by_cases s1_2 : what = 2
  · refine z_tableIn (tgt := 41) dX5_isOne_1 (by omega) (by omega) (by rw [s1_2]; rfl) (by decide) ?_
    refine z_aload_nr dX5_isOne_41 rfl ?_
    refine z_getr (b := 11) fl_X5_40 rfl (by decide) rf_1_9 rfl dX5_isOne_42 ?_
    refine z_iload_n dX5_isOne_45 rfl ?_
    refine z_zald rfl (by decide) (by omega) (by omega) dX5_isOne_46 (fun x4 hx4 bx4 => ?_)
    refine z_zret rfl (by first | omega | (split at * <;> simp_all)) (by decide) rfl (Nat.sub_self _) dX5_isOne_47 ?_
    refine ⟨rfl, ?_⟩
    subst_vars
    simp_all [b01]
  refine z_tableOut (tgt := 48) dX5_isOne_1 (by omega) (by decide) ?_
  refine z_aload_nr dX5_isOne_48 rfl ?_
  refine z_getr (b := 2) fl_X5_9 rfl (by decide) rf_1_0 rfl dX5_isOne_49 ?_
  refine z_iload_n dX5_isOne_52 rfl ?_
  refine z_iald rfl (by decide) (by omega) (by omega) dX5_isOne_53 (fun x5 hx5 bx5 => ?_)
  refine z_if_ne (tgt := 61) dX5_isOne_54 (by decide) (fun c6 => ?_) (fun c6 => ?_)
  · refine z_iconst dX5_isOne_61 ⟨by decide, by decide⟩ ?_
    refine z_zret rfl (by first | omega | (split at * <;> simp_all)) (by decide) rfl (Nat.sub_self _) dX5_isOne_62 ?_
    refine ⟨rfl, ?_⟩
    subst_vars
    simp_all [b01]
  · refine z_iconst dX5_isOne_57 ⟨by decide, by decide⟩ ?_
    refine z_goto (tgt := 62) dX5_isOne_58 (by decide) ?_
    refine z_zret rfl (by first | omega | (split at * <;> simp_all)) (by decide) rfl (Nat.sub_self _) dX5_isOne_62 ?_
    refine ⟨rfl, ?_⟩
    subst_vars
    simp_all [b01]
set_option maxHeartbeats 400000 in
theorem A_X5_howMany (l : Launch) (g : Cx) (M : FMem) (what : Int) (hs : 0 ≤ M 1 13 ∧ M 1 13 ≤ 80) : AMi l g true fi_X5_howMany [fr 1, fi what] 93 M (fun r M2 => M2 = M ∧ (fun r => r = sumI (fun i => (if what = 0 then b01 (M 11 i = 0 ∧ M 10 i = 0) else if what = 1 then M 10 i else if what = 2 then M 11 i else b01 (M 2 i = 0))) (M 1 13)) r) := by
  refine AMi_intro [fr 1, fi what, fu, fu] (by decide) (knall rfl) (Nat.le_of_ble_eq_true rfl) rfl ?_
  intro hNV hM0 μ
  have bwhat : N32 what := hNV (fi what) (by simp)
  have lp4 : ∀ (kq : Nat) (i c : Int), (80 - i).toNat = kq → (0 ≤ i ∧ i ≤ M 1 13) → (c = sumI (fun i => (if what = 0 then b01 (M 11 i = 0 ∧ M 10 i = 0) else if what = 1 then M 10 i else if what = 2 then M 11 i else b01 (M 2 i = 0))) i) → (0 ≤ c ∧ c ≤ i) → Wa l g true fi_X5_howMany 93 μ (Zi g true fi_X5_howMany 93 μ (fun r M2 => M2 = M ∧ (fun r => r = sumI (fun i => (if what = 0 then b01 (M 11 i = 0 ∧ M 10 i = 0) else if what = 1 then M 10 i else if what = 2 then M 11 i else b01 (M 2 i = 0))) (M 1 13)) r)) 4 [] [fr 1, fi what, fi c, fi i] 93 M := by
    intro kq
    induction kq using Nat.strongRecOn with
    | _ kq ih4 =>
    intro i c hk4 h0 h1 h2
    have h01 : (if what = 0 then b01 (M 11 i = 0 ∧ M 10 i = 0) else if what = 1 then M 10 i else if what = 2 then M 11 i else b01 (M 2 i = 0)) = 0 ∨ (if what = 0 then b01 (M 11 i = 0 ∧ M 10 i = 0) else if what = 1 then M 10 i else if what = 2 then M 11 i else b01 (M 2 i = 0)) = 1 := by
      have q1 := mok_z hM0 (a := 10) rfl i
      have q2 := mok_z hM0 (a := 11) rfl i
      have q3 := b01_01 (M 11 i = 0 ∧ M 10 i = 0)
      have q4 := b01_01 (M 2 i = 0)
      split
      · exact q3
      · split
        · exact q1
        · split
          · exact q2
          · exact q4
    refine z_iload_n dX5_howMany_4 rfl ?_
    refine z_aload_nr dX5_howMany_5 rfl ?_
    refine z_geti (kz := 13) fl_X5_53 rfl (by decide) rfl dX5_howMany_6 (fun x1 hx1 bx1 => ?_)
    refine z_icmp_ge (tgt := 30) dX5_howMany_9 (by decide) (fun c2 => ?_) (fun c2 => ?_)
    · refine z_iload_n dX5_howMany_30 rfl ?_
      refine z_iret rfl (by decide) rfl (Nat.sub_self _) dX5_howMany_31 ?_
      refine ⟨rfl, ?_⟩
      rw [h1, show i = M 1 13 by omega]
    · refine z_iload_n dX5_howMany_12 rfl ?_
      refine z_aload_nr dX5_howMany_13 rfl ?_
      refine z_iload_n dX5_howMany_14 rfl ?_
      refine z_iload_n dX5_howMany_15 rfl ?_
      refine z_callVip (n2 := 93) (A_X5_isOne l g M i what (by omega)) cb_X5_isOne cl_X5_61 (clr0 rfl rfl (by decide) (by decide)) rfl (by decide) ⟨_, rfl, rfl⟩ rfl (by decide) rfl (Nat.le_of_ble_eq_true rfl) rfl dX5_howMany_16 (fun x3 bx3 hx3 => ?_)
      try rw [← hx3] at h01
      refine z_callSip (n2 := 93) (A_X7_asNumber l g M x3 (by simp_all)) cb_X7_asNumber cl_X5_65 (clr0 rfl rfl (by decide) (by decide)) rfl (by decide) rfl (Nat.le_of_ble_eq_true rfl) rfl dX5_howMany_19 (fun x4 bx4 hx4 => ?_)
      first | refine z_iaddN dX5_howMany_22 (by omega) (fun x5 hx5 => ?_) | refine z_iadd dX5_howMany_22 (fun x5 hx5 => ?_)
      refine z_istore_n (loc2 := [fr 1, fi what, fi x5, fi i]) dX5_howMany_23 (by decide) rfl ?_
      refine z_iinc (loc2 := fun vq => [fr 1, fi what, fi x5, fi vq]) dX5_howMany_24 rfl (by decide) (by omega) (fun _ => rfl) (fun x6 hx6 => ?_)
      refine z_goto (tgt := 4) dX5_howMany_27 (by decide) ?_
      exact ih4 _ (by omega) x6 x5 rfl (by omega) (by rw [hx6, sumI_succ h0.1, hx5, ← h1]; omega) (by omega)
  refine z_iconst dX5_howMany_0 ⟨by decide, by decide⟩ ?_
  refine z_istore_n (loc2 := [fr 1, fi what, fi 0, fu]) dX5_howMany_1 (by decide) rfl ?_
  refine z_iconst dX5_howMany_2 ⟨by decide, by decide⟩ ?_
  refine z_istore_n (loc2 := [fr 1, fi what, fi 0, fi 0]) dX5_howMany_3 (by decide) rfl ?_
  exact lp4 _ 0 0 rfl (by omega) ((sumI_0 _).symm) (by omega)
