/-! ===== constructors with a loop ===== -/
set_option maxHeartbeats 3200000 in
theorem A_X6_init (l : Launch) (g : Cx) (M : FMem) : AMv l g false fi_X6_init [fr 37] 38 M (fun M2 => Mk M M2 37 38 ∧ (∀ j, M2 37 j = if j = 4 then 0 else if j = 3 then 41 else if j = 2 then 40 else if j = 1 then 39 else if j = 0 then 38 else M 37 j) ∧ (∀ b j, 38 ≤ b → b < 42 → M2 b j = if b = 38 ∧ 0 ≤ j ∧ j < 10 then (-1) else 0)) := by
  refine AMv_intro [fr 37, fu] (by decide) (knall rfl) (Nat.le_of_ble_eq_true rfl) rfl ?_
  intro hNV hM0 μ
  have lp43 : ∀ (kq : Nat) (kz : Int) (M1 : FMem), (10 - kz).toNat = kq → (0 ≤ kz ∧ kz ≤ 10) → (Mk M M1 37 38 ∧ (∀ j, M1 37 j = if j = 4 then 0 else if j = 3 then 41 else if j = 2 then 40 else if j = 1 then 39 else if j = 0 then 38 else M 37 j) ∧ (∀ b j, 38 ≤ b → b < 42 → M1 b j = if b = 38 ∧ 0 ≤ j ∧ j < kz then (-1) else 0)) → Wa l g false fi_X6_init 38 μ (Zv g false fi_X6_init 38 μ (fun M2 => Mk M M2 37 38 ∧ (∀ j, M2 37 j = if j = 4 then 0 else if j = 3 then 41 else if j = 2 then 40 else if j = 1 then 39 else if j = 0 then 38 else M 37 j) ∧ (∀ b j, 38 ≤ b → b < 42 → M2 b j = if b = 38 ∧ 0 ≤ j ∧ j < 10 then (-1) else 0))) 43 [] [fr 37, fi kz] 42 M1 := by
    intro kq
    induction kq using Nat.strongRecOn with
    | _ kq ih43 =>
    intro kz M1 hk43 hk hM
    refine z_iload_n dX6_init_43 rfl ?_
    refine z_bipush dX6_init_44 ⟨by decide, by decide⟩ (by decide) ?_
    refine z_icmp_ge (tgt := 62) dX6_init_46 (by decide) (fun c1 => ?_) (fun c1 => ?_)
    · refine z_vret rfl (by decide) rfl (by decide +kernel) dX6_init_62 ?_
      have h10 : kz = 10 := by omega
      rw [h10] at hM
      exact hM
    · refine z_aload_nr dX6_init_49 rfl ?_
      refine z_getv (b := 38) (kz := 0) fl_X6_9 rfl (by decide) rfl (fun _ => by rw [hM.2.1]; rfl) dX6_init_50 ?_
      refine z_iload_n dX6_init_53 rfl ?_
      refine z_iconst dX6_init_54 ⟨by decide, by decide⟩ ?_
      refine z_iast rfl (by decide) (by omega) (by omega) dX6_init_55 (fun Mz2 hMz2 => ?_)
      refine z_iinc (loc2 := fun vq => [fr 37, fi vq]) dX6_init_56 rfl (by decide) (by omega) (fun _ => rfl) (fun x3 hx3 => ?_)
      refine z_goto (tgt := 43) dX6_init_59 (by decide) ?_
      exact ih43 _ (by omega) x3 Mz2 rfl (by omega) (by rw [hx3]; exact ⟨fun b j h1 h2 => by rw [hMz2, st_cell (by omega)]; exact hM.1 b j h1 h2, fun j => by rw [hMz2, st_cell (by decide)]; exact hM.2.1 j, fun b j h1 h2 => by
        rw [hMz2]
        unfold st
        by_cases e : b = 38 ∧ j = kz
        · rw [if_pos e, if_pos (by omega)]
        · rw [if_neg e, hM.2.2 b j h1 h2]
          by_cases e2 : b = 38 ∧ 0 ≤ j ∧ j < kz
          · rw [if_pos e2, if_pos (by omega)]
          · rw [if_neg e2, if_neg (by omega)]⟩)
  refine z_aload_nr dX6_init_0 rfl ?_
  refine z_obj oi_X6_3 oi_inst oi_code (by decide) (Nat.le_of_ble_eq_true rfl) dX6_init_1 ?_
  refine z_aload_nr dX6_init_4 rfl ?_
  refine z_bipush dX6_init_5 ⟨by decide, by decide⟩ (by decide) ?_
  refine z_newai (len := 10) ac_0 rfl rfl (by decide) (by decide) (by decide +kernel) (by decide +kernel) dX6_init_7 (fun Mz4 hMz4 => ?_)
  refine z_putF (kz := 0) fl_X6_9 rfl (by decide) rfl rfl (fun q h => by cases h; rfl) rfl dX6_init_9 (fun Mz5 hMz5 => ?_)
  refine z_aload_nr dX6_init_12 rfl ?_
  refine z_bipush dX6_init_13 ⟨by decide, by decide⟩ (by decide) ?_
  refine z_newaz (len := 10) ac_1 rfl rfl (by decide) (by decide) (by decide +kernel) (by decide +kernel) dX6_init_15 (fun Mz6 hMz6 => ?_)
  refine z_putF (kz := 1) fl_X6_15 rfl (by decide) rfl rfl (fun q h => by cases h; rfl) rfl dX6_init_17 (fun Mz7 hMz7 => ?_)
  refine z_aload_nr dX6_init_20 rfl ?_
  refine z_bipush dX6_init_21 ⟨by decide, by decide⟩ (by decide) ?_
  refine z_newal (len := 10) ac_2 rfl rfl (by decide) (by decide) (by decide +kernel) (by decide +kernel) dX6_init_23 (fun Mz8 hMz8 => ?_)
  refine z_putF (kz := 2) fl_X6_19 rfl (by decide) rfl rfl (fun q h => by cases h; rfl) rfl dX6_init_25 (fun Mz9 hMz9 => ?_)
  refine z_aload_nr dX6_init_28 rfl ?_
  refine z_bipush dX6_init_29 ⟨by decide, by decide⟩ (by decide) ?_
  refine z_newal (len := 10) ac_2 rfl rfl (by decide) (by decide) (by decide +kernel) (by decide +kernel) dX6_init_31 (fun Mz10 hMz10 => ?_)
  refine z_putF (kz := 3) fl_X6_23 rfl (by decide) rfl rfl (fun q h => by cases h; rfl) rfl dX6_init_33 (fun Mz11 hMz11 => ?_)
  refine z_aload_nr dX6_init_36 rfl ?_
  refine z_iconst dX6_init_37 ⟨by decide, by decide⟩ ?_
  refine z_puti (kz := 4) fl_X6_26 rfl (by decide) rfl nr_37_4 dX6_init_38 (fun Mz12 hMz12 => ?_)
  refine z_iconst dX6_init_41 ⟨by decide, by decide⟩ ?_
  refine z_istore_n (loc2 := [fr 37, fi 0]) dX6_init_42 (by decide) rfl ?_
  have hen : Mk M Mz12 37 38 ∧ (∀ j, Mz12 37 j = if j = 4 then 0 else if j = 3 then 41 else if j = 2 then 40 else if j = 1 then 39 else if j = 0 then 38 else M 37 j) ∧ (∀ b j, 38 ≤ b → b < 42 → Mz12 b j = if b = 38 ∧ 0 ≤ j ∧ j < 0 then (-1) else 0) := by
    refine ⟨fun b j h1 h2 => ?_, fun j => ?_, fun b j h1 h2 => ?_⟩
    · rw [hMz12, hMz11, hMz10, hMz9, hMz8, hMz7, hMz6, hMz5, hMz4]
      repeat (first | rw [st_cell (by omega)] | rw [fnew_o (by omega)])
    · rw [hMz12, hMz11, hMz10, hMz9, hMz8, hMz7, hMz6, hMz5, hMz4]
      repeat (first | rw [st_at] | rw [fnew_o (by decide)])
      rfl
    · have hb : b = 38 ∨ b = 39 ∨ b = 40 ∨ b = 41 := by omega
      rw [if_neg (by omega), hMz12, hMz11, hMz10, hMz9, hMz8, hMz7, hMz6, hMz5, hMz4]
      rcases hb with rfl | rfl | rfl | rfl <;>
      (repeat (first | rw [st_cell (by decide)] | rw [fnew_o (by decide)])) <;>
      first
      | exact fnew_a (show ¬ (0 : Nat) = 3 by decide)
      | exact fnew_a (show ¬ (1 : Nat) = 3 by decide)
      | exact fnew_a (show ¬ (2 : Nat) = 3 by decide)
  exact lp43 _ 0 Mz12 rfl (by omega) (hen)
