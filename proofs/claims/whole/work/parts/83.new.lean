/-! ===== constructors ===== -/
theorem fnew_o {M : FMem} {a b : Nat} {j : Int} (h : b ≠ a) : fnew M a b j = M b j := if_neg h
theorem fnew_a {M : FMem} {a : Nat} {j : Int} (h : fty a j ≠ 3) : fnew M a a j = 0 := (if_pos rfl).trans (if_neg h)
/-- what a maker leaves: the cells below the object as they were, the cells behind it as v says -/
def Mk (M M2 : FMem) (a n : Nat) : Prop := ∀ b j, b ≠ a → b < n → M2 b j = M b j
set_option maxHeartbeats 1600000 in
theorem A_X0_init (l : Launch) (g : Cx) (M : FMem) : AMv l g false fi_X0_init [fr 14] 15 M (fun M2 => Mk M M2 14 15 ∧ (∀ j, M2 14 j = if j = 1 then 16 else if j = 0 then 15 else M 14 j) ∧ (∀ b j, 15 ≤ b → b < 17 → M2 b j = 0)) := by
  refine AMv_intro [fr 14] (by decide) (knall rfl) (Nat.le_of_ble_eq_true rfl) rfl ?_
  intro hNV hM0 μ
  refine z_aload_nr dX0_init_0 rfl ?_
  refine z_obj oi_X0_3 oi_inst oi_code (by decide) (Nat.le_of_ble_eq_true rfl) dX0_init_1 ?_
  refine z_aload_nr dX0_init_4 rfl ?_
  refine z_bipush dX0_init_5 ⟨by decide, by decide⟩ (by decide) ?_
  refine z_newai (len := 10) ac_0 rfl rfl (by decide) (by decide) (by decide +kernel) (by decide +kernel) dX0_init_7 (fun Mz1 hMz1 => ?_)
  refine z_putF (kz := 0) fl_X0_9 rfl (by decide) rfl rfl (fun q h => by cases h; rfl) rfl dX0_init_9 (fun Mz2 hMz2 => ?_)
  refine z_aload_nr dX0_init_12 rfl ?_
  refine z_bipush dX0_init_13 ⟨by decide, by decide⟩ (by decide) ?_
  refine z_newai (len := 10) ac_0 rfl rfl (by decide) (by decide) (by decide +kernel) (by decide +kernel) dX0_init_15 (fun Mz3 hMz3 => ?_)
  refine z_putF (kz := 1) fl_X0_15 rfl (by decide) rfl rfl (fun q h => by cases h; rfl) rfl dX0_init_17 (fun Mz4 hMz4 => ?_)
  refine z_vret rfl (by decide) rfl (by decide +kernel) dX0_init_20 ?_
  refine ⟨fun b j h1 h2 => ?_, fun j => ?_, fun b j h1 h2 => ?_⟩
  · rw [hMz4, hMz3, hMz2, hMz1]
    repeat (first | rw [st_cell (by omega)] | rw [fnew_o (by omega)])
  · rw [hMz4, hMz3, hMz2, hMz1]
    repeat (first | rw [st_at] | rw [fnew_o (by decide)])
    rfl
  · have hb : b = 15 ∨ b = 16 := by omega
    rw [hMz4, hMz3, hMz2, hMz1]
    rcases hb with rfl | rfl <;>
    (repeat (first | rw [st_cell (by decide)] | rw [fnew_o (by decide)])) <;>
    first
    | exact fnew_a (show ¬ (0 : Nat) = 3 by decide)
    | exact fnew_a (show ¬ (1 : Nat) = 3 by decide)
    | exact fnew_a (show ¬ (2 : Nat) = 3 by decide)
