/-! ===== steps ===== -/
/-- telling i stands in the net and is of kind kd -/
def inK (M : FMem) (kd i : Int) : Prop := M 2 i = kd ∧ M 11 i = 0 ∧ M 10 i = 0
def ShH (M : FMem) (n : Int) (k : Nat) : Prop := ∃ i, 0 ≤ i ∧ i < n ∧ inK M 1 i ∧ M 5 i = (k : Int)
def SoH (M : FMem) (n h : Int) (k : Nat) : Prop := ∃ i, 0 ≤ i ∧ i < n ∧ inK M 0 i ∧ M 5 i = h ∧ M 4 i = (k : Int)
theorem ShH_no {M : FMem} {n : Int} (h : ¬ inK M 1 n) (h0 : 0 ≤ n) (k : Nat) : ShH M n k ↔ ShH M (n + 1) k := by
  constructor
  · rintro ⟨i, a, b, c⟩
    exact ⟨i, a, by omega, c⟩
  · rintro ⟨i, a, b, c⟩
    have : i ≠ n := fun e => h (e ▸ c.1)
    exact ⟨i, a, by omega, c⟩
theorem ShH_yes {M : FMem} {n : Int} (h : inK M 1 n) (h0 : 0 ≤ n) (k : Nat) : (ShH M n k ∨ (k : Int) = M 5 n) ↔ ShH M (n + 1) k := by
  constructor
  · rintro (⟨i, a, b, c⟩ | e)
    · exact ⟨i, a, by omega, c⟩
    · exact ⟨n, h0, by omega, h, e.symm⟩
  · rintro ⟨i, a, b, c⟩
    by_cases e : i = n
    · subst e
      exact Or.inr c.2.symm
    · exact Or.inl ⟨i, a, by omega, c⟩
set_option maxHeartbeats 400000 in
theorem A_X5_homesWithShift (l : Launch) (g : Cx) (M : FMem) (hs : 0 ≤ M 1 13 ∧ M 1 13 ≤ 80) (hX : ∀ i, 0 ≤ i → i < M 1 13 → TelX M i) : AMi l g true fi_X5_homesWithShift [fr 1] 93 M (fun r M2 => M2 = M ∧ (fun r => MaskOf (ShH M (M 1 13)) r) r) := by
  refine AMi_intro [fr 1, fu, fu] (by decide) (knall rfl) (Nat.le_of_ble_eq_true rfl) rfl ?_
  intro hNV hM0 μ
  have lp4 : ∀ (kq : Nat) (m i : Int), (80 - i).toNat = kq → (0 ≤ i ∧ i ≤ M 1 13) → (MaskOf (ShH M i) m) → Wa l g true fi_X5_homesWithShift 93 μ (Zi g true fi_X5_homesWithShift 93 μ (fun r M2 => M2 = M ∧ (fun r => MaskOf (ShH M (M 1 13)) r) r)) 4 [] [fr 1, fi m, fi i] 93 M := by
    intro kq
    induction kq using Nat.strongRecOn with
    | _ kq ih4 =>
    intro m i hk4 h0 h1
    have hmb := Mask_b h1
    refine z_iload_n dX5_homesWithShift_4 rfl ?_
    refine z_aload_nr dX5_homesWithShift_5 rfl ?_
    refine z_geti (kz := 13) fl_X5_53 rfl (by decide) rfl dX5_homesWithShift_6 (fun x1 hx1 bx1 => ?_)
    refine z_icmp_ge (tgt := 47) dX5_homesWithShift_9 (by decide) (fun c2 => ?_) (fun c2 => ?_)
    · refine z_iload_n dX5_homesWithShift_47 rfl ?_
      refine z_iret rfl (by decide) rfl (Nat.sub_self _) dX5_homesWithShift_48 ?_
      refine ⟨rfl, ?_⟩
      rw [← show i = M 1 13 by omega]
      exact h1
    · refine z_aload_nr dX5_homesWithShift_12 rfl ?_
      refine z_getr (b := 2) fl_X5_9 rfl (by decide) rf_1_0 rfl dX5_homesWithShift_13 ?_
      refine z_iload_n dX5_homesWithShift_16 rfl ?_
      refine z_iald rfl (by decide) (by omega) (by omega) dX5_homesWithShift_17 (fun x3 hx3 bx3 => ?_)
      refine z_iconst dX5_homesWithShift_18 ⟨by decide, by decide⟩ ?_
      refine z_icmp_ne (tgt := 41) dX5_homesWithShift_19 (by decide) (fun c4 => ?_) (fun c4 => ?_)
      · refine z_iinc (loc2 := fun vq => [fr 1, fi m, fi vq]) dX5_homesWithShift_41 rfl (by decide) (by omega) (fun _ => rfl) (fun x5 hx5 => ?_)
        refine z_goto (tgt := 4) dX5_homesWithShift_44 (by decide) ?_
        have hm : MaskOf (ShH M (i + 1)) m := by
          first
          | (refine Mask_congr h1 (fun k _ => ShH_no (fun z => ?_) h0.1 k)
             unfold inK at z
             omega)
          | (rw [hm, hsl, hho]
             exact Mask_congr (Mask_or h1 (Mask_1 (by omega) (by omega))) (fun k _ => ShH_yes ⟨by omega, by omega, by omega⟩ h0.1 k))
        exact ih4 _ (by omega) m x5 rfl (by omega) (by rw [hx5]; exact hm)
      · refine z_aload_nr dX5_homesWithShift_22 rfl ?_
        refine z_iload_n dX5_homesWithShift_23 rfl ?_
        refine z_callVip (n2 := 93) (A_X5_isInNet l g M i (by omega)) cb_X5_isInNet cl_X5_69 (clr0 rfl rfl (by decide) (by decide)) rfl (by decide) ⟨_, rfl, rfl⟩ rfl (by decide) rfl (Nat.le_of_ble_eq_true rfl) rfl dX5_homesWithShift_24 (fun x6 bx6 hx6 => ?_)
        have i6 := if01 hx6
        refine z_if_eq (tgt := 41) dX5_homesWithShift_27 (by decide) (fun c7 => ?_) (fun c7 => ?_)
        · refine z_iinc (loc2 := fun vq => [fr 1, fi m, fi vq]) dX5_homesWithShift_41 rfl (by decide) (by omega) (fun _ => rfl) (fun x8 hx8 => ?_)
          refine z_goto (tgt := 4) dX5_homesWithShift_44 (by decide) ?_
          have hm : MaskOf (ShH M (i + 1)) m := by
            first
            | (refine Mask_congr h1 (fun k _ => ShH_no (fun z => ?_) h0.1 k)
               unfold inK at z
               omega)
            | (rw [hm, hsl, hho]
               exact Mask_congr (Mask_or h1 (Mask_1 (by omega) (by omega))) (fun k _ => ShH_yes ⟨by omega, by omega, by omega⟩ h0.1 k))
          exact ih4 _ (by omega) m x8 rfl (by omega) (by rw [hx8]; exact hm)
        · refine z_iload_n dX5_homesWithShift_30 rfl ?_
          refine z_iconst dX5_homesWithShift_31 ⟨by decide, by decide⟩ ?_
          refine z_aload_nr dX5_homesWithShift_32 rfl ?_
          refine z_getr (b := 5) fl_X5_21 rfl (by decide) rf_1_3 rfl dX5_homesWithShift_33 ?_
          refine z_iload_n dX5_homesWithShift_36 rfl ?_
          refine z_iald rfl (by decide) (by omega) (by omega) dX5_homesWithShift_37 (fun x9 hx9 bx9 => ?_)
          have hho : x9 = M 5 i := by omega
          have htx := hX i h0.1 (by omega)
          unfold TelX TelOk at htx
          refine z_ishl dX5_homesWithShift_38 (fun x10 hx10 bx10 => ?_)
          have hsl := hx10
          refine z_ior dX5_homesWithShift_39 (fun x11 hx11 bx11 => ?_)
          refine z_istore_n (loc2 := [fr 1, fi x11, fi i]) dX5_homesWithShift_40 (by decide) rfl ?_
          refine z_iinc (loc2 := fun vq => [fr 1, fi x11, fi vq]) dX5_homesWithShift_41 rfl (by decide) (by omega) (fun _ => rfl) (fun x12 hx12 => ?_)
          refine z_goto (tgt := 4) dX5_homesWithShift_44 (by decide) ?_
          have hm : MaskOf (ShH M (i + 1)) x11 := by
            first
            | (refine Mask_congr h1 (fun k _ => ShH_no (fun z => ?_) h0.1 k)
               unfold inK at z
               omega)
            | (rw [hx11, hsl, hho]
               exact Mask_congr (Mask_or h1 (Mask_1 (by omega) (by omega))) (fun k _ => ShH_yes ⟨by omega, by omega, by omega⟩ h0.1 k))
          exact ih4 _ (by omega) x11 x12 rfl (by omega) (by rw [hx12]; exact hm)
  refine z_iconst dX5_homesWithShift_0 ⟨by decide, by decide⟩ ?_
  refine z_istore_n (loc2 := [fr 1, fi 0, fu]) dX5_homesWithShift_1 (by decide) rfl ?_
  refine z_iconst dX5_homesWithShift_2 ⟨by decide, by decide⟩ ?_
  refine z_istore_n (loc2 := [fr 1, fi 0, fi 0]) dX5_homesWithShift_3 (by decide) rfl ?_
  exact lp4 _ 0 0 rfl (by omega) (Mask_0 (fun k _ ⟨i, a, b, _⟩ => by omega))
