/-! ===== the law's loop and its beginning ===== -/
set_option maxHeartbeats 4000000 in
theorem law_loop (l : Launch) (g : Cx) (μ : Mc) (Q : State → Prop) (hL : (g.2.2.2.2.1 : Int) ≤ 4096) (hend : ∀ (pz : Int) (M : FMem), Wa l g true fi_L_law 0 μ Q 1190 [fi 1] [fe 0, fr 0, fr 60, fi pz] 93 M) : ∀ (kq : Nat) (pz : Int) (M : FMem), ((g.2.2.2.2.1 : Int) + 8 - pz).toNat = kq → 0 ≤ pz ∧ pz ≤ (g.2.2.2.2.1 : Int) → Cp M → Wa l g true fi_L_law 0 μ Q 18 [] [fe 0, fr 0, fr 60, fi pz] 93 M := by
  intro kq
  induction kq using Nat.strongRecOn with
  | _ kq ih =>
  intro pz M hk h0 hC
  have hback : pz + 8 ≤ (g.2.2.2.2.1 : Int) → ∀ M2, Cp M2 → Wa l g true fi_L_law 0 μ Q 1183 [] [fe 0, fr 0, fr 60, fi pz] 93 M2 := by
    intro h8 M2 hC2
    refine z_iinc (loc2 := fun vq => [fe 0, fr 0, fr 60, fi vq]) dL_law_1183 rfl (by decide) (by omega) (fun _ => rfl) (fun x hx => ?_)
    refine z_goto (tgt := 18) dL_law_1186 (by decide) ?_
    exact ih _ (by omega) x M2 rfl (by omega) hC2
  refine z_iload_n dL_law_18 rfl ?_
  refine z_aload_ne dL_law_19 rfl ?_
  refine z_slen (by omega) dL_law_20 ?_
  refine z_bipush dL_law_21 ⟨by decide, by decide⟩ (by decide) ?_
  first | refine z_isubN dL_law_23 (by omega) (fun x1 hx1 => ?_) | refine z_isub dL_law_23 (fun x1 hx1 => ?_)
  refine z_icmp_gt (tgt := 1189) dL_law_24 (by decide) (fun c2 => ?_) (fun c2 => ?_)
  · refine z_iconst dL_law_1189 ⟨by decide, by decide⟩ ?_
    exact hend _ _
  · refine z_aload_ne dL_law_27 rfl ?_
    refine z_iload_n dL_law_28 rfl ?_
    refine z_sld (by omega) (by omega) dL_law_29 (fun x3 hx3 bx3 => ?_)
    refine z_bipush dL_law_30 ⟨by decide, by decide⟩ (by decide) ?_
    refine z_iand dL_law_32 (fun x4 hx4 bx4 => ?_)
    by_cases s5_0 : x4 = 0
    · refine z_tableIn (tgt := 164) dL_law_33 (by omega) (by omega) (by rw [s5_0]; rfl) (by decide) ?_
      exact lk_0 l g μ Q pz M hL (by omega) hC (hback (by omega))
    by_cases s5_1 : x4 = 1
    · refine z_tableIn (tgt := 251) dL_law_33 (by omega) (by omega) (by rw [s5_1]; rfl) (by decide) ?_
      exact lk_1 l g μ Q pz M hL (by omega) hC (hback (by omega))
    by_cases s5_2 : x4 = 2
    · refine z_tableIn (tgt := 304) dL_law_33 (by omega) (by omega) (by rw [s5_2]; rfl) (by decide) ?_
      exact lk_2 l g μ Q pz M hL (by omega) hC (hback (by omega))
    by_cases s5_3 : x4 = 3
    · refine z_tableIn (tgt := 357) dL_law_33 (by omega) (by omega) (by rw [s5_3]; rfl) (by decide) ?_
      exact lk_3 l g μ Q pz M hL (by omega) hC (hback (by omega))
    by_cases s5_4 : x4 = 4
    · refine z_tableIn (tgt := 400) dL_law_33 (by omega) (by omega) (by rw [s5_4]; rfl) (by decide) ?_
      exact lk_4 l g μ Q pz M hL (by omega) hC (hback (by omega))
    by_cases s5_5 : x4 = 5
    · refine z_tableIn (tgt := 433) dL_law_33 (by omega) (by omega) (by rw [s5_5]; rfl) (by decide) ?_
      exact lk_5 l g μ Q pz M hL (by omega) hC (hback (by omega))
    by_cases s5_6 : x4 = 6
    · refine z_tableIn (tgt := 482) dL_law_33 (by omega) (by omega) (by rw [s5_6]; rfl) (by decide) ?_
      exact lk_6 l g μ Q pz M hL (by omega) hC (hback (by omega))
    by_cases s5_7 : x4 = 7
    · refine z_tableIn (tgt := 495) dL_law_33 (by omega) (by omega) (by rw [s5_7]; rfl) (by decide) ?_
      exact lk_7 l g μ Q pz M hL (by omega) hC (hback (by omega))
    by_cases s5_8 : x4 = 8
    · refine z_tableIn (tgt := 508) dL_law_33 (by omega) (by omega) (by rw [s5_8]; rfl) (by decide) ?_
      exact lk_8 l g μ Q pz M hL (by omega) hC (hback (by omega))
    by_cases s5_9 : x4 = 9
    · refine z_tableIn (tgt := 541) dL_law_33 (by omega) (by omega) (by rw [s5_9]; rfl) (by decide) ?_
      exact lk_9 l g μ Q pz M hL (by omega) hC (hback (by omega))
    by_cases s5_10 : x4 = 10
    · refine z_tableIn (tgt := 564) dL_law_33 (by omega) (by omega) (by rw [s5_10]; rfl) (by decide) ?_
      exact lk_10 l g μ Q pz M hL (by omega) hC (hback (by omega))
    by_cases s5_11 : x4 = 11
    · refine z_tableIn (tgt := 627) dL_law_33 (by omega) (by omega) (by rw [s5_11]; rfl) (by decide) ?_
      exact lk_11 l g μ Q pz M hL (by omega) hC (hback (by omega))
    by_cases s5_12 : x4 = 12
    · refine z_tableIn (tgt := 640) dL_law_33 (by omega) (by omega) (by rw [s5_12]; rfl) (by decide) ?_
      exact lk_12 l g μ Q pz M hL (by omega) hC (hback (by omega))
    by_cases s5_13 : x4 = 13
    · refine z_tableIn (tgt := 653) dL_law_33 (by omega) (by omega) (by rw [s5_13]; rfl) (by decide) ?_
      exact lk_13 l g μ Q pz M hL (by omega) hC (hback (by omega))
    by_cases s5_14 : x4 = 14
    · refine z_tableIn (tgt := 686) dL_law_33 (by omega) (by omega) (by rw [s5_14]; rfl) (by decide) ?_
      exact lk_14 l g μ Q pz M hL (by omega) hC (hback (by omega))
    by_cases s5_15 : x4 = 15
    · refine z_tableIn (tgt := 729) dL_law_33 (by omega) (by omega) (by rw [s5_15]; rfl) (by decide) ?_
      exact lk_15 l g μ Q pz M hL (by omega) hC (hback (by omega))
    by_cases s5_16 : x4 = 16
    · refine z_tableIn (tgt := 772) dL_law_33 (by omega) (by omega) (by rw [s5_16]; rfl) (by decide) ?_
      exact lk_16 l g μ Q pz M hL (by omega) hC (hback (by omega))
    by_cases s5_17 : x4 = 17
    · refine z_tableIn (tgt := 795) dL_law_33 (by omega) (by omega) (by rw [s5_17]; rfl) (by decide) ?_
      exact lk_17 l g μ Q pz M hL (by omega) hC (hback (by omega))
    by_cases s5_18 : x4 = 18
    · refine z_tableIn (tgt := 808) dL_law_33 (by omega) (by omega) (by rw [s5_18]; rfl) (by decide) ?_
      exact lk_18 l g μ Q pz M hL (by omega) hC (hback (by omega))
    by_cases s5_19 : x4 = 19
    · refine z_tableIn (tgt := 831) dL_law_33 (by omega) (by omega) (by rw [s5_19]; rfl) (by decide) ?_
      exact lk_19 l g μ Q pz M hL (by omega) hC (hback (by omega))
    by_cases s5_20 : x4 = 20
    · refine z_tableIn (tgt := 864) dL_law_33 (by omega) (by omega) (by rw [s5_20]; rfl) (by decide) ?_
      exact lk_20 l g μ Q pz M hL (by omega) hC (hback (by omega))
    by_cases s5_21 : x4 = 21
    · refine z_tableIn (tgt := 907) dL_law_33 (by omega) (by omega) (by rw [s5_21]; rfl) (by decide) ?_
      exact lk_21 l g μ Q pz M hL (by omega) hC (hback (by omega))
    by_cases s5_22 : x4 = 22
    · refine z_tableIn (tgt := 930) dL_law_33 (by omega) (by omega) (by rw [s5_22]; rfl) (by decide) ?_
      exact lk_22 l g μ Q pz M hL (by omega) hC (hback (by omega))
    by_cases s5_23 : x4 = 23
    · refine z_tableIn (tgt := 964) dL_law_33 (by omega) (by omega) (by rw [s5_23]; rfl) (by decide) ?_
      exact lk_23 l g μ Q pz M hL (by omega) hC (hback (by omega))
    by_cases s5_24 : x4 = 24
    · refine z_tableIn (tgt := 987) dL_law_33 (by omega) (by omega) (by rw [s5_24]; rfl) (by decide) ?_
      exact lk_24 l g μ Q pz M hL (by omega) hC (hback (by omega))
    by_cases s5_25 : x4 = 25
    · refine z_tableIn (tgt := 1010) dL_law_33 (by omega) (by omega) (by rw [s5_25]; rfl) (by decide) ?_
      exact lk_25 l g μ Q pz M hL (by omega) hC (hback (by omega))
    by_cases s5_26 : x4 = 26
    · refine z_tableIn (tgt := 1114) dL_law_33 (by omega) (by omega) (by rw [s5_26]; rfl) (by decide) ?_
      exact lk_26 l g μ Q pz M hL (by omega) hC (hback (by omega))
    by_cases s5_27 : x4 = 27
    · refine z_tableIn (tgt := 1137) dL_law_33 (by omega) (by omega) (by rw [s5_27]; rfl) (by decide) ?_
      exact lk_27 l g μ Q pz M hL (by omega) hC (hback (by omega))
    by_cases s5_28 : x4 = 28
    · refine z_tableIn (tgt := 1150) dL_law_33 (by omega) (by omega) (by rw [s5_28]; rfl) (by decide) ?_
      exact lk_28 l g μ Q pz M hL (by omega) hC (hback (by omega))
    refine z_tableOut (tgt := 1183) dL_law_33 (by omega) (by decide) ?_
    exact hback (by omega) _ hC
set_option maxHeartbeats 4000000 in
theorem law_start (l : Launch) (g : Cx) (μ : Mc) (Q : State → Prop) (M : FMem) (hL : (g.2.2.2.2.1 : Int) ≤ 4096) (hend : ∀ (pz : Int) (M : FMem), Wa l g true fi_L_law 0 μ Q 1190 [fi 1] [fe 0, fr 0, fr 60, fi pz] 93 M) : Wa l g false fi_L_law 0 μ Q 0 [] [fe 0, fu, fu, fu] 0 M := by
  refine z_new nl_L_7 rfl (by decide) (by decide +kernel) (by decide +kernel) dL_law_0 (fun Mz1 hMz1 => ?_)
  refine z_dup rfl dL_law_3 ?_
  refine z_callIv (n2 := 60) (A_X7_init l g Mz1) cb_X7_init cl_L_9 (⟨⟨by decide +kernel, by decide +kernel⟩, ⟨by decide +kernel, by decide +kernel⟩, by decide +kernel⟩) rfl (by decide) rfl (Nat.le_of_ble_eq_true rfl) rfl dL_law_4 (fun Mz2 kMz2 hc2 => ?_)
  have hX : XP _ _ := hc2
  refine z_astore_nr (loc2 := [fe 0, fr 0, fu, fu]) dL_law_7 (by decide) rfl ?_
  refine z_new nl_L_10 rfl (by decide) (by decide +kernel) (by decide +kernel) dL_law_8 (fun Mz3 hMz3 => ?_)
  have hN := hMz3
  refine z_dup rfl dL_law_11 ?_
  refine z_callIv (n2 := 93) (A_X8_init l g Mz3) cb_X8_init cl_L_12 (⟨⟨by decide +kernel, by decide +kernel⟩, ⟨by decide +kernel, by decide +kernel⟩, by decide +kernel⟩) rfl (by decide) rfl (Nat.le_of_ble_eq_true rfl) rfl dL_law_12 (fun Mz4 kMz4 hc4 => ?_)
  have hM8 : MP _ _ := hc4
  refine z_astore_nr (loc2 := [fe 0, fr 0, fr 60, fu]) dL_law_15 (by decide) rfl ?_
  refine z_iconst dL_law_16 ⟨by decide, by decide⟩ ?_
  refine z_istore_n (loc2 := [fe 0, fr 0, fr 60, fi 0]) dL_law_17 (by decide) rfl ?_
  refine z_ph (lw_refs hX hN hM8) ?_
  exact law_loop l g μ Q hL hend _ 0 _ rfl (by omega) (Cp_start hX hN hM8)
