/-! ===== the reference: blame, worth, lead ===== -/
theorem shl_tab : ∀ l : Fin 6, shl32 0 (l.val : Int) = 0 := by decide +kernel
theorem shl_0 {l : Int} (h0 : 0 ≤ l) (h1 : l < 6) : shl32 0 l = 0 := by
  have := shl_tab ⟨l.toNat, by omega⟩
  simp only [Int.toNat_of_nonneg h0] at this
  exact this
theorem SolR_sub {M : FMem} (hT : MT0 M) {k w : Int} {x : Int → Int} (li one two : Int) (h : SolR M k (-1) (-1) (-1) w x) : SolR M k li one two w x := fun i a b c => by
  have ht := hT.2.1 i a b
  unfold TelM TelOk at ht
  exact h i a b ⟨c.1, c.2.1, c.2.2.1, by omega, by omega, by omega⟩
set_option maxHeartbeats 1600000 in
theorem A_X8_blame (l : Launch) (g : Cx) (M : FMem) (hT : MT M) : AMi l g true fi_X8_blame [fr 60] 93 M (fun q M2 => OffN M M2 ∧ PBlame (SolR M (M 60 0) (-1) (-1) (-1) 0) (fun l => Feas (SolR M (M 60 0) l (-1) (-1) 0)) q) := by
  refine AMi_intro [fr 60, fu, fu] (by decide) (knall rfl) (Nat.le_of_ble_eq_true rfl) rfl ?_
  intro hNV hM0 μ
  have lp18 : ∀ (kq : Nat) (mz lz : Int) (M1 : FMem), (6 - lz).toNat = kq → (0 ≤ lz ∧ lz ≤ 6) → (OffM M M1 ∧ M1 60 42 = -1 ∧ M1 60 43 = -1 ∧ M1 60 45 = 0) → (¬ Feas (SolR M (M 60 0) (-1) (-1) (-1) 0)) → (mz = maskS (fun l => Feas (SolR M (M 60 0) l (-1) (-1) 0)) lz) → Wa l g true fi_X8_blame 93 μ (Zi g true fi_X8_blame 93 μ (fun q M2 => OffN M M2 ∧ PBlame (SolR M (M 60 0) (-1) (-1) (-1) 0) (fun l => Feas (SolR M (M 60 0) l (-1) (-1) 0)) q)) 18 [] [fr 60, fi mz, fi lz] 93 M1 := by
    intro kq
    induction kq using Nat.strongRecOn with
    | _ kq ih18 =>
    intro mz lz M1 hk18 h0 h1 h2 h3
    refine z_iload_n dX8_blame_18 rfl ?_
    refine z_bipush dX8_blame_19 ⟨by decide, by decide⟩ (by decide) ?_
    refine z_icmp_ge (tgt := 51) dX8_blame_21 (by decide) (fun c1 => ?_) (fun c1 => ?_)
    · refine z_aload_nr dX8_blame_51 rfl ?_
      refine z_callVv (n2 := 93) (A_X8_forget l g M1 ) cb_X8_forget cl_X8_372 (clr0 rfl rfl (by decide) (by decide)) rfl (by decide) ⟨_, rfl, rfl⟩ rfl (by decide) rfl (Nat.le_of_ble_eq_true rfl) rfl dX8_blame_52 (fun Mz2 kMz2 hc2 => ?_)
      have hfo := hc2
      refine z_iload_n dX8_blame_55 rfl ?_
      refine z_iret rfl (by decide) rfl (Nat.sub_self _) dX8_blame_56 ?_
      refine ⟨by rw [hfo]; exact OffN_f h1.1, Or.inr ⟨h2, ?_⟩⟩
      rw [h3, show lz = 6 by omega]
    · refine z_aload_nr dX8_blame_24 rfl ?_
      refine z_iload_n dX8_blame_25 rfl ?_
      refine z_puti (kz := 44) fl_X8_100 rfl (by decide) rfl nr_60_44 dX8_blame_26 (fun Mz3 hMz3 => ?_)
      have q0 := OffM_o h1.1 (j := 0) (by decide)
      have hof2 : OffM M Mz3 := by rw [hMz3]; exact OffM_s h1.1 (by decide)
      have hTm := MT0_off hof2 hT.1
      have f1 : Mz3 60 42 = -1 := by rw [hMz3, st_at, if_neg (by decide)]; exact h1.2.1
      have f2 : Mz3 60 43 = -1 := by rw [hMz3, st_at, if_neg (by decide)]; exact h1.2.2.1
      have f3 : Mz3 60 44 = lz := by rw [hMz3, st_same]
      have f4 : Mz3 60 45 = 0 := by rw [hMz3, st_at, if_neg (by decide)]; exact h1.2.2.2
      have f0 : Mz3 60 0 = M 60 0 := OffM_o hof2 (by decide)
      refine z_iload_n dX8_blame_29 rfl ?_
      refine z_aload_nr dX8_blame_30 rfl ?_
      refine z_aload_nr dX8_blame_31 rfl ?_
      refine z_geti (kz := 0) fl_X8_136 rfl (by decide) rfl dX8_blame_32 (fun x4 hx4 bx4 => ?_)
      rw [hMz3, st_at, if_neg (by decide)] at hx4
      have hn2 : x4 = M 60 0 := by omega
      refine z_callVi (n2 := 93) (A_X8_sumWays l g Mz3 x4 (hTm) (by rw [f4]; decide)) cb_X8_sumWays cl_X8_335 (clr0 rfl rfl (by decide) (by decide)) rfl (by decide) ⟨_, rfl, rfl⟩ rfl (by decide) rfl (Nat.le_of_ble_eq_true rfl) rfl dX8_blame_35 (fun x5 Mz5 bx5 kMz5 hc5 => ?_)
      have hs2 := hc5
      rw [SolM_R hof2, f1, f2, f3, f4, hn2] at hs2
      refine z_callSip (n2 := 93) (A_X8_one l g Mz5 x5 (by omega)) cb_X8_one cl_X8_184 (clr0 rfl rfl (by decide) (by decide)) rfl (by decide) rfl (Nat.le_of_ble_eq_true rfl) rfl dX8_blame_38 (fun x6 bx6 hx6 => ?_)
      have hon := hx6
      refine z_iload_n dX8_blame_41 rfl ?_
      refine z_ishl dX8_blame_42 (fun x7 hx7 bx7 => ?_)
      have hsh := hx7
      refine z_ior dX8_blame_43 (fun x8 hx8 bx8 => ?_)
      refine z_istore_n (loc2 := [fr 60, fi x8, fi lz]) dX8_blame_44 (by decide) rfl ?_
      refine z_iinc (loc2 := fun vq => [fr 60, fi x8, fi vq]) dX8_blame_45 rfl (by decide) (by omega) (fun _ => rfl) (fun x9 hx9 => ?_)
      refine z_goto (tgt := 18) dX8_blame_48 (by decide) ?_
      have g1 : OffM M Mz5 ∧ Mz5 60 42 = -1 ∧ Mz5 60 43 = -1 ∧ Mz5 60 45 = 0 := ⟨OffM_tr hof2 (OffM_w hs2.1), (hs2.1 60 42 (by decide)).trans f1, (hs2.1 60 43 (by decide)).trans f2, (hs2.1 60 45 (by decide)).trans f4⟩
      have g3 : x8 = maskS (fun l => Feas (SolR M (M 60 0) l (-1) (-1) 0)) (lz + 1) := by
        have hb := mask_b (fun l => Feas (SolR M (M 60 0) l (-1) (-1) 0)) lz h0.1
        rw [← h3] at hb
        have ho := or_bit h0.1 (by omega) hb.1 hb.2
        unfold maskS at h3 ⊢
        rw [sumI_succ h0.1, ← h3]
        rw [hx8, hsh, hon]
        rcases hs2.2 with ⟨q1, q2, q3⟩ | ⟨q1, q2⟩
        · rw [c01_t q2, Int.one_mul, q1]; exact ho.1
        · rw [c01_f q2, Int.zero_mul, Int.add_zero, q1, shl_0 h0.1 (by omega)]; exact ho.2
      exact ih18 _ (by omega) x8 x9 Mz5 rfl (by omega) (g1) (h2) (by rw [hx9]; exact g3)
  refine z_aload_nr dX8_blame_0 rfl ?_
  refine z_aload_nr dX8_blame_1 rfl ?_
  refine z_geti (kz := 0) fl_X8_136 rfl (by decide) rfl dX8_blame_2 (fun x10 hx10 bx10 => ?_)
  have hnn : x10 = M 60 0 := by assumption
  refine z_callVi (n2 := 93) (A_X8_sumWays l g M x10 (hT.1) (wide0 hT)) cb_X8_sumWays cl_X8_335 (clr0 rfl rfl (by decide) (by decide)) rfl (by decide) ⟨_, rfl, rfl⟩ rfl (by decide) rfl (Nat.le_of_ble_eq_true rfl) rfl dX8_blame_5 (fun x11 Mz11 bx11 kMz11 hc11 => ?_)
  have hsw := hc11
  rw [SolM_MT hT _] at hsw
  have hoN := OffN_w hT hsw.1
  refine z_if_eq (tgt := 14) dX8_blame_8 (by decide) (fun c12 => ?_) (fun c12 => ?_)
  · refine z_iconst dX8_blame_14 ⟨by decide, by decide⟩ ?_
    refine z_istore_n (loc2 := [fr 60, fi 0, fu]) dX8_blame_15 (by decide) rfl ?_
    refine z_iconst dX8_blame_16 ⟨by decide, by decide⟩ ?_
    refine z_istore_n (loc2 := [fr 60, fi 0, fi 0]) dX8_blame_17 (by decide) rfl ?_
    exact lp18 _ 0 0 Mz11 rfl (by omega) (⟨hoN.1, hoN.2.1, hoN.2.2.1, hoN.2.2.2.2⟩) (by rw [hnn] at hsw; rcases hsw.2 with z | z; (exfalso; omega); exact z.2) (rfl)
  · refine z_ldc (c := -1000003) cn_X8_188 ⟨by decide, by decide⟩ dX8_blame_11 ?_
    refine z_iret rfl (by decide) rfl (Nat.sub_self _) dX8_blame_13 ?_
    refine ⟨hoN, Or.inl ⟨?_, rfl⟩⟩
    rw [hnn] at hsw
    rcases hsw.2 with z | z
    · exact z.2.1
    · exfalso; omega
set_option maxHeartbeats 1600000 in
theorem A_X8_worth (l : Launch) (g : Cx) (M : FMem) (list home : Int) (hT : MT M) : AMi l g true fi_X8_worth [fr 60, fi list, fi home] 93 M (fun q M2 => OffN M M2 ∧ PWorth (SolR M (M 60 0) (-1) (-1) (-1) 0) (SolR M (M 60 0) list (-1) (-1) 0) list home q) := by
  refine AMi_intro [fr 60, fi list, fi home, fu, fu] (by decide) (knall rfl) (Nat.le_of_ble_eq_true rfl) rfl ?_
  intro hNV hM0 μ
  have blist : N32 list := hNV (fi list) (by simp)
  have bhome : N32 home := hNV (fi home) (by simp)
  refine z_iload_n dX8_worth_0 rfl ?_
  refine z_callSip (n2 := 93) (A_X8_isList l g M list) cb_X8_isList cl_X8_143 (clr0 rfl rfl (by decide) (by decide)) rfl (by decide) rfl (Nat.le_of_ble_eq_true rfl) rfl dX8_worth_1 (fun x1 bx1 hx1 => ?_)
  have i1 := if01 hx1
  refine z_if_eq (tgt := 14) dX8_worth_4 (by decide) (fun c2 => ?_) (fun c2 => ?_)
  · refine z_ldc (c := -1000001) cn_X8_153 ⟨by decide, by decide⟩ dX8_worth_14 ?_
    refine z_iret rfl (by decide) rfl (Nat.sub_self _) dX8_worth_16 ?_
    refine ⟨OffN_rfl hT, ?_⟩
    unfold PWorth
    rw [if_pos (by omega)]
  · refine z_iload_n dX8_worth_7 rfl ?_
    refine z_callSip (n2 := 93) (A_X8_isHome l g M home) cb_X8_isHome cl_X8_150 (clr0 rfl rfl (by decide) (by decide)) rfl (by decide) rfl (Nat.le_of_ble_eq_true rfl) rfl dX8_worth_8 (fun x3 bx3 hx3 => ?_)
    have i3 := if01 hx3
    refine z_if_ne (tgt := 17) dX8_worth_11 (by decide) (fun c4 => ?_) (fun c4 => ?_)
    · refine z_aload_nr dX8_worth_17 rfl ?_
      refine z_aload_nr dX8_worth_18 rfl ?_
      refine z_geti (kz := 0) fl_X8_136 rfl (by decide) rfl dX8_worth_19 (fun x5 hx5 bx5 => ?_)
      have hnn : x5 = M 60 0 := by assumption
      refine z_callVi (n2 := 93) (A_X8_sumWays l g M x5 (hT.1) (wide0 hT)) cb_X8_sumWays cl_X8_335 (clr0 rfl rfl (by decide) (by decide)) rfl (by decide) ⟨_, rfl, rfl⟩ rfl (by decide) rfl (Nat.le_of_ble_eq_true rfl) rfl dX8_worth_22 (fun x6 Mz6 bx6 kMz6 hc6 => ?_)
      have hsw := hc6
      rw [SolM_MT hT _] at hsw
      have hoN := OffN_w hT hsw.1
      refine z_if_ne (tgt := 32) dX8_worth_25 (by decide) (fun c7 => ?_) (fun c7 => ?_)
      · rw [hnn] at hsw
        have hsf : Feas (SolR M (M 60 0) (-1) (-1) (-1) 0) ∧ WF (SolR M (M 60 0) (-1) (-1) (-1) 0) Mz6 := by
          rcases hsw.2 with z | z
          · exact z.2
          · exfalso; omega
        have hes := WF_es hsf.2 (h := home) (by omega) (by omega)
        refine z_aload_nr dX8_worth_32 rfl ?_
        refine z_iload_n dX8_worth_33 rfl ?_
        refine z_callVip (n2 := 93) (A_X8_isLoose l g Mz6 home (by omega)) cb_X8_isLoose cl_X8_338 (clr0 rfl rfl (by decide) (by decide)) rfl (by decide) ⟨_, rfl, rfl⟩ rfl (by decide) rfl (Nat.le_of_ble_eq_true rfl) rfl dX8_worth_34 (fun x8 bx8 hx8 => ?_)
        have i8 := if01 hx8
        refine z_if_eq (tgt := 44) dX8_worth_37 (by decide) (fun c9 => ?_) (fun c9 => ?_)
        · have hes2 : (-10000000 ≤ Mz6 86 (1 + home) ∧ Mz6 86 (1 + home) ≤ 10000000) ∧ (-10000000 ≤ Mz6 86 (17 * (1 + home)) ∧ Mz6 86 (17 * (1 + home)) ≤ 10000000) ∧ Ends2 (SolR M (M 60 0) (-1) (-1) (-1) 0) home (-(Mz6 86 (17 * (1 + home)))) (Mz6 86 (1 + home)) := by
            rcases hes with z | z
            · exfalso; omega
            · exact z
          refine z_aload_nr dX8_worth_44 rfl ?_
          refine z_iload_n dX8_worth_45 rfl ?_
          refine z_callVip (n2 := 93) (A_X8_highEnd l g Mz6 home (by omega) (by omega)) cb_X8_highEnd cl_X8_365 (clr0 rfl rfl (by decide) (by decide)) rfl (by decide) ⟨_, rfl, rfl⟩ rfl (by decide) rfl (Nat.le_of_ble_eq_true rfl) rfl dX8_worth_46 (fun x10 bx10 hx10 => ?_)
          refine z_aload_nr dX8_worth_49 rfl ?_
          refine z_iload_n dX8_worth_50 rfl ?_
          refine z_callVip (n2 := 93) (A_X8_lowEnd l g Mz6 home (by omega) (by omega)) cb_X8_lowEnd cl_X8_362 (clr0 rfl rfl (by decide) (by decide)) rfl (by decide) ⟨_, rfl, rfl⟩ rfl (by decide) rfl (Nat.le_of_ble_eq_true rfl) rfl dX8_worth_51 (fun x11 bx11 hx11 => ?_)
          first | refine z_isubN dX8_worth_54 (by omega) (fun x12 hx12 => ?_) | refine z_isub dX8_worth_54 (fun x12 hx12 => ?_)
          refine z_istore_n (loc2 := [fr 60, fi list, fi home, fi x12, fu]) dX8_worth_55 (by decide) rfl ?_
          refine z_aload_nr dX8_worth_56 rfl ?_
          refine z_iload_n dX8_worth_57 rfl ?_
          refine z_puti (kz := 44) fl_X8_100 rfl (by decide) rfl nr_60_44 dX8_worth_58 (fun Mz13 hMz13 => ?_)
          have q0 := OffM_o hoN.1 (j := 0) (by decide)
          have hof2 : OffM M Mz13 := by rw [hMz13]; exact OffM_s hoN.1 (by decide)
          have hTm := MT0_off hof2 hT.1
          have f1 : Mz13 60 42 = -1 := by rw [hMz13, st_at, if_neg (by decide)]; exact hoN.2.1
          have f2 : Mz13 60 43 = -1 := by rw [hMz13, st_at, if_neg (by decide)]; exact hoN.2.2.1
          have f3 : Mz13 60 44 = list := by rw [hMz13, st_same]
          have f4 : Mz13 60 45 = 0 := by rw [hMz13, st_at, if_neg (by decide)]; exact hoN.2.2.2.2
          have f0 : Mz13 60 0 = M 60 0 := OffM_o hof2 (by decide)
          refine z_aload_nr dX8_worth_61 rfl ?_
          refine z_aload_nr dX8_worth_62 rfl ?_
          refine z_geti (kz := 0) fl_X8_136 rfl (by decide) rfl dX8_worth_63 (fun x14 hx14 bx14 => ?_)
          rw [hMz13, st_at, if_neg (by decide)] at hx14
          have hn2 : x14 = M 60 0 := by omega
          refine z_callVi (n2 := 93) (A_X8_sumWays l g Mz13 x14 (hTm) (by rw [f4]; decide)) cb_X8_sumWays cl_X8_335 (clr0 rfl rfl (by decide) (by decide)) rfl (by decide) ⟨_, rfl, rfl⟩ rfl (by decide) rfl (Nat.le_of_ble_eq_true rfl) rfl dX8_worth_66 (fun x15 Mz15 bx15 kMz15 hc15 => ?_)
          have hs2 := hc15
          rw [SolM_R hof2, f1, f2, f3, f4, hn2] at hs2
          refine z_istore (loc2 := [fr 60, fi list, fi home, fi x12, fi x15]) dX8_worth_69 (by decide) rfl ?_
          obtain ⟨Mw, hMw⟩ : ∃ z, z = Mz15 := ⟨_, rfl⟩
          refine z_aload_nr dX8_worth_71 rfl ?_
          refine z_callVv (n2 := 93) (A_X8_forget l g Mz15 ) cb_X8_forget cl_X8_372 (clr0 rfl rfl (by decide) (by decide)) rfl (by decide) ⟨_, rfl, rfl⟩ rfl (by decide) rfl (Nat.le_of_ble_eq_true rfl) rfl dX8_worth_72 (fun Mz16 kMz16 hc16 => ?_)
          have hfo := hc16
          have hoF : OffN M Mz16 := by rw [hfo]; exact OffN_f (OffM_tr hof2 (OffM_w hs2.1))
          have hf2 : Feas (SolR M (M 60 0) list (-1) (-1) 0) ∧ WF (SolR M (M 60 0) list (-1) (-1) 0) Mz16 := by
            rcases hs2.2 with z | z
            · refine ⟨z.2.1, ?_⟩
              have hq : ∀ i, Mz16 86 i = Mw 86 i := fun i => by rw [hfo, st_cell (by decide), st_cell (by decide), st_cell (by decide), st_cell (by decide), hMw]
              have z3 := z.2.2
              rw [← hMw] at z3
              intro a b ha hb
              rw [hq]
              exact z3 a b ha hb
            · exact absurd (by obtain ⟨x, hx⟩ := hsf.1; exact ⟨x, SolR_sub hT.1 list (-1) (-1) hx⟩) z.2
          have hes3 := WF_es hf2.2 (h := home) (by omega) (by omega)
          refine z_aload_nr dX8_worth_75 rfl ?_
          refine z_iload_n dX8_worth_76 rfl ?_
          refine z_callVip (n2 := 93) (A_X8_isLoose l g Mz16 home (by omega)) cb_X8_isLoose cl_X8_338 (clr0 rfl rfl (by decide) (by decide)) rfl (by decide) ⟨_, rfl, rfl⟩ rfl (by decide) rfl (Nat.le_of_ble_eq_true rfl) rfl dX8_worth_77 (fun x17 bx17 hx17 => ?_)
          have i17 := if01 hx17
          refine z_if_eq (tgt := 89) dX8_worth_80 (by decide) (fun c18 => ?_) (fun c18 => ?_)
          · have hes4 : (-10000000 ≤ Mz16 86 (1 + home) ∧ Mz16 86 (1 + home) ≤ 10000000) ∧ (-10000000 ≤ Mz16 86 (17 * (1 + home)) ∧ Mz16 86 (17 * (1 + home)) ≤ 10000000) ∧ Ends2 (SolR M (M 60 0) list (-1) (-1) 0) home (-(Mz16 86 (17 * (1 + home)))) (Mz16 86 (1 + home)) := by
              rcases hes3 with z | z
              · exfalso; omega
              · exact z
            refine z_aload_nr dX8_worth_89 rfl ?_
            refine z_iload_n dX8_worth_90 rfl ?_
            refine z_callVip (n2 := 93) (A_X8_highEnd l g Mz16 home (by omega) (by omega)) cb_X8_highEnd cl_X8_365 (clr0 rfl rfl (by decide) (by decide)) rfl (by decide) ⟨_, rfl, rfl⟩ rfl (by decide) rfl (Nat.le_of_ble_eq_true rfl) rfl dX8_worth_91 (fun x19 bx19 hx19 => ?_)
            refine z_aload_nr dX8_worth_94 rfl ?_
            refine z_iload_n dX8_worth_95 rfl ?_
            refine z_callVip (n2 := 93) (A_X8_lowEnd l g Mz16 home (by omega) (by omega)) cb_X8_lowEnd cl_X8_362 (clr0 rfl rfl (by decide) (by decide)) rfl (by decide) ⟨_, rfl, rfl⟩ rfl (by decide) rfl (Nat.le_of_ble_eq_true rfl) rfl dX8_worth_96 (fun x20 bx20 hx20 => ?_)
            first | refine z_isubN dX8_worth_99 (by omega) (fun x21 hx21 => ?_) | refine z_isub dX8_worth_99 (fun x21 hx21 => ?_)
            refine z_iload_n dX8_worth_100 rfl ?_
            first | refine z_isubN dX8_worth_101 (by omega) (fun x22 hx22 => ?_) | refine z_isub dX8_worth_101 (fun x22 hx22 => ?_)
            refine z_iret rfl (by decide) rfl (Nat.sub_self _) dX8_worth_102 ?_
            refine ⟨hoF, ?_⟩
            unfold PWorth
            rw [if_neg (by omega)]
            refine Or.inr (Or.inr ⟨hsf.1, _, _, hes2.2.2, ?_⟩)
            first
            | (refine Or.inl ⟨?_, rfl⟩
               rcases hes3 with z | z
               · exact z.2
               · exfalso; omega)
            | (refine Or.inr ⟨_, _, hes4.2.2, ?_⟩
               omega)
          · refine z_ldc_w (c := -1000007) cn_X8_398 ⟨by decide, by decide⟩ dX8_worth_83 ?_
            refine z_goto (tgt := 102) dX8_worth_86 (by decide) ?_
            refine z_iret rfl (by decide) rfl (Nat.sub_self _) dX8_worth_102 ?_
            refine ⟨hoF, ?_⟩
            unfold PWorth
            rw [if_neg (by omega)]
            refine Or.inr (Or.inr ⟨hsf.1, _, _, hes2.2.2, ?_⟩)
            first
            | (refine Or.inl ⟨?_, rfl⟩
               rcases hes3 with z | z
               · exact z.2
               · exfalso; omega)
            | (refine Or.inr ⟨_, _, hes4.2.2, ?_⟩
               omega)
        · refine z_ldc_w (c := -1000006) cn_X8_361 ⟨by decide, by decide⟩ dX8_worth_40 ?_
          refine z_iret rfl (by decide) rfl (Nat.sub_self _) dX8_worth_43 ?_
          refine ⟨hoN, ?_⟩
          unfold PWorth
          rw [if_neg (by omega)]
          refine Or.inr (Or.inl ⟨hsf.1, ?_, rfl⟩)
          rcases hes with z | z
          · exact z.2
          · exfalso; omega
      · refine z_ldc_w (c := -1000005) cn_X8_357 ⟨by decide, by decide⟩ dX8_worth_28 ?_
        refine z_iret rfl (by decide) rfl (Nat.sub_self _) dX8_worth_31 ?_
        refine ⟨hoN, ?_⟩
        unfold PWorth
        rw [if_neg (by omega)]
        refine Or.inl ⟨?_, rfl⟩
        rw [hnn] at hsw
        rcases hsw.2 with z | z
        · exfalso; omega
        · exact z.2
    · refine z_ldc (c := -1000001) cn_X8_153 ⟨by decide, by decide⟩ dX8_worth_14 ?_
      refine z_iret rfl (by decide) rfl (Nat.sub_self _) dX8_worth_16 ?_
      refine ⟨OffN_rfl hT, ?_⟩
      unfold PWorth
      rw [if_pos (by omega)]
/-- the telling picked so far -/
def FndL (O : Int → Prop) (n i q : Int) : Prop := (∃ t, 0 ≤ t ∧ t < n ∧ O t ∧ sumI (fun t => c01 (O t)) t = i ∧ q = t) ∨ ((∀ t, 0 ≤ t → t < n → O t → sumI (fun t => c01 (O t)) t ≠ i) ∧ q = -1)
theorem FndL_no {O : Int → Prop} {n i q : Int} (h0 : 0 ≤ n) (h : FndL O n i q) (hn : ¬ (O n ∧ sumI (fun t => c01 (O t)) n = i)) : FndL O (n + 1) i q := by
  rcases h with ⟨t, a, b, c, d, e⟩ | ⟨a, b⟩
  · exact Or.inl ⟨t, a, by omega, c, d, e⟩
  · refine Or.inr ⟨fun t t0 t1 t2 t3 => ?_, b⟩
    by_cases z : t = n
    · subst z; exact hn ⟨t2, t3⟩
    · exact a t t0 (by omega) t2 t3
theorem FndL_cg {O : Int → Prop} {n i q q2 : Int} (e : q = q2) (h : FndL O n i q2) : FndL O n i q := by rw [e]; exact h
theorem FndL_yes {O : Int → Prop} {n i : Int} (h0 : 0 ≤ n) (ho : O n) (hs : sumI (fun t => c01 (O t)) n = i) : FndL O (n + 1) i n := Or.inl ⟨n, h0, by omega, ho, hs, rfl⟩
set_option maxHeartbeats 6400000 in
theorem A_X8_lead (l : Launch) (g : Cx) (M : FMem) (home what i : Int) (hT : MT M) : AMi l g true fi_X8_lead [fr 60, fi home, fi what, fi i] 93 M (fun q M2 => OffN M M2 ∧ PLead (M 60 0) (fun t => M 70 t = 0 ∧ M 69 t = 0) (SolR M (M 60 0) (-1) (-1) (-1) 0) (fun t => (SolR M (M 60 0) (-1) t (-1) 0)) home what i q) := by
  refine AMi_intro [fr 60, fi home, fi what, fi i, fu, fu, fu, fu, fu, fu] (by decide) (knall rfl) (Nat.le_of_ble_eq_true rfl) rfl ?_
  intro hNV hM0 μ
  have bhome : N32 home := hNV (fi home) (by simp)
  have bwhat : N32 what := hNV (fi what) (by simp)
  have bi : N32 i := hNV (fi i) (by simp)
  have hT0 := hT.1.1
  have lp78 : ∀ (kq : Nat) (ez nz pz tz : Int) (M1 : FMem), (80 - tz).toNat = kq → ((0 ≤ home ∧ home ≤ 9) ∧ (what = 0 ∨ what = 1)) → (0 ≤ tz ∧ tz ≤ M 60 0) → (OffN M M1) → (Feas (SolR M (M 60 0) (-1) (-1) (-1) 0) ∧ ¬ FreeD (SolR M (M 60 0) (-1) (-1) (-1) 0) 16 home ∧ EndR (SolR M (M 60 0) (-1) (-1) (-1) 0) what home ez) → (nz = sumI (fun t => c01 ((LdO (fun t => M 70 t = 0 ∧ M 69 t = 0) (SolR M (M 60 0) (-1) (-1) (-1) 0) (fun t => (SolR M (M 60 0) (-1) t (-1) 0)) what home) t)) tz) → (FndL (LdO (fun t => M 70 t = 0 ∧ M 69 t = 0) (SolR M (M 60 0) (-1) (-1) (-1) 0) (fun t => (SolR M (M 60 0) (-1) t (-1) 0)) what home) tz i pz) → Wa l g true fi_X8_lead 93 μ (Zi g true fi_X8_lead 93 μ (fun q M2 => OffN M M2 ∧ PLead (M 60 0) (fun t => M 70 t = 0 ∧ M 69 t = 0) (SolR M (M 60 0) (-1) (-1) (-1) 0) (fun t => (SolR M (M 60 0) (-1) t (-1) 0)) home what i q)) 78 [] [fr 60, fi home, fi what, fi i, fi ez, fi nz, fi pz, fi tz, fu, fu] 93 M1 := by
    intro kq
    induction kq using Nat.strongRecOn with
    | _ kq ih78 =>
    intro ez nz pz tz M1 hk78 hA h0 h1 h2 h3 h4
    have hsl := sumI_le (f := fun t => c01 ((LdO (fun t => M 70 t = 0 ∧ M 69 t = 0) (SolR M (M 60 0) (-1) (-1) (-1) 0) (fun t => (SolR M (M 60 0) (-1) t (-1) 0)) what home) t)) (fun t => c01_r _) tz
    have q0 := OffM_o h1.1 (j := 0) (by decide)
    have q69 : M1 69 = M 69 := OffM_c h1.1 (by decide)
    have q70 : M1 70 = M 70 := OffM_c h1.1 (by decide)
    have q62 : M1 62 = M 62 := OffM_c h1.1 (by decide)
    have r69 : M1 69 tz = M 69 tz := by rw [q69]
    have r70 : M1 70 tz = M 70 tz := by rw [q70]
    have r62 : M1 62 tz = M 62 tz := by rw [q62]
    have o1 := h1.2.1
    have o2 := h1.2.2.1
    have o3 := h1.2.2.2.1
    refine z_iload dX8_lead_78 rfl ?_
    refine z_aload_nr dX8_lead_80 rfl ?_
    refine z_geti (kz := 0) fl_X8_136 rfl (by decide) rfl dX8_lead_81 (fun x1 hx1 bx1 => ?_)
    refine z_icmp_ge (tgt := 194) dX8_lead_84 (by decide) (fun c2 => ?_) (fun c2 => ?_)
    · refine z_iload_n dX8_lead_194 rfl ?_
      refine z_iconst dX8_lead_195 ⟨by decide, by decide⟩ ?_
      refine z_icmp_ne (tgt := 204) dX8_lead_196 (by decide) (fun c3 => ?_) (fun c3 => ?_)
      · refine z_iload dX8_lead_204 rfl ?_
        refine z_iret rfl (by decide) rfl (Nat.sub_self _) dX8_lead_206 ?_
        refine ⟨h1, ?_⟩
        unfold PLead
        rw [if_neg (by omega), if_neg (by omega)]
        refine Or.inr (Or.inr ⟨h2.1, h2.2.1, ?_⟩)
        rw [show tz = M 60 0 by omega] at h3 h4
        first
        | exact Or.inl ⟨by omega, h3⟩
        | exact Or.inr ⟨by omega, h4⟩
      · refine z_iload dX8_lead_199 rfl ?_
        refine z_goto (tgt := 206) dX8_lead_201 (by decide) ?_
        refine z_iret rfl (by decide) rfl (Nat.sub_self _) dX8_lead_206 ?_
        refine ⟨h1, ?_⟩
        unfold PLead
        rw [if_neg (by omega), if_neg (by omega)]
        refine Or.inr (Or.inr ⟨h2.1, h2.2.1, ?_⟩)
        rw [show tz = M 60 0 by omega] at h3 h4
        first
        | exact Or.inl ⟨by omega, h3⟩
        | exact Or.inr ⟨by omega, h4⟩
    · refine z_aload_nr dX8_lead_87 rfl ?_
      refine z_iload dX8_lead_88 rfl ?_
      refine z_aload_nr dX8_lead_90 rfl ?_
      refine z_geti (kz := 0) fl_X8_136 rfl (by decide) rfl dX8_lead_91 (fun x4 hx4 bx4 => ?_)
      refine z_callVip (n2 := 93) (A_X8_isIn l g M1 tz x4 (by omega)) cb_X8_isIn cl_X8_309 (clr0 rfl rfl (by decide) (by decide)) rfl (by decide) ⟨_, rfl, rfl⟩ rfl (by decide) rfl (Nat.le_of_ble_eq_true rfl) rfl dX8_lead_94 (fun x5 bx5 hx5 => ?_)
      have i5 := if01 hx5
      refine z_if_eq (tgt := 188) dX8_lead_97 (by decide) (fun c6 => ?_) (fun c6 => ?_)
      · refine z_iinc (loc2 := fun vq => [fr 60, fi home, fi what, fi i, fi ez, fi nz, fi pz, fi vq, fu, fu]) dX8_lead_188 rfl (by decide) (by omega) (fun _ => rfl) (fun x7 hx7 => ?_)
        refine z_goto (tgt := 78) dX8_lead_191 (by decide) ?_
        have hgo : OffN M M1 ∧ (((LdO (fun t => M 70 t = 0 ∧ M 69 t = 0) (SolR M (M 60 0) (-1) (-1) (-1) 0) (fun t => (SolR M (M 60 0) (-1) t (-1) 0)) what home) tz ∧ nz = nz + 1 ∧ ((nz = i ∧ pz = tz) ∨ (nz ≠ i ∧ pz = pz))) ∨ (¬ (LdO (fun t => M 70 t = 0 ∧ M 69 t = 0) (SolR M (M 60 0) (-1) (-1) (-1) 0) (fun t => (SolR M (M 60 0) (-1) t (-1) 0)) what home) tz ∧ nz = nz ∧ pz = pz)) := by
          first
          | (refine ⟨h1, Or.inr ⟨fun z => ?_, rfl, rfl⟩⟩
             have htel := hT.1.2.1 tz h0.1 (by omega)
             unfold TelM TelOk at htel
             have z1 := z.1
             omega)
          | (refine ⟨hoM, ?_⟩
             rcases hoth with z | z
             · first
               | (exfalso; omega)
               | exact Or.inl ⟨z.2, by omega, by omega⟩
             · first
               | (exfalso; omega)
               | exact Or.inr ⟨z.2, by omega, by omega⟩)
        have g3 : nz = sumI (fun t => c01 ((LdO (fun t => M 70 t = 0 ∧ M 69 t = 0) (SolR M (M 60 0) (-1) (-1) (-1) 0) (fun t => (SolR M (M 60 0) (-1) t (-1) 0)) what home) t)) (tz + 1) := by
          rw [sumI_succ h0.1, ← h3]
          rcases hgo.2 with z | z
          · rw [c01_t z.1]; exact z.2.1
          · rw [c01_f z.1]; rw [z.2.1]; omega
        have g4 : FndL (LdO (fun t => M 70 t = 0 ∧ M 69 t = 0) (SolR M (M 60 0) (-1) (-1) (-1) 0) (fun t => (SolR M (M 60 0) (-1) t (-1) 0)) what home) (tz + 1) i pz := by
          rcases hgo.2 with ⟨a, b, c⟩ | ⟨a, b, c⟩
          · rcases c with ⟨c1, c2⟩ | ⟨c1, c2⟩
            · exact FndL_cg c2 (FndL_yes h0.1 a (by rw [← h3]; exact c1))
            · exact FndL_cg c2 (FndL_no h0.1 h4 (fun z => c1 (by rw [h3]; exact z.2)))
          · exact FndL_cg c (FndL_no h0.1 h4 (fun z => a z.1))
        exact ih78 _ (by omega) ez nz pz x7 M1 rfl (hA) (by omega) (hgo.1) (h2) (by rw [hx7]; exact g3) (by rw [hx7]; exact g4)
      · refine z_aload_nr dX8_lead_100 rfl ?_
        refine z_iload dX8_lead_101 rfl ?_
        refine z_puti (kz := 42) fl_X8_94 rfl (by decide) rfl nr_60_42 dX8_lead_103 (fun Mz8 hMz8 => ?_)
        have hof2 : OffM M Mz8 := by rw [hMz8]; exact OffM_s h1.1 (by decide)
        have hTm := MT0_off hof2 hT.1
        have f1 : Mz8 60 42 = tz := by rw [hMz8, st_same]
        have f2 : Mz8 60 43 = -1 := by rw [hMz8, st_at, if_neg (by decide)]; exact h1.2.2.1
        have f3 : Mz8 60 44 = -1 := by rw [hMz8, st_at, if_neg (by decide)]; exact h1.2.2.2.1
        have f4 : Mz8 60 45 = 0 := by rw [hMz8, st_at, if_neg (by decide)]; exact h1.2.2.2.2
        have f0 : Mz8 60 0 = M 60 0 := OffM_o hof2 (by decide)
        refine z_aload_nr dX8_lead_106 rfl ?_
        refine z_aload_nr dX8_lead_107 rfl ?_
        refine z_geti (kz := 0) fl_X8_136 rfl (by decide) rfl dX8_lead_108 (fun x9 hx9 bx9 => ?_)
        rw [hMz8, st_at, if_neg (by decide)] at hx9
        have hn2 : x9 = M 60 0 := by omega
        refine z_callVi (n2 := 93) (A_X8_sumWays l g Mz8 x9 (hTm) (by rw [f4]; decide)) cb_X8_sumWays cl_X8_335 (clr0 rfl rfl (by decide) (by decide)) rfl (by decide) ⟨_, rfl, rfl⟩ rfl (by decide) rfl (Nat.le_of_ble_eq_true rfl) rfl dX8_lead_111 (fun x10 Mz10 bx10 kMz10 hc10 => ?_)
        have hs2 := hc10
        rw [SolM_R hof2, f1, f2, f3, f4, hn2] at hs2
        obtain ⟨Mw, hMw⟩ : ∃ z, z = Mz10 := ⟨_, rfl⟩
        have hf2 : Feas (SolR M (M 60 0) (-1) tz (-1) 0) ∧ WF (SolR M (M 60 0) (-1) tz (-1) 0) Mz10 := by
          rcases hs2.2 with z | z
          · exact z.2
          · exact absurd (by obtain ⟨x, hx⟩ := h2.1; exact ⟨x, SolR_sub hT.1 (-1) tz (-1) hx⟩) z.2
        refine z_istore (loc2 := [fr 60, fi home, fi what, fi i, fi ez, fi nz, fi pz, fi tz, fi x10, fu]) dX8_lead_114 (by decide) rfl ?_
        refine z_aload_nr dX8_lead_116 rfl ?_
        refine z_iconst dX8_lead_117 ⟨by decide, by decide⟩ ?_
        refine z_puti (kz := 42) fl_X8_94 rfl (by decide) rfl nr_60_42 dX8_lead_118 (fun Mz11 hMz11 => ?_)
        have hoM : OffN M Mz11 := by
          rw [hMz11]
          refine ⟨OffM_s (OffM_tr hof2 (OffM_w hs2.1)) (by decide), st_same _ _ _ _, ?_, ?_, ?_⟩
          · rw [st_at, if_neg (by decide)]; exact (hs2.1 60 43 (by decide)).trans f2
          · rw [st_at, if_neg (by decide)]; exact (hs2.1 60 44 (by decide)).trans f3
          · rw [st_at, if_neg (by decide)]; exact (hs2.1 60 45 (by decide)).trans f4
        have hes3 : ES (SolR M (M 60 0) (-1) tz (-1) 0) Mz11 home := by
          have hq : ∀ i, Mz11 86 i = Mw 86 i := fun i => by rw [hMz11, st_cell (by decide), hMw]
          have z3 := WF_es hf2.2 (h := home) (by omega) (by omega)
          rw [← hMw] at z3
          unfold ES
          rw [hq, hq]
          exact z3
        have hin3 : M 70 tz = 0 ∧ M 69 tz = 0 := by omega
        refine z_aload_nr dX8_lead_121 rfl ?_
        refine z_iload_n dX8_lead_122 rfl ?_
        refine z_callVip (n2 := 93) (A_X8_isLoose l g Mz11 home (by omega)) cb_X8_isLoose cl_X8_338 (clr0 rfl rfl (by decide) (by decide)) rfl (by decide) ⟨_, rfl, rfl⟩ rfl (by decide) rfl (Nat.le_of_ble_eq_true rfl) rfl dX8_lead_123 (fun x12 bx12 hx12 => ?_)
        have i12 := if01 hx12
        refine z_if_ne (tgt := 151) dX8_lead_126 (by decide) (fun c13 => ?_) (fun c13 => ?_)
        · refine z_iconst dX8_lead_151 ⟨by decide, by decide⟩ ?_
          refine z_goto (tgt := 156) dX8_lead_152 (by decide) ?_
          have hoth : (1 = 1 ∧ (LdO (fun t => M 70 t = 0 ∧ M 69 t = 0) (SolR M (M 60 0) (-1) (-1) (-1) 0) (fun t => (SolR M (M 60 0) (-1) t (-1) 0)) what home) tz) ∨ (1 = 0 ∧ ¬ (LdO (fun t => M 70 t = 0 ∧ M 69 t = 0) (SolR M (M 60 0) (-1) (-1) (-1) 0) (fun t => (SolR M (M 60 0) (-1) t (-1) 0)) what home) tz) := by
            first
            | (refine Or.inl ⟨rfl, hin3, fun ⟨d, d1, d2⟩ => ?_⟩
               rcases hes3 with z | z
               · exact EndR_free d2 z.2
               · exfalso; omega)
            | (have he4 : EndR (SolR M (M 60 0) (-1) tz (-1) 0) what home (Mz11 86 (1 + home)) := Or.inl ⟨by omega, hes4.2.2.1⟩
               first
               | (refine Or.inl ⟨rfl, hin3, fun ⟨d, d1, d2⟩ => ?_⟩
                  have a := EndR_eq d1 h2.2.2
                  have b := EndR_eq d2 he4
                  omega)
               | (refine Or.inr ⟨rfl, fun z => z.2 ⟨ez, h2.2.2, ?_⟩⟩
                  rw [show ez = Mz11 86 (1 + home) by omega]
                  exact he4))
            | (have he4 : EndR (SolR M (M 60 0) (-1) tz (-1) 0) what home (-(Mz11 86 (17 * (1 + home)))) := Or.inr ⟨by omega, hes4.2.2.2⟩
               first
               | (refine Or.inl ⟨rfl, hin3, fun ⟨d, d1, d2⟩ => ?_⟩
                  have a := EndR_eq d1 h2.2.2
                  have b := EndR_eq d2 he4
                  omega)
               | (refine Or.inr ⟨rfl, fun z => z.2 ⟨ez, h2.2.2, ?_⟩⟩
                  rw [show ez = -(Mz11 86 (17 * (1 + home))) by omega]
                  exact he4))
          refine z_istore (loc2 := [fr 60, fi home, fi what, fi i, fi ez, fi nz, fi pz, fi tz, fi x10, fi 1]) dX8_lead_156 (by decide) rfl ?_
          refine z_iload dX8_lead_158 rfl ?_
          refine z_if_eq (tgt := 174) dX8_lead_160 (by decide) (fun c14 => ?_) (fun c14 => ?_)
          · exfalso; omega
          · refine z_iload dX8_lead_163 rfl ?_
            refine z_iload_n dX8_lead_165 rfl ?_
            refine z_icmp_ne (tgt := 174) dX8_lead_166 (by decide) (fun c15 => ?_) (fun c15 => ?_)
            · refine z_iload dX8_lead_174 rfl ?_
              refine z_istore (loc2 := [fr 60, fi home, fi what, fi i, fi ez, fi nz, fi pz, fi tz, fi x10, fi 1]) dX8_lead_176 (by decide) rfl ?_
              refine z_iload dX8_lead_178 rfl ?_
              refine z_iload dX8_lead_180 rfl ?_
              refine z_callSip (n2 := 93) (A_X8_one l g Mz11 1 (by omega)) cb_X8_one cl_X8_184 (clr0 rfl rfl (by decide) (by decide)) rfl (by decide) rfl (Nat.le_of_ble_eq_true rfl) rfl dX8_lead_182 (fun x16 bx16 hx16 => ?_)
              first | refine z_iaddN dX8_lead_185 (by omega) (fun x17 hx17 => ?_) | refine z_iadd dX8_lead_185 (fun x17 hx17 => ?_)
              refine z_istore (loc2 := [fr 60, fi home, fi what, fi i, fi ez, fi x17, fi pz, fi tz, fi x10, fi 1]) dX8_lead_186 (by decide) rfl ?_
              refine z_iinc (loc2 := fun vq => [fr 60, fi home, fi what, fi i, fi ez, fi x17, fi pz, fi vq, fi x10, fi 1]) dX8_lead_188 rfl (by decide) (by omega) (fun _ => rfl) (fun x18 hx18 => ?_)
              refine z_goto (tgt := 78) dX8_lead_191 (by decide) ?_
              have hgo : OffN M Mz11 ∧ (((LdO (fun t => M 70 t = 0 ∧ M 69 t = 0) (SolR M (M 60 0) (-1) (-1) (-1) 0) (fun t => (SolR M (M 60 0) (-1) t (-1) 0)) what home) tz ∧ x17 = nz + 1 ∧ ((nz = i ∧ pz = tz) ∨ (nz ≠ i ∧ pz = pz))) ∨ (¬ (LdO (fun t => M 70 t = 0 ∧ M 69 t = 0) (SolR M (M 60 0) (-1) (-1) (-1) 0) (fun t => (SolR M (M 60 0) (-1) t (-1) 0)) what home) tz ∧ x17 = nz ∧ pz = pz)) := by
                first
                | (refine ⟨h1, Or.inr ⟨fun z => ?_, rfl, rfl⟩⟩
                   have htel := hT.1.2.1 tz h0.1 (by omega)
                   unfold TelM TelOk at htel
                   have z1 := z.1
                   omega)
                | (refine ⟨hoM, ?_⟩
                   rcases hoth with z | z
                   · first
                     | (exfalso; omega)
                     | exact Or.inl ⟨z.2, by omega, by omega⟩
                   · first
                     | (exfalso; omega)
                     | exact Or.inr ⟨z.2, by omega, by omega⟩)
              have g3 : x17 = sumI (fun t => c01 ((LdO (fun t => M 70 t = 0 ∧ M 69 t = 0) (SolR M (M 60 0) (-1) (-1) (-1) 0) (fun t => (SolR M (M 60 0) (-1) t (-1) 0)) what home) t)) (tz + 1) := by
                rw [sumI_succ h0.1, ← h3]
                rcases hgo.2 with z | z
                · rw [c01_t z.1]; exact z.2.1
                · rw [c01_f z.1]; rw [z.2.1]; omega
              have g4 : FndL (LdO (fun t => M 70 t = 0 ∧ M 69 t = 0) (SolR M (M 60 0) (-1) (-1) (-1) 0) (fun t => (SolR M (M 60 0) (-1) t (-1) 0)) what home) (tz + 1) i pz := by
                rcases hgo.2 with ⟨a, b, c⟩ | ⟨a, b, c⟩
                · rcases c with ⟨c1, c2⟩ | ⟨c1, c2⟩
                  · exact FndL_cg c2 (FndL_yes h0.1 a (by rw [← h3]; exact c1))
                  · exact FndL_cg c2 (FndL_no h0.1 h4 (fun z => c1 (by rw [h3]; exact z.2)))
                · exact FndL_cg c (FndL_no h0.1 h4 (fun z => a z.1))
              refine z_few [fr 60, fi home, fi what, fi i, fi ez, fi x17, fi pz, fi x18, fu, fu] (by simp [fle, kn]) ?_
              exact ih78 _ (by omega) ez x17 pz x18 Mz11 rfl (hA) (by omega) (hgo.1) (h2) (by rw [hx18]; exact g3) (by rw [hx18]; exact g4)
            · refine z_iload dX8_lead_169 rfl ?_
              refine z_goto (tgt := 176) dX8_lead_171 (by decide) ?_
              refine z_istore (loc2 := [fr 60, fi home, fi what, fi i, fi ez, fi nz, fi tz, fi tz, fi x10, fi 1]) dX8_lead_176 (by decide) rfl ?_
              refine z_iload dX8_lead_178 rfl ?_
              refine z_iload dX8_lead_180 rfl ?_
              refine z_callSip (n2 := 93) (A_X8_one l g Mz11 1 (by omega)) cb_X8_one cl_X8_184 (clr0 rfl rfl (by decide) (by decide)) rfl (by decide) rfl (Nat.le_of_ble_eq_true rfl) rfl dX8_lead_182 (fun x19 bx19 hx19 => ?_)
              first | refine z_iaddN dX8_lead_185 (by omega) (fun x20 hx20 => ?_) | refine z_iadd dX8_lead_185 (fun x20 hx20 => ?_)
              refine z_istore (loc2 := [fr 60, fi home, fi what, fi i, fi ez, fi x20, fi tz, fi tz, fi x10, fi 1]) dX8_lead_186 (by decide) rfl ?_
              refine z_iinc (loc2 := fun vq => [fr 60, fi home, fi what, fi i, fi ez, fi x20, fi tz, fi vq, fi x10, fi 1]) dX8_lead_188 rfl (by decide) (by omega) (fun _ => rfl) (fun x21 hx21 => ?_)
              refine z_goto (tgt := 78) dX8_lead_191 (by decide) ?_
              have hgo : OffN M Mz11 ∧ (((LdO (fun t => M 70 t = 0 ∧ M 69 t = 0) (SolR M (M 60 0) (-1) (-1) (-1) 0) (fun t => (SolR M (M 60 0) (-1) t (-1) 0)) what home) tz ∧ x20 = nz + 1 ∧ ((nz = i ∧ tz = tz) ∨ (nz ≠ i ∧ tz = pz))) ∨ (¬ (LdO (fun t => M 70 t = 0 ∧ M 69 t = 0) (SolR M (M 60 0) (-1) (-1) (-1) 0) (fun t => (SolR M (M 60 0) (-1) t (-1) 0)) what home) tz ∧ x20 = nz ∧ tz = pz)) := by
                first
                | (refine ⟨h1, Or.inr ⟨fun z => ?_, rfl, rfl⟩⟩
                   have htel := hT.1.2.1 tz h0.1 (by omega)
                   unfold TelM TelOk at htel
                   have z1 := z.1
                   omega)
                | (refine ⟨hoM, ?_⟩
                   rcases hoth with z | z
                   · first
                     | (exfalso; omega)
                     | exact Or.inl ⟨z.2, by omega, by omega⟩
                   · first
                     | (exfalso; omega)
                     | exact Or.inr ⟨z.2, by omega, by omega⟩)
              have g3 : x20 = sumI (fun t => c01 ((LdO (fun t => M 70 t = 0 ∧ M 69 t = 0) (SolR M (M 60 0) (-1) (-1) (-1) 0) (fun t => (SolR M (M 60 0) (-1) t (-1) 0)) what home) t)) (tz + 1) := by
                rw [sumI_succ h0.1, ← h3]
                rcases hgo.2 with z | z
                · rw [c01_t z.1]; exact z.2.1
                · rw [c01_f z.1]; rw [z.2.1]; omega
              have g4 : FndL (LdO (fun t => M 70 t = 0 ∧ M 69 t = 0) (SolR M (M 60 0) (-1) (-1) (-1) 0) (fun t => (SolR M (M 60 0) (-1) t (-1) 0)) what home) (tz + 1) i tz := by
                rcases hgo.2 with ⟨a, b, c⟩ | ⟨a, b, c⟩
                · rcases c with ⟨c1, c2⟩ | ⟨c1, c2⟩
                  · exact FndL_cg c2 (FndL_yes h0.1 a (by rw [← h3]; exact c1))
                  · exact FndL_cg c2 (FndL_no h0.1 h4 (fun z => c1 (by rw [h3]; exact z.2)))
                · exact FndL_cg c (FndL_no h0.1 h4 (fun z => a z.1))
              refine z_few [fr 60, fi home, fi what, fi i, fi ez, fi x20, fi tz, fi x21, fu, fu] (by simp [fle, kn]) ?_
              exact ih78 _ (by omega) ez x20 tz x21 Mz11 rfl (hA) (by omega) (hgo.1) (h2) (by rw [hx21]; exact g3) (by rw [hx21]; exact g4)
        · have hes4 : (-10000000 ≤ Mz11 86 (1 + home) ∧ Mz11 86 (1 + home) ≤ 10000000) ∧ (-10000000 ≤ Mz11 86 (17 * (1 + home)) ∧ Mz11 86 (17 * (1 + home)) ≤ 10000000) ∧ Ends2 (SolR M (M 60 0) (-1) tz (-1) 0) home (-(Mz11 86 (17 * (1 + home)))) (Mz11 86 (1 + home)) := by
            rcases hes3 with z | z
            · exfalso; omega
            · exact z
          refine z_iload_n dX8_lead_129 rfl ?_
          refine z_if_ne (tgt := 141) dX8_lead_130 (by decide) (fun c22 => ?_) (fun c22 => ?_)
          · refine z_aload_nr dX8_lead_141 rfl ?_
            refine z_iload_n dX8_lead_142 rfl ?_
            refine z_callVip (n2 := 93) (A_X8_highEnd l g Mz11 home (by omega) (by omega)) cb_X8_highEnd cl_X8_365 (clr0 rfl rfl (by decide) (by decide)) rfl (by decide) ⟨_, rfl, rfl⟩ rfl (by decide) rfl (Nat.le_of_ble_eq_true rfl) rfl dX8_lead_143 (fun x23 bx23 hx23 => ?_)
            refine z_iload dX8_lead_146 rfl ?_
            refine z_icmp_eq (tgt := 155) dX8_lead_148 (by decide) (fun c24 => ?_) (fun c24 => ?_)
            · refine z_iconst dX8_lead_155 ⟨by decide, by decide⟩ ?_
              have hoth : (0 = 1 ∧ (LdO (fun t => M 70 t = 0 ∧ M 69 t = 0) (SolR M (M 60 0) (-1) (-1) (-1) 0) (fun t => (SolR M (M 60 0) (-1) t (-1) 0)) what home) tz) ∨ (0 = 0 ∧ ¬ (LdO (fun t => M 70 t = 0 ∧ M 69 t = 0) (SolR M (M 60 0) (-1) (-1) (-1) 0) (fun t => (SolR M (M 60 0) (-1) t (-1) 0)) what home) tz) := by
                first
                | (refine Or.inl ⟨rfl, hin3, fun ⟨d, d1, d2⟩ => ?_⟩
                   rcases hes3 with z | z
                   · exact EndR_free d2 z.2
                   · exfalso; omega)
                | (have he4 : EndR (SolR M (M 60 0) (-1) tz (-1) 0) what home (Mz11 86 (1 + home)) := Or.inl ⟨by omega, hes4.2.2.1⟩
                   first
                   | (refine Or.inl ⟨rfl, hin3, fun ⟨d, d1, d2⟩ => ?_⟩
                      have a := EndR_eq d1 h2.2.2
                      have b := EndR_eq d2 he4
                      omega)
                   | (refine Or.inr ⟨rfl, fun z => z.2 ⟨ez, h2.2.2, ?_⟩⟩
                      rw [show ez = Mz11 86 (1 + home) by omega]
                      exact he4))
                | (have he4 : EndR (SolR M (M 60 0) (-1) tz (-1) 0) what home (-(Mz11 86 (17 * (1 + home)))) := Or.inr ⟨by omega, hes4.2.2.2⟩
                   first
                   | (refine Or.inl ⟨rfl, hin3, fun ⟨d, d1, d2⟩ => ?_⟩
                      have a := EndR_eq d1 h2.2.2
                      have b := EndR_eq d2 he4
                      omega)
                   | (refine Or.inr ⟨rfl, fun z => z.2 ⟨ez, h2.2.2, ?_⟩⟩
                      rw [show ez = -(Mz11 86 (17 * (1 + home))) by omega]
                      exact he4))
              refine z_istore (loc2 := [fr 60, fi home, fi what, fi i, fi ez, fi nz, fi pz, fi tz, fi x10, fi 0]) dX8_lead_156 (by decide) rfl ?_
              refine z_iload dX8_lead_158 rfl ?_
              refine z_if_eq (tgt := 174) dX8_lead_160 (by decide) (fun c25 => ?_) (fun c25 => ?_)
              · refine z_iload dX8_lead_174 rfl ?_
                refine z_istore (loc2 := [fr 60, fi home, fi what, fi i, fi ez, fi nz, fi pz, fi tz, fi x10, fi 0]) dX8_lead_176 (by decide) rfl ?_
                refine z_iload dX8_lead_178 rfl ?_
                refine z_iload dX8_lead_180 rfl ?_
                refine z_callSip (n2 := 93) (A_X8_one l g Mz11 0 (by omega)) cb_X8_one cl_X8_184 (clr0 rfl rfl (by decide) (by decide)) rfl (by decide) rfl (Nat.le_of_ble_eq_true rfl) rfl dX8_lead_182 (fun x26 bx26 hx26 => ?_)
                first | refine z_iaddN dX8_lead_185 (by omega) (fun x27 hx27 => ?_) | refine z_iadd dX8_lead_185 (fun x27 hx27 => ?_)
                refine z_istore (loc2 := [fr 60, fi home, fi what, fi i, fi ez, fi x27, fi pz, fi tz, fi x10, fi 0]) dX8_lead_186 (by decide) rfl ?_
                refine z_iinc (loc2 := fun vq => [fr 60, fi home, fi what, fi i, fi ez, fi x27, fi pz, fi vq, fi x10, fi 0]) dX8_lead_188 rfl (by decide) (by omega) (fun _ => rfl) (fun x28 hx28 => ?_)
                refine z_goto (tgt := 78) dX8_lead_191 (by decide) ?_
                have hgo : OffN M Mz11 ∧ (((LdO (fun t => M 70 t = 0 ∧ M 69 t = 0) (SolR M (M 60 0) (-1) (-1) (-1) 0) (fun t => (SolR M (M 60 0) (-1) t (-1) 0)) what home) tz ∧ x27 = nz + 1 ∧ ((nz = i ∧ pz = tz) ∨ (nz ≠ i ∧ pz = pz))) ∨ (¬ (LdO (fun t => M 70 t = 0 ∧ M 69 t = 0) (SolR M (M 60 0) (-1) (-1) (-1) 0) (fun t => (SolR M (M 60 0) (-1) t (-1) 0)) what home) tz ∧ x27 = nz ∧ pz = pz)) := by
                  first
                  | (refine ⟨h1, Or.inr ⟨fun z => ?_, rfl, rfl⟩⟩
                     have htel := hT.1.2.1 tz h0.1 (by omega)
                     unfold TelM TelOk at htel
                     have z1 := z.1
                     omega)
                  | (refine ⟨hoM, ?_⟩
                     rcases hoth with z | z
                     · first
                       | (exfalso; omega)
                       | exact Or.inl ⟨z.2, by omega, by omega⟩
                     · first
                       | (exfalso; omega)
                       | exact Or.inr ⟨z.2, by omega, by omega⟩)
                have g3 : x27 = sumI (fun t => c01 ((LdO (fun t => M 70 t = 0 ∧ M 69 t = 0) (SolR M (M 60 0) (-1) (-1) (-1) 0) (fun t => (SolR M (M 60 0) (-1) t (-1) 0)) what home) t)) (tz + 1) := by
                  rw [sumI_succ h0.1, ← h3]
                  rcases hgo.2 with z | z
                  · rw [c01_t z.1]; exact z.2.1
                  · rw [c01_f z.1]; rw [z.2.1]; omega
                have g4 : FndL (LdO (fun t => M 70 t = 0 ∧ M 69 t = 0) (SolR M (M 60 0) (-1) (-1) (-1) 0) (fun t => (SolR M (M 60 0) (-1) t (-1) 0)) what home) (tz + 1) i pz := by
                  rcases hgo.2 with ⟨a, b, c⟩ | ⟨a, b, c⟩
                  · rcases c with ⟨c1, c2⟩ | ⟨c1, c2⟩
                    · exact FndL_cg c2 (FndL_yes h0.1 a (by rw [← h3]; exact c1))
                    · exact FndL_cg c2 (FndL_no h0.1 h4 (fun z => c1 (by rw [h3]; exact z.2)))
                  · exact FndL_cg c (FndL_no h0.1 h4 (fun z => a z.1))
                refine z_few [fr 60, fi home, fi what, fi i, fi ez, fi x27, fi pz, fi x28, fu, fu] (by simp [fle, kn]) ?_
                exact ih78 _ (by omega) ez x27 pz x28 Mz11 rfl (hA) (by omega) (hgo.1) (h2) (by rw [hx28]; exact g3) (by rw [hx28]; exact g4)
              · exfalso; omega
            · refine z_iconst dX8_lead_151 ⟨by decide, by decide⟩ ?_
              refine z_goto (tgt := 156) dX8_lead_152 (by decide) ?_
              have hoth : (1 = 1 ∧ (LdO (fun t => M 70 t = 0 ∧ M 69 t = 0) (SolR M (M 60 0) (-1) (-1) (-1) 0) (fun t => (SolR M (M 60 0) (-1) t (-1) 0)) what home) tz) ∨ (1 = 0 ∧ ¬ (LdO (fun t => M 70 t = 0 ∧ M 69 t = 0) (SolR M (M 60 0) (-1) (-1) (-1) 0) (fun t => (SolR M (M 60 0) (-1) t (-1) 0)) what home) tz) := by
                first
                | (refine Or.inl ⟨rfl, hin3, fun ⟨d, d1, d2⟩ => ?_⟩
                   rcases hes3 with z | z
                   · exact EndR_free d2 z.2
                   · exfalso; omega)
                | (have he4 : EndR (SolR M (M 60 0) (-1) tz (-1) 0) what home (Mz11 86 (1 + home)) := Or.inl ⟨by omega, hes4.2.2.1⟩
                   first
                   | (refine Or.inl ⟨rfl, hin3, fun ⟨d, d1, d2⟩ => ?_⟩
                      have a := EndR_eq d1 h2.2.2
                      have b := EndR_eq d2 he4
                      omega)
                   | (refine Or.inr ⟨rfl, fun z => z.2 ⟨ez, h2.2.2, ?_⟩⟩
                      rw [show ez = Mz11 86 (1 + home) by omega]
                      exact he4))
                | (have he4 : EndR (SolR M (M 60 0) (-1) tz (-1) 0) what home (-(Mz11 86 (17 * (1 + home)))) := Or.inr ⟨by omega, hes4.2.2.2⟩
                   first
                   | (refine Or.inl ⟨rfl, hin3, fun ⟨d, d1, d2⟩ => ?_⟩
                      have a := EndR_eq d1 h2.2.2
                      have b := EndR_eq d2 he4
                      omega)
                   | (refine Or.inr ⟨rfl, fun z => z.2 ⟨ez, h2.2.2, ?_⟩⟩
                      rw [show ez = -(Mz11 86 (17 * (1 + home))) by omega]
                      exact he4))
              refine z_istore (loc2 := [fr 60, fi home, fi what, fi i, fi ez, fi nz, fi pz, fi tz, fi x10, fi 1]) dX8_lead_156 (by decide) rfl ?_
              refine z_iload dX8_lead_158 rfl ?_
              refine z_if_eq (tgt := 174) dX8_lead_160 (by decide) (fun c29 => ?_) (fun c29 => ?_)
              · exfalso; omega
              · refine z_iload dX8_lead_163 rfl ?_
                refine z_iload_n dX8_lead_165 rfl ?_
                refine z_icmp_ne (tgt := 174) dX8_lead_166 (by decide) (fun c30 => ?_) (fun c30 => ?_)
                · refine z_iload dX8_lead_174 rfl ?_
                  refine z_istore (loc2 := [fr 60, fi home, fi what, fi i, fi ez, fi nz, fi pz, fi tz, fi x10, fi 1]) dX8_lead_176 (by decide) rfl ?_
                  refine z_iload dX8_lead_178 rfl ?_
                  refine z_iload dX8_lead_180 rfl ?_
                  refine z_callSip (n2 := 93) (A_X8_one l g Mz11 1 (by omega)) cb_X8_one cl_X8_184 (clr0 rfl rfl (by decide) (by decide)) rfl (by decide) rfl (Nat.le_of_ble_eq_true rfl) rfl dX8_lead_182 (fun x31 bx31 hx31 => ?_)
                  first | refine z_iaddN dX8_lead_185 (by omega) (fun x32 hx32 => ?_) | refine z_iadd dX8_lead_185 (fun x32 hx32 => ?_)
                  refine z_istore (loc2 := [fr 60, fi home, fi what, fi i, fi ez, fi x32, fi pz, fi tz, fi x10, fi 1]) dX8_lead_186 (by decide) rfl ?_
                  refine z_iinc (loc2 := fun vq => [fr 60, fi home, fi what, fi i, fi ez, fi x32, fi pz, fi vq, fi x10, fi 1]) dX8_lead_188 rfl (by decide) (by omega) (fun _ => rfl) (fun x33 hx33 => ?_)
                  refine z_goto (tgt := 78) dX8_lead_191 (by decide) ?_
                  have hgo : OffN M Mz11 ∧ (((LdO (fun t => M 70 t = 0 ∧ M 69 t = 0) (SolR M (M 60 0) (-1) (-1) (-1) 0) (fun t => (SolR M (M 60 0) (-1) t (-1) 0)) what home) tz ∧ x32 = nz + 1 ∧ ((nz = i ∧ pz = tz) ∨ (nz ≠ i ∧ pz = pz))) ∨ (¬ (LdO (fun t => M 70 t = 0 ∧ M 69 t = 0) (SolR M (M 60 0) (-1) (-1) (-1) 0) (fun t => (SolR M (M 60 0) (-1) t (-1) 0)) what home) tz ∧ x32 = nz ∧ pz = pz)) := by
                    first
                    | (refine ⟨h1, Or.inr ⟨fun z => ?_, rfl, rfl⟩⟩
                       have htel := hT.1.2.1 tz h0.1 (by omega)
                       unfold TelM TelOk at htel
                       have z1 := z.1
                       omega)
                    | (refine ⟨hoM, ?_⟩
                       rcases hoth with z | z
                       · first
                         | (exfalso; omega)
                         | exact Or.inl ⟨z.2, by omega, by omega⟩
                       · first
                         | (exfalso; omega)
                         | exact Or.inr ⟨z.2, by omega, by omega⟩)
                  have g3 : x32 = sumI (fun t => c01 ((LdO (fun t => M 70 t = 0 ∧ M 69 t = 0) (SolR M (M 60 0) (-1) (-1) (-1) 0) (fun t => (SolR M (M 60 0) (-1) t (-1) 0)) what home) t)) (tz + 1) := by
                    rw [sumI_succ h0.1, ← h3]
                    rcases hgo.2 with z | z
                    · rw [c01_t z.1]; exact z.2.1
                    · rw [c01_f z.1]; rw [z.2.1]; omega
                  have g4 : FndL (LdO (fun t => M 70 t = 0 ∧ M 69 t = 0) (SolR M (M 60 0) (-1) (-1) (-1) 0) (fun t => (SolR M (M 60 0) (-1) t (-1) 0)) what home) (tz + 1) i pz := by
                    rcases hgo.2 with ⟨a, b, c⟩ | ⟨a, b, c⟩
                    · rcases c with ⟨c1, c2⟩ | ⟨c1, c2⟩
                      · exact FndL_cg c2 (FndL_yes h0.1 a (by rw [← h3]; exact c1))
                      · exact FndL_cg c2 (FndL_no h0.1 h4 (fun z => c1 (by rw [h3]; exact z.2)))
                    · exact FndL_cg c (FndL_no h0.1 h4 (fun z => a z.1))
                  refine z_few [fr 60, fi home, fi what, fi i, fi ez, fi x32, fi pz, fi x33, fu, fu] (by simp [fle, kn]) ?_
                  exact ih78 _ (by omega) ez x32 pz x33 Mz11 rfl (hA) (by omega) (hgo.1) (h2) (by rw [hx33]; exact g3) (by rw [hx33]; exact g4)
                · refine z_iload dX8_lead_169 rfl ?_
                  refine z_goto (tgt := 176) dX8_lead_171 (by decide) ?_
                  refine z_istore (loc2 := [fr 60, fi home, fi what, fi i, fi ez, fi nz, fi tz, fi tz, fi x10, fi 1]) dX8_lead_176 (by decide) rfl ?_
                  refine z_iload dX8_lead_178 rfl ?_
                  refine z_iload dX8_lead_180 rfl ?_
                  refine z_callSip (n2 := 93) (A_X8_one l g Mz11 1 (by omega)) cb_X8_one cl_X8_184 (clr0 rfl rfl (by decide) (by decide)) rfl (by decide) rfl (Nat.le_of_ble_eq_true rfl) rfl dX8_lead_182 (fun x34 bx34 hx34 => ?_)
                  first | refine z_iaddN dX8_lead_185 (by omega) (fun x35 hx35 => ?_) | refine z_iadd dX8_lead_185 (fun x35 hx35 => ?_)
                  refine z_istore (loc2 := [fr 60, fi home, fi what, fi i, fi ez, fi x35, fi tz, fi tz, fi x10, fi 1]) dX8_lead_186 (by decide) rfl ?_
                  refine z_iinc (loc2 := fun vq => [fr 60, fi home, fi what, fi i, fi ez, fi x35, fi tz, fi vq, fi x10, fi 1]) dX8_lead_188 rfl (by decide) (by omega) (fun _ => rfl) (fun x36 hx36 => ?_)
                  refine z_goto (tgt := 78) dX8_lead_191 (by decide) ?_
                  have hgo : OffN M Mz11 ∧ (((LdO (fun t => M 70 t = 0 ∧ M 69 t = 0) (SolR M (M 60 0) (-1) (-1) (-1) 0) (fun t => (SolR M (M 60 0) (-1) t (-1) 0)) what home) tz ∧ x35 = nz + 1 ∧ ((nz = i ∧ tz = tz) ∨ (nz ≠ i ∧ tz = pz))) ∨ (¬ (LdO (fun t => M 70 t = 0 ∧ M 69 t = 0) (SolR M (M 60 0) (-1) (-1) (-1) 0) (fun t => (SolR M (M 60 0) (-1) t (-1) 0)) what home) tz ∧ x35 = nz ∧ tz = pz)) := by
                    first
                    | (refine ⟨h1, Or.inr ⟨fun z => ?_, rfl, rfl⟩⟩
                       have htel := hT.1.2.1 tz h0.1 (by omega)
                       unfold TelM TelOk at htel
                       have z1 := z.1
                       omega)
                    | (refine ⟨hoM, ?_⟩
                       rcases hoth with z | z
                       · first
                         | (exfalso; omega)
                         | exact Or.inl ⟨z.2, by omega, by omega⟩
                       · first
                         | (exfalso; omega)
                         | exact Or.inr ⟨z.2, by omega, by omega⟩)
                  have g3 : x35 = sumI (fun t => c01 ((LdO (fun t => M 70 t = 0 ∧ M 69 t = 0) (SolR M (M 60 0) (-1) (-1) (-1) 0) (fun t => (SolR M (M 60 0) (-1) t (-1) 0)) what home) t)) (tz + 1) := by
                    rw [sumI_succ h0.1, ← h3]
                    rcases hgo.2 with z | z
                    · rw [c01_t z.1]; exact z.2.1
                    · rw [c01_f z.1]; rw [z.2.1]; omega
                  have g4 : FndL (LdO (fun t => M 70 t = 0 ∧ M 69 t = 0) (SolR M (M 60 0) (-1) (-1) (-1) 0) (fun t => (SolR M (M 60 0) (-1) t (-1) 0)) what home) (tz + 1) i tz := by
                    rcases hgo.2 with ⟨a, b, c⟩ | ⟨a, b, c⟩
                    · rcases c with ⟨c1, c2⟩ | ⟨c1, c2⟩
                      · exact FndL_cg c2 (FndL_yes h0.1 a (by rw [← h3]; exact c1))
                      · exact FndL_cg c2 (FndL_no h0.1 h4 (fun z => c1 (by rw [h3]; exact z.2)))
                    · exact FndL_cg c (FndL_no h0.1 h4 (fun z => a z.1))
                  refine z_few [fr 60, fi home, fi what, fi i, fi ez, fi x35, fi tz, fi x36, fu, fu] (by simp [fle, kn]) ?_
                  exact ih78 _ (by omega) ez x35 tz x36 Mz11 rfl (hA) (by omega) (hgo.1) (h2) (by rw [hx36]; exact g3) (by rw [hx36]; exact g4)
          · refine z_aload_nr dX8_lead_133 rfl ?_
            refine z_iload_n dX8_lead_134 rfl ?_
            refine z_callVip (n2 := 93) (A_X8_lowEnd l g Mz11 home (by omega) (by omega)) cb_X8_lowEnd cl_X8_362 (clr0 rfl rfl (by decide) (by decide)) rfl (by decide) ⟨_, rfl, rfl⟩ rfl (by decide) rfl (Nat.le_of_ble_eq_true rfl) rfl dX8_lead_135 (fun x37 bx37 hx37 => ?_)
            refine z_goto (tgt := 146) dX8_lead_138 (by decide) ?_
            refine z_iload dX8_lead_146 rfl ?_
            refine z_icmp_eq (tgt := 155) dX8_lead_148 (by decide) (fun c38 => ?_) (fun c38 => ?_)
            · refine z_iconst dX8_lead_155 ⟨by decide, by decide⟩ ?_
              have hoth : (0 = 1 ∧ (LdO (fun t => M 70 t = 0 ∧ M 69 t = 0) (SolR M (M 60 0) (-1) (-1) (-1) 0) (fun t => (SolR M (M 60 0) (-1) t (-1) 0)) what home) tz) ∨ (0 = 0 ∧ ¬ (LdO (fun t => M 70 t = 0 ∧ M 69 t = 0) (SolR M (M 60 0) (-1) (-1) (-1) 0) (fun t => (SolR M (M 60 0) (-1) t (-1) 0)) what home) tz) := by
                first
                | (refine Or.inl ⟨rfl, hin3, fun ⟨d, d1, d2⟩ => ?_⟩
                   rcases hes3 with z | z
                   · exact EndR_free d2 z.2
                   · exfalso; omega)
                | (have he4 : EndR (SolR M (M 60 0) (-1) tz (-1) 0) what home (Mz11 86 (1 + home)) := Or.inl ⟨by omega, hes4.2.2.1⟩
                   first
                   | (refine Or.inl ⟨rfl, hin3, fun ⟨d, d1, d2⟩ => ?_⟩
                      have a := EndR_eq d1 h2.2.2
                      have b := EndR_eq d2 he4
                      omega)
                   | (refine Or.inr ⟨rfl, fun z => z.2 ⟨ez, h2.2.2, ?_⟩⟩
                      rw [show ez = Mz11 86 (1 + home) by omega]
                      exact he4))
                | (have he4 : EndR (SolR M (M 60 0) (-1) tz (-1) 0) what home (-(Mz11 86 (17 * (1 + home)))) := Or.inr ⟨by omega, hes4.2.2.2⟩
                   first
                   | (refine Or.inl ⟨rfl, hin3, fun ⟨d, d1, d2⟩ => ?_⟩
                      have a := EndR_eq d1 h2.2.2
                      have b := EndR_eq d2 he4
                      omega)
                   | (refine Or.inr ⟨rfl, fun z => z.2 ⟨ez, h2.2.2, ?_⟩⟩
                      rw [show ez = -(Mz11 86 (17 * (1 + home))) by omega]
                      exact he4))
              refine z_istore (loc2 := [fr 60, fi home, fi what, fi i, fi ez, fi nz, fi pz, fi tz, fi x10, fi 0]) dX8_lead_156 (by decide) rfl ?_
              refine z_iload dX8_lead_158 rfl ?_
              refine z_if_eq (tgt := 174) dX8_lead_160 (by decide) (fun c39 => ?_) (fun c39 => ?_)
              · refine z_iload dX8_lead_174 rfl ?_
                refine z_istore (loc2 := [fr 60, fi home, fi what, fi i, fi ez, fi nz, fi pz, fi tz, fi x10, fi 0]) dX8_lead_176 (by decide) rfl ?_
                refine z_iload dX8_lead_178 rfl ?_
                refine z_iload dX8_lead_180 rfl ?_
                refine z_callSip (n2 := 93) (A_X8_one l g Mz11 0 (by omega)) cb_X8_one cl_X8_184 (clr0 rfl rfl (by decide) (by decide)) rfl (by decide) rfl (Nat.le_of_ble_eq_true rfl) rfl dX8_lead_182 (fun x40 bx40 hx40 => ?_)
                first | refine z_iaddN dX8_lead_185 (by omega) (fun x41 hx41 => ?_) | refine z_iadd dX8_lead_185 (fun x41 hx41 => ?_)
                refine z_istore (loc2 := [fr 60, fi home, fi what, fi i, fi ez, fi x41, fi pz, fi tz, fi x10, fi 0]) dX8_lead_186 (by decide) rfl ?_
                refine z_iinc (loc2 := fun vq => [fr 60, fi home, fi what, fi i, fi ez, fi x41, fi pz, fi vq, fi x10, fi 0]) dX8_lead_188 rfl (by decide) (by omega) (fun _ => rfl) (fun x42 hx42 => ?_)
                refine z_goto (tgt := 78) dX8_lead_191 (by decide) ?_
                have hgo : OffN M Mz11 ∧ (((LdO (fun t => M 70 t = 0 ∧ M 69 t = 0) (SolR M (M 60 0) (-1) (-1) (-1) 0) (fun t => (SolR M (M 60 0) (-1) t (-1) 0)) what home) tz ∧ x41 = nz + 1 ∧ ((nz = i ∧ pz = tz) ∨ (nz ≠ i ∧ pz = pz))) ∨ (¬ (LdO (fun t => M 70 t = 0 ∧ M 69 t = 0) (SolR M (M 60 0) (-1) (-1) (-1) 0) (fun t => (SolR M (M 60 0) (-1) t (-1) 0)) what home) tz ∧ x41 = nz ∧ pz = pz)) := by
                  first
                  | (refine ⟨h1, Or.inr ⟨fun z => ?_, rfl, rfl⟩⟩
                     have htel := hT.1.2.1 tz h0.1 (by omega)
                     unfold TelM TelOk at htel
                     have z1 := z.1
                     omega)
                  | (refine ⟨hoM, ?_⟩
                     rcases hoth with z | z
                     · first
                       | (exfalso; omega)
                       | exact Or.inl ⟨z.2, by omega, by omega⟩
                     · first
                       | (exfalso; omega)
                       | exact Or.inr ⟨z.2, by omega, by omega⟩)
                have g3 : x41 = sumI (fun t => c01 ((LdO (fun t => M 70 t = 0 ∧ M 69 t = 0) (SolR M (M 60 0) (-1) (-1) (-1) 0) (fun t => (SolR M (M 60 0) (-1) t (-1) 0)) what home) t)) (tz + 1) := by
                  rw [sumI_succ h0.1, ← h3]
                  rcases hgo.2 with z | z
                  · rw [c01_t z.1]; exact z.2.1
                  · rw [c01_f z.1]; rw [z.2.1]; omega
                have g4 : FndL (LdO (fun t => M 70 t = 0 ∧ M 69 t = 0) (SolR M (M 60 0) (-1) (-1) (-1) 0) (fun t => (SolR M (M 60 0) (-1) t (-1) 0)) what home) (tz + 1) i pz := by
                  rcases hgo.2 with ⟨a, b, c⟩ | ⟨a, b, c⟩
                  · rcases c with ⟨c1, c2⟩ | ⟨c1, c2⟩
                    · exact FndL_cg c2 (FndL_yes h0.1 a (by rw [← h3]; exact c1))
                    · exact FndL_cg c2 (FndL_no h0.1 h4 (fun z => c1 (by rw [h3]; exact z.2)))
                  · exact FndL_cg c (FndL_no h0.1 h4 (fun z => a z.1))
                refine z_few [fr 60, fi home, fi what, fi i, fi ez, fi x41, fi pz, fi x42, fu, fu] (by simp [fle, kn]) ?_
                exact ih78 _ (by omega) ez x41 pz x42 Mz11 rfl (hA) (by omega) (hgo.1) (h2) (by rw [hx42]; exact g3) (by rw [hx42]; exact g4)
              · exfalso; omega
            · refine z_iconst dX8_lead_151 ⟨by decide, by decide⟩ ?_
              refine z_goto (tgt := 156) dX8_lead_152 (by decide) ?_
              have hoth : (1 = 1 ∧ (LdO (fun t => M 70 t = 0 ∧ M 69 t = 0) (SolR M (M 60 0) (-1) (-1) (-1) 0) (fun t => (SolR M (M 60 0) (-1) t (-1) 0)) what home) tz) ∨ (1 = 0 ∧ ¬ (LdO (fun t => M 70 t = 0 ∧ M 69 t = 0) (SolR M (M 60 0) (-1) (-1) (-1) 0) (fun t => (SolR M (M 60 0) (-1) t (-1) 0)) what home) tz) := by
                first
                | (refine Or.inl ⟨rfl, hin3, fun ⟨d, d1, d2⟩ => ?_⟩
                   rcases hes3 with z | z
                   · exact EndR_free d2 z.2
                   · exfalso; omega)
                | (have he4 : EndR (SolR M (M 60 0) (-1) tz (-1) 0) what home (Mz11 86 (1 + home)) := Or.inl ⟨by omega, hes4.2.2.1⟩
                   first
                   | (refine Or.inl ⟨rfl, hin3, fun ⟨d, d1, d2⟩ => ?_⟩
                      have a := EndR_eq d1 h2.2.2
                      have b := EndR_eq d2 he4
                      omega)
                   | (refine Or.inr ⟨rfl, fun z => z.2 ⟨ez, h2.2.2, ?_⟩⟩
                      rw [show ez = Mz11 86 (1 + home) by omega]
                      exact he4))
                | (have he4 : EndR (SolR M (M 60 0) (-1) tz (-1) 0) what home (-(Mz11 86 (17 * (1 + home)))) := Or.inr ⟨by omega, hes4.2.2.2⟩
                   first
                   | (refine Or.inl ⟨rfl, hin3, fun ⟨d, d1, d2⟩ => ?_⟩
                      have a := EndR_eq d1 h2.2.2
                      have b := EndR_eq d2 he4
                      omega)
                   | (refine Or.inr ⟨rfl, fun z => z.2 ⟨ez, h2.2.2, ?_⟩⟩
                      rw [show ez = -(Mz11 86 (17 * (1 + home))) by omega]
                      exact he4))
              refine z_istore (loc2 := [fr 60, fi home, fi what, fi i, fi ez, fi nz, fi pz, fi tz, fi x10, fi 1]) dX8_lead_156 (by decide) rfl ?_
              refine z_iload dX8_lead_158 rfl ?_
              refine z_if_eq (tgt := 174) dX8_lead_160 (by decide) (fun c43 => ?_) (fun c43 => ?_)
              · exfalso; omega
              · refine z_iload dX8_lead_163 rfl ?_
                refine z_iload_n dX8_lead_165 rfl ?_
                refine z_icmp_ne (tgt := 174) dX8_lead_166 (by decide) (fun c44 => ?_) (fun c44 => ?_)
                · refine z_iload dX8_lead_174 rfl ?_
                  refine z_istore (loc2 := [fr 60, fi home, fi what, fi i, fi ez, fi nz, fi pz, fi tz, fi x10, fi 1]) dX8_lead_176 (by decide) rfl ?_
                  refine z_iload dX8_lead_178 rfl ?_
                  refine z_iload dX8_lead_180 rfl ?_
                  refine z_callSip (n2 := 93) (A_X8_one l g Mz11 1 (by omega)) cb_X8_one cl_X8_184 (clr0 rfl rfl (by decide) (by decide)) rfl (by decide) rfl (Nat.le_of_ble_eq_true rfl) rfl dX8_lead_182 (fun x45 bx45 hx45 => ?_)
                  first | refine z_iaddN dX8_lead_185 (by omega) (fun x46 hx46 => ?_) | refine z_iadd dX8_lead_185 (fun x46 hx46 => ?_)
                  refine z_istore (loc2 := [fr 60, fi home, fi what, fi i, fi ez, fi x46, fi pz, fi tz, fi x10, fi 1]) dX8_lead_186 (by decide) rfl ?_
                  refine z_iinc (loc2 := fun vq => [fr 60, fi home, fi what, fi i, fi ez, fi x46, fi pz, fi vq, fi x10, fi 1]) dX8_lead_188 rfl (by decide) (by omega) (fun _ => rfl) (fun x47 hx47 => ?_)
                  refine z_goto (tgt := 78) dX8_lead_191 (by decide) ?_
                  have hgo : OffN M Mz11 ∧ (((LdO (fun t => M 70 t = 0 ∧ M 69 t = 0) (SolR M (M 60 0) (-1) (-1) (-1) 0) (fun t => (SolR M (M 60 0) (-1) t (-1) 0)) what home) tz ∧ x46 = nz + 1 ∧ ((nz = i ∧ pz = tz) ∨ (nz ≠ i ∧ pz = pz))) ∨ (¬ (LdO (fun t => M 70 t = 0 ∧ M 69 t = 0) (SolR M (M 60 0) (-1) (-1) (-1) 0) (fun t => (SolR M (M 60 0) (-1) t (-1) 0)) what home) tz ∧ x46 = nz ∧ pz = pz)) := by
                    first
                    | (refine ⟨h1, Or.inr ⟨fun z => ?_, rfl, rfl⟩⟩
                       have htel := hT.1.2.1 tz h0.1 (by omega)
                       unfold TelM TelOk at htel
                       have z1 := z.1
                       omega)
                    | (refine ⟨hoM, ?_⟩
                       rcases hoth with z | z
                       · first
                         | (exfalso; omega)
                         | exact Or.inl ⟨z.2, by omega, by omega⟩
                       · first
                         | (exfalso; omega)
                         | exact Or.inr ⟨z.2, by omega, by omega⟩)
                  have g3 : x46 = sumI (fun t => c01 ((LdO (fun t => M 70 t = 0 ∧ M 69 t = 0) (SolR M (M 60 0) (-1) (-1) (-1) 0) (fun t => (SolR M (M 60 0) (-1) t (-1) 0)) what home) t)) (tz + 1) := by
                    rw [sumI_succ h0.1, ← h3]
                    rcases hgo.2 with z | z
                    · rw [c01_t z.1]; exact z.2.1
                    · rw [c01_f z.1]; rw [z.2.1]; omega
                  have g4 : FndL (LdO (fun t => M 70 t = 0 ∧ M 69 t = 0) (SolR M (M 60 0) (-1) (-1) (-1) 0) (fun t => (SolR M (M 60 0) (-1) t (-1) 0)) what home) (tz + 1) i pz := by
                    rcases hgo.2 with ⟨a, b, c⟩ | ⟨a, b, c⟩
                    · rcases c with ⟨c1, c2⟩ | ⟨c1, c2⟩
                      · exact FndL_cg c2 (FndL_yes h0.1 a (by rw [← h3]; exact c1))
                      · exact FndL_cg c2 (FndL_no h0.1 h4 (fun z => c1 (by rw [h3]; exact z.2)))
                    · exact FndL_cg c (FndL_no h0.1 h4 (fun z => a z.1))
                  refine z_few [fr 60, fi home, fi what, fi i, fi ez, fi x46, fi pz, fi x47, fu, fu] (by simp [fle, kn]) ?_
                  exact ih78 _ (by omega) ez x46 pz x47 Mz11 rfl (hA) (by omega) (hgo.1) (h2) (by rw [hx47]; exact g3) (by rw [hx47]; exact g4)
                · refine z_iload dX8_lead_169 rfl ?_
                  refine z_goto (tgt := 176) dX8_lead_171 (by decide) ?_
                  refine z_istore (loc2 := [fr 60, fi home, fi what, fi i, fi ez, fi nz, fi tz, fi tz, fi x10, fi 1]) dX8_lead_176 (by decide) rfl ?_
                  refine z_iload dX8_lead_178 rfl ?_
                  refine z_iload dX8_lead_180 rfl ?_
                  refine z_callSip (n2 := 93) (A_X8_one l g Mz11 1 (by omega)) cb_X8_one cl_X8_184 (clr0 rfl rfl (by decide) (by decide)) rfl (by decide) rfl (Nat.le_of_ble_eq_true rfl) rfl dX8_lead_182 (fun x48 bx48 hx48 => ?_)
                  first | refine z_iaddN dX8_lead_185 (by omega) (fun x49 hx49 => ?_) | refine z_iadd dX8_lead_185 (fun x49 hx49 => ?_)
                  refine z_istore (loc2 := [fr 60, fi home, fi what, fi i, fi ez, fi x49, fi tz, fi tz, fi x10, fi 1]) dX8_lead_186 (by decide) rfl ?_
                  refine z_iinc (loc2 := fun vq => [fr 60, fi home, fi what, fi i, fi ez, fi x49, fi tz, fi vq, fi x10, fi 1]) dX8_lead_188 rfl (by decide) (by omega) (fun _ => rfl) (fun x50 hx50 => ?_)
                  refine z_goto (tgt := 78) dX8_lead_191 (by decide) ?_
                  have hgo : OffN M Mz11 ∧ (((LdO (fun t => M 70 t = 0 ∧ M 69 t = 0) (SolR M (M 60 0) (-1) (-1) (-1) 0) (fun t => (SolR M (M 60 0) (-1) t (-1) 0)) what home) tz ∧ x49 = nz + 1 ∧ ((nz = i ∧ tz = tz) ∨ (nz ≠ i ∧ tz = pz))) ∨ (¬ (LdO (fun t => M 70 t = 0 ∧ M 69 t = 0) (SolR M (M 60 0) (-1) (-1) (-1) 0) (fun t => (SolR M (M 60 0) (-1) t (-1) 0)) what home) tz ∧ x49 = nz ∧ tz = pz)) := by
                    first
                    | (refine ⟨h1, Or.inr ⟨fun z => ?_, rfl, rfl⟩⟩
                       have htel := hT.1.2.1 tz h0.1 (by omega)
                       unfold TelM TelOk at htel
                       have z1 := z.1
                       omega)
                    | (refine ⟨hoM, ?_⟩
                       rcases hoth with z | z
                       · first
                         | (exfalso; omega)
                         | exact Or.inl ⟨z.2, by omega, by omega⟩
                       · first
                         | (exfalso; omega)
                         | exact Or.inr ⟨z.2, by omega, by omega⟩)
                  have g3 : x49 = sumI (fun t => c01 ((LdO (fun t => M 70 t = 0 ∧ M 69 t = 0) (SolR M (M 60 0) (-1) (-1) (-1) 0) (fun t => (SolR M (M 60 0) (-1) t (-1) 0)) what home) t)) (tz + 1) := by
                    rw [sumI_succ h0.1, ← h3]
                    rcases hgo.2 with z | z
                    · rw [c01_t z.1]; exact z.2.1
                    · rw [c01_f z.1]; rw [z.2.1]; omega
                  have g4 : FndL (LdO (fun t => M 70 t = 0 ∧ M 69 t = 0) (SolR M (M 60 0) (-1) (-1) (-1) 0) (fun t => (SolR M (M 60 0) (-1) t (-1) 0)) what home) (tz + 1) i tz := by
                    rcases hgo.2 with ⟨a, b, c⟩ | ⟨a, b, c⟩
                    · rcases c with ⟨c1, c2⟩ | ⟨c1, c2⟩
                      · exact FndL_cg c2 (FndL_yes h0.1 a (by rw [← h3]; exact c1))
                      · exact FndL_cg c2 (FndL_no h0.1 h4 (fun z => c1 (by rw [h3]; exact z.2)))
                    · exact FndL_cg c (FndL_no h0.1 h4 (fun z => a z.1))
                  refine z_few [fr 60, fi home, fi what, fi i, fi ez, fi x49, fi tz, fi x50, fu, fu] (by simp [fle, kn]) ?_
                  exact ih78 _ (by omega) ez x49 tz x50 Mz11 rfl (hA) (by omega) (hgo.1) (h2) (by rw [hx50]; exact g3) (by rw [hx50]; exact g4)
  refine z_iload_n dX8_lead_0 rfl ?_
  refine z_callSip (n2 := 93) (A_X8_isHome l g M home) cb_X8_isHome cl_X8_150 (clr0 rfl rfl (by decide) (by decide)) rfl (by decide) rfl (Nat.le_of_ble_eq_true rfl) rfl dX8_lead_1 (fun x51 bx51 hx51 => ?_)
  have i51 := if01 hx51
  refine z_if_ne (tgt := 10) dX8_lead_4 (by decide) (fun c52 => ?_) (fun c52 => ?_)
  · refine z_iload_n dX8_lead_10 rfl ?_
    refine z_i2l dX8_lead_11 ?_
    refine z_lconst0 dX8_lead_12 ?_
    refine z_lconst1 dX8_lead_13 ?_
    refine z_callSip (n2 := 93) (A_X8_in l g M what 0 1) cb_X8_in cl_X8_130 (clr0 rfl rfl (by decide) (by decide)) rfl (by decide) rfl (Nat.le_of_ble_eq_true rfl) rfl dX8_lead_14 (fun x53 bx53 hx53 => ?_)
    have i53 := if01 hx53
    refine z_if_ne (tgt := 23) dX8_lead_17 (by decide) (fun c54 => ?_) (fun c54 => ?_)
    · refine z_aload_nr dX8_lead_23 rfl ?_
      refine z_aload_nr dX8_lead_24 rfl ?_
      refine z_geti (kz := 0) fl_X8_136 rfl (by decide) rfl dX8_lead_25 (fun x55 hx55 bx55 => ?_)
      have hnn : x55 = M 60 0 := by assumption
      refine z_callVi (n2 := 93) (A_X8_sumWays l g M x55 (hT.1) (wide0 hT)) cb_X8_sumWays cl_X8_335 (clr0 rfl rfl (by decide) (by decide)) rfl (by decide) ⟨_, rfl, rfl⟩ rfl (by decide) rfl (Nat.le_of_ble_eq_true rfl) rfl dX8_lead_28 (fun x56 Mz56 bx56 kMz56 hc56 => ?_)
      have hsw := hc56
      rw [SolM_MT hT _] at hsw
      have hoN := OffN_w hT hsw.1
      refine z_if_ne (tgt := 38) dX8_lead_31 (by decide) (fun c57 => ?_) (fun c57 => ?_)
      · rw [hnn] at hsw
        have hsf : Feas (SolR M (M 60 0) (-1) (-1) (-1) 0) ∧ WF (SolR M (M 60 0) (-1) (-1) (-1) 0) Mz56 := by
          rcases hsw.2 with z | z
          · exact z.2
          · exfalso; omega
        have hes := WF_es hsf.2 (h := home) (by omega) (by omega)
        refine z_aload_nr dX8_lead_38 rfl ?_
        refine z_iload_n dX8_lead_39 rfl ?_
        refine z_callVip (n2 := 93) (A_X8_isLoose l g Mz56 home (by omega)) cb_X8_isLoose cl_X8_338 (clr0 rfl rfl (by decide) (by decide)) rfl (by decide) ⟨_, rfl, rfl⟩ rfl (by decide) rfl (Nat.le_of_ble_eq_true rfl) rfl dX8_lead_40 (fun x58 bx58 hx58 => ?_)
        have i58 := if01 hx58
        refine z_if_eq (tgt := 50) dX8_lead_43 (by decide) (fun c59 => ?_) (fun c59 => ?_)
        · have hes2 : (-10000000 ≤ Mz56 86 (1 + home) ∧ Mz56 86 (1 + home) ≤ 10000000) ∧ (-10000000 ≤ Mz56 86 (17 * (1 + home)) ∧ Mz56 86 (17 * (1 + home)) ≤ 10000000) ∧ Ends2 (SolR M (M 60 0) (-1) (-1) (-1) 0) home (-(Mz56 86 (17 * (1 + home)))) (Mz56 86 (1 + home)) := by
            rcases hes with z | z
            · exfalso; omega
            · exact z
          refine z_iload_n dX8_lead_50 rfl ?_
          refine z_if_ne (tgt := 62) dX8_lead_51 (by decide) (fun c60 => ?_) (fun c60 => ?_)
          · refine z_aload_nr dX8_lead_62 rfl ?_
            refine z_iload_n dX8_lead_63 rfl ?_
            refine z_callVip (n2 := 93) (A_X8_highEnd l g Mz56 home (by omega) (by omega)) cb_X8_highEnd cl_X8_365 (clr0 rfl rfl (by decide) (by decide)) rfl (by decide) ⟨_, rfl, rfl⟩ rfl (by decide) rfl (Nat.le_of_ble_eq_true rfl) rfl dX8_lead_64 (fun x61 bx61 hx61 => ?_)
            refine z_istore (loc2 := [fr 60, fi home, fi what, fi i, fi x61, fu, fu, fu, fu, fu]) dX8_lead_67 (by decide) rfl ?_
            refine z_iconst dX8_lead_69 ⟨by decide, by decide⟩ ?_
            refine z_istore (loc2 := [fr 60, fi home, fi what, fi i, fi x61, fi 0, fu, fu, fu, fu]) dX8_lead_70 (by decide) rfl ?_
            refine z_iconst dX8_lead_72 ⟨by decide, by decide⟩ ?_
            refine z_istore (loc2 := [fr 60, fi home, fi what, fi i, fi x61, fi 0, fi (-1), fu, fu, fu]) dX8_lead_73 (by decide) rfl ?_
            refine z_iconst dX8_lead_75 ⟨by decide, by decide⟩ ?_
            refine z_istore (loc2 := [fr 60, fi home, fi what, fi i, fi x61, fi 0, fi (-1), fi 0, fu, fu]) dX8_lead_76 (by decide) rfl ?_
            have hend : EndR (SolR M (M 60 0) (-1) (-1) (-1) 0) what home x61 := by
              first
              | (refine Or.inl ⟨by omega, ?_⟩
                 rw [show x61 = Mz56 86 (1 + home) by omega]
                 exact hes2.2.2.1)
              | (refine Or.inr ⟨by omega, ?_⟩
                 rw [show x61 = -(Mz56 86 (17 * (1 + home))) by omega]
                 exact hes2.2.2.2)
            exact lp78 _ x61 0 (-1) 0 Mz56 rfl (by omega) (by omega) (hoN) (⟨hsf.1, fun z => Ends2_free hes2.2.2 z, hend⟩) (rfl) (Or.inr ⟨fun t a b => by omega, rfl⟩)
          · refine z_aload_nr dX8_lead_54 rfl ?_
            refine z_iload_n dX8_lead_55 rfl ?_
            refine z_callVip (n2 := 93) (A_X8_lowEnd l g Mz56 home (by omega) (by omega)) cb_X8_lowEnd cl_X8_362 (clr0 rfl rfl (by decide) (by decide)) rfl (by decide) ⟨_, rfl, rfl⟩ rfl (by decide) rfl (Nat.le_of_ble_eq_true rfl) rfl dX8_lead_56 (fun x62 bx62 hx62 => ?_)
            refine z_goto (tgt := 67) dX8_lead_59 (by decide) ?_
            refine z_istore (loc2 := [fr 60, fi home, fi what, fi i, fi x62, fu, fu, fu, fu, fu]) dX8_lead_67 (by decide) rfl ?_
            refine z_iconst dX8_lead_69 ⟨by decide, by decide⟩ ?_
            refine z_istore (loc2 := [fr 60, fi home, fi what, fi i, fi x62, fi 0, fu, fu, fu, fu]) dX8_lead_70 (by decide) rfl ?_
            refine z_iconst dX8_lead_72 ⟨by decide, by decide⟩ ?_
            refine z_istore (loc2 := [fr 60, fi home, fi what, fi i, fi x62, fi 0, fi (-1), fu, fu, fu]) dX8_lead_73 (by decide) rfl ?_
            refine z_iconst dX8_lead_75 ⟨by decide, by decide⟩ ?_
            refine z_istore (loc2 := [fr 60, fi home, fi what, fi i, fi x62, fi 0, fi (-1), fi 0, fu, fu]) dX8_lead_76 (by decide) rfl ?_
            have hend : EndR (SolR M (M 60 0) (-1) (-1) (-1) 0) what home x62 := by
              first
              | (refine Or.inl ⟨by omega, ?_⟩
                 rw [show x62 = Mz56 86 (1 + home) by omega]
                 exact hes2.2.2.1)
              | (refine Or.inr ⟨by omega, ?_⟩
                 rw [show x62 = -(Mz56 86 (17 * (1 + home))) by omega]
                 exact hes2.2.2.2)
            exact lp78 _ x62 0 (-1) 0 Mz56 rfl (by omega) (by omega) (hoN) (⟨hsf.1, fun z => Ends2_free hes2.2.2 z, hend⟩) (rfl) (Or.inr ⟨fun t a b => by omega, rfl⟩)
        · refine z_ldc_w (c := -1000006) cn_X8_361 ⟨by decide, by decide⟩ dX8_lead_46 ?_
          refine z_iret rfl (by decide) rfl (Nat.sub_self _) dX8_lead_49 ?_
          refine ⟨hoN, ?_⟩
          unfold PLead
          rw [if_neg (by omega), if_neg (by omega)]
          refine Or.inr (Or.inl ⟨hsf.1, ?_, rfl⟩)
          rcases hes with z | z
          · exact z.2
          · exfalso; omega
      · refine z_ldc_w (c := -1000005) cn_X8_357 ⟨by decide, by decide⟩ dX8_lead_34 ?_
        refine z_iret rfl (by decide) rfl (Nat.sub_self _) dX8_lead_37 ?_
        refine ⟨hoN, ?_⟩
        unfold PLead
        rw [if_neg (by omega), if_neg (by omega)]
        refine Or.inl ⟨?_, rfl⟩
        rw [hnn] at hsw
        rcases hsw.2 with z | z
        · exfalso; omega
        · exact z.2
    · refine z_ldc (c := -1000002) cn_X8_164 ⟨by decide, by decide⟩ dX8_lead_20 ?_
      refine z_iret rfl (by decide) rfl (Nat.sub_self _) dX8_lead_22 ?_
      refine ⟨OffN_rfl hT, ?_⟩
      unfold PLead
      rw [if_neg (by omega), if_pos (by omega)]
  · refine z_ldc (c := -1000001) cn_X8_153 ⟨by decide, by decide⟩ dX8_lead_7 ?_
    refine z_iret rfl (by decide) rfl (Nat.sub_self _) dX8_lead_9 ?_
    refine ⟨OffN_rfl hT, ?_⟩
    unfold PLead
    rw [if_pos (by omega)]
