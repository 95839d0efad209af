/-! ===== the reference: layWays, sumWays ===== -/
set_option maxHeartbeats 3200000 in
theorem A_X8_layWays (l : Launch) (g : Cx) (M : FMem) (k : Int) (hT : MT0 M) (hw : 0 ≤ M 60 45 ∧ M 60 45 ≤ 400000) : AMv l g true fi_X8_layWays [fr 60, fi k] 93 M (fun M2 => LW M k (M 60 0) M2) := by
  refine AMv_intro [fr 60, fi k, fu, fu, fu] (by decide) (knall rfl) (Nat.le_of_ble_eq_true rfl) rfl ?_
  intro hNV hM0 μ
  have bk : N32 k := hNV (fi k) (by simp)
  have lp51 : ∀ (kq : Nat) (iz : Int) (M1 : FMem), (80 - iz).toNat = kq → (0 ≤ iz ∧ iz ≤ M 60 0) → (LW M k iz M1) → Wa l g true fi_X8_layWays 93 μ (Zv g true fi_X8_layWays 93 μ (fun M2 => LW M k (M 60 0) M2)) 51 [] [fr 60, fi k, fi iz, fu, fu] 93 M1 := by
    intro kq
    induction kq using Nat.strongRecOn with
    | _ kq ih51 =>
    intro iz M1 hk51 h0 h1
    have hT0 := hT.1
    have hof := OffM_w h1.1
    have hTm := MT0_off hof hT
    have hlh := lowM_off hof iz
    have q0 := h1.1 60 0 (by decide)
    have q42 := h1.1 60 42 (by decide)
    have q43 := h1.1 60 43 (by decide)
    have q44 := h1.1 60 44 (by decide)
    have q45 := h1.1 60 45 (by decide)
    have q61 := h1.1 61 iz (by decide)
    have q62 := h1.1 62 iz (by decide)
    have q63 := h1.1 63 iz (by decide)
    have q64 := h1.1 64 iz (by decide)
    have q69 := h1.1 69 iz (by decide)
    have q70 := h1.1 70 iz (by decide)
    refine z_iload_n dX8_layWays_51 rfl ?_
    refine z_aload_nr dX8_layWays_52 rfl ?_
    refine z_geti (kz := 0) fl_X8_136 rfl (by decide) rfl dX8_layWays_53 (fun x1 hx1 bx1 => ?_)
    refine z_icmp_ge (tgt := 155) dX8_layWays_56 (by decide) (fun c2 => ?_) (fun c2 => ?_)
    · refine z_vret rfl (by decide) rfl (Nat.sub_self _) dX8_layWays_155 ?_
      rw [show M 60 0 = iz by omega]
      exact h1
    · refine z_aload_nr dX8_layWays_59 rfl ?_
      refine z_iload_n dX8_layWays_60 rfl ?_
      refine z_iload_n dX8_layWays_61 rfl ?_
      refine z_callVip (n2 := 93) (A_X8_isIn l g M1 iz k (by omega)) cb_X8_isIn cl_X8_309 (clr0 rfl rfl (by decide) (by decide)) rfl (by decide) ⟨_, rfl, rfl⟩ rfl (by decide) rfl (Nat.le_of_ble_eq_true rfl) rfl dX8_layWays_62 (fun x3 bx3 hx3 => ?_)
      have i3 := if01 hx3
      refine z_if_eq (tgt := 149) dX8_layWays_65 (by decide) (fun c4 => ?_) (fun c4 => ?_)
      · refine z_iinc (loc2 := fun vq => [fr 60, fi k, fi vq, fu, fu]) dX8_layWays_149 rfl (by decide) (by omega) (fun _ => rfl) (fun x5 hx5 => ?_)
        refine z_goto (tgt := 51) dX8_layWays_152 (by decide) ?_
        have hlw : LW M k (iz + 1) M1 := by
          first
          | (refine LW_no h1 h0.1 (fun z => ?_)
             unfold inM at z
             omega)
          | (refine LW_yes h1 h0.1 hin2 (hT.2.1 iz h0.1 (by omega)) hw ⟨hlb, hhb⟩ hv1 hv2 ?_
             rw [hNONE, hi1, hi2])
        exact ih51 _ (by omega) x5 M1 rfl (by omega) (by rw [hx5]; exact hlw)
      · have htel := hTm.2.1 iz h0.1 (by omega)
        have hTe := htel
        unfold TelM TelOk at hTe
        have hTo := hT.2.1 iz h0.1 (by omega)
        have hnn := ul_nd hTo
        have hin2 : inM M k iz := by unfold inM; omega
        refine z_aload_nr dX8_layWays_68 rfl ?_
        refine z_iload_n dX8_layWays_69 rfl ?_
        refine z_callVip (n2 := 93) (A_X8_lower l g M1 iz (by omega) (by omega)) cb_X8_lower cl_X8_312 (clr0 rfl rfl (by decide) (by decide)) rfl (by decide) ⟨_, rfl, rfl⟩ rfl (by decide) rfl (Nat.le_of_ble_eq_true rfl) rfl dX8_layWays_70 (fun x6 bx6 hx6 => ?_)
        refine z_aload_nr dX8_layWays_73 rfl ?_
        refine z_iload_n dX8_layWays_74 rfl ?_
        refine z_callVip (n2 := 93) (A_X8_upper l g M1 iz (by omega) (by omega)) cb_X8_upper cl_X8_316 (clr0 rfl rfl (by decide) (by decide)) rfl (by decide) ⟨_, rfl, rfl⟩ rfl (by decide) rfl (Nat.le_of_ble_eq_true rfl) rfl dX8_layWays_75 (fun x7 bx7 hx7 => ?_)
        have hlo1 : x6 = loM M iz := by unfold loM; rw [← q61, ← q63]; assumption
        have hup1 : x7 = upM M iz := by unfold upM; rw [← q61, ← q64]; assumption
        refine z_callSip (n2 := 93) (A_X8_cell l g M1 x6 x7 (by rw [hlo1]; exact hnn.2.1) (by rw [hup1]; exact hnn.1)) cb_X8_cell cl_X8_305 (clr0 rfl rfl (by decide) (by decide)) rfl (by decide) rfl (Nat.le_of_ble_eq_true rfl) rfl dX8_layWays_78 (fun x8 bx8 hx8 => ?_)
        refine z_istore_n (loc2 := [fr 60, fi k, fi iz, fi x8, fu]) dX8_layWays_81 (by decide) rfl ?_
        refine z_aload_nr dX8_layWays_82 rfl ?_
        refine z_iload_n dX8_layWays_83 rfl ?_
        refine z_callVip (n2 := 93) (A_X8_upper l g M1 iz (by omega) (by omega)) cb_X8_upper cl_X8_316 (clr0 rfl rfl (by decide) (by decide)) rfl (by decide) ⟨_, rfl, rfl⟩ rfl (by decide) rfl (Nat.le_of_ble_eq_true rfl) rfl dX8_layWays_84 (fun x9 bx9 hx9 => ?_)
        refine z_aload_nr dX8_layWays_87 rfl ?_
        refine z_iload_n dX8_layWays_88 rfl ?_
        refine z_callVip (n2 := 93) (A_X8_lower l g M1 iz (by omega) (by omega)) cb_X8_lower cl_X8_312 (clr0 rfl rfl (by decide) (by decide)) rfl (by decide) ⟨_, rfl, rfl⟩ rfl (by decide) rfl (Nat.le_of_ble_eq_true rfl) rfl dX8_layWays_89 (fun x10 bx10 hx10 => ?_)
        have hlo2 : x10 = loM M iz := by unfold loM; rw [← q61, ← q63]; assumption
        have hup2 : x9 = upM M iz := by unfold upM; rw [← q61, ← q64]; assumption
        refine z_callSip (n2 := 93) (A_X8_cell l g M1 x9 x10 (by rw [hup2]; exact hnn.1) (by rw [hlo2]; exact hnn.2.1)) cb_X8_cell cl_X8_305 (clr0 rfl rfl (by decide) (by decide)) rfl (by decide) rfl (Nat.le_of_ble_eq_true rfl) rfl dX8_layWays_92 (fun x11 bx11 hx11 => ?_)
        refine z_istore (loc2 := [fr 60, fi k, fi iz, fi x8, fi x11]) dX8_layWays_95 (by decide) rfl ?_
        refine z_aload_nr dX8_layWays_97 rfl ?_
        refine z_getr (b := 86) fl_X8_90 rfl (by decide) rf_60_41 rfl dX8_layWays_98 ?_
        refine z_iload_n dX8_layWays_101 rfl ?_
        refine z_aload_nr dX8_layWays_102 rfl ?_
        refine z_getr (b := 86) fl_X8_90 rfl (by decide) rf_60_41 rfl dX8_layWays_103 ?_
        refine z_iload_n dX8_layWays_106 rfl ?_
        have hi1 : x8 = 17 * loM M iz + upM M iz := by omega
        refine z_lald rfl (by decide) (by omega) (by omega) dX8_layWays_107 (fun x12 hx12 bx12 => ?_)
        have hr1 : x12 = Dm M1 (loM M iz) (upM M iz) := by rw [hx12, hi1]; rfl
        have hrr := h1.2.1 (loM M iz) (upM M iz) hnn.2.1 hnn.1
        refine z_aload_nr dX8_layWays_108 rfl ?_
        refine z_iload_n dX8_layWays_109 rfl ?_
        refine z_callVlp (n2 := 93) (A_X8_highOf l g M1 iz (by omega) (htel) (hTm.2.2.1) (hTm.2.2.2)) cb_X8_highOf cl_X8_319 (clr0 rfl rfl (by decide) (by decide)) rfl (by decide) ⟨_, rfl, rfl⟩ rfl (by decide) rfl (Nat.le_of_ble_eq_true rfl) rfl dX8_layWays_110 (fun x13 bx13 hx13 => ?_)
        have hhi := hx13
        have hhb : -100000 ≤ highM M iz ∧ highM M iz ≤ 100000 := by rw [← hlh.2]; omega
        refine z_aload_nr dX8_layWays_113 rfl ?_
        refine z_getl (kz := 45) fl_X8_323 rfl (by decide) rfl dX8_layWays_114 (fun x14 hx14 bx14 => ?_)
        have hsum1 : x13 = highM M iz := by rw [← hlh.2]; exact hhi.1
        first | refine z_laddN dX8_layWays_117 (by omega) (fun x15 hx15 => ?_) | refine z_ladd dX8_layWays_117 (fun x15 hx15 => ?_)
        have hsum : x15 = highM M iz + M 60 45 := by omega
        refine z_callSlp (n2 := 93) (A_X8_least l g M1 x12 x15) cb_X8_least cl_X8_300 (clr0 rfl rfl (by decide) (by decide)) rfl (by decide) rfl (Nat.le_of_ble_eq_true rfl) rfl dX8_layWays_118 (fun x16 bx16 hx16 => ?_)
        have hv1 := hx16
        rw [hr1, hsum] at hv1
        refine z_last rfl (by decide) (by omega) (by omega) dX8_layWays_121 (fun Mz17 hMz17 => ?_)
        refine z_aload_nr dX8_layWays_122 rfl ?_
        refine z_getr (b := 86) fl_X8_90 rfl (by decide) rf_60_41 rfl dX8_layWays_123 ?_
        refine z_iload dX8_layWays_126 rfl ?_
        refine z_aload_nr dX8_layWays_128 rfl ?_
        refine z_getr (b := 86) fl_X8_90 rfl (by decide) rf_60_41 rfl dX8_layWays_129 ?_
        refine z_iload dX8_layWays_132 rfl ?_
        have hi2 : x11 = 17 * upM M iz + loM M iz := by omega
        refine z_lald rfl (by decide) (by omega) (by omega) dX8_layWays_134 (fun x18 hx18 bx18 => ?_)
        have hr2 : x18 = Dm M1 (upM M iz) (loM M iz) := by
          rw [hx18, hMz17, st_at, if_neg (by omega), hi2]
          rfl
        have hrr2 := h1.2.1 (upM M iz) (loM M iz) hnn.1 hnn.2.1
        have hq45 : Mz17 60 45 = M 60 45 := by rw [hMz17, st_cell (by decide)]; exact q45
        have hof2 : OffM M Mz17 := OffM_w (fun b j q => by rw [hMz17, st_cell q]; exact h1.1 b j q)
        have hTm2 := MT0_off hof2 hT
        have hlh2 := lowM_off hof2 iz
        have hh60 : Mz17 60 0 = M 60 0 := by rw [hMz17, st_cell (by decide)]; exact q0
        refine z_aload_nr dX8_layWays_135 rfl ?_
        refine z_getl (kz := 45) fl_X8_323 rfl (by decide) rfl dX8_layWays_136 (fun x19 hx19 bx19 => ?_)
        rw [hMz17, st_cell (by decide)] at hx19
        refine z_aload_nr dX8_layWays_139 rfl ?_
        refine z_iload_n dX8_layWays_140 rfl ?_
        refine z_callVlp (n2 := 93) (A_X8_lowOf l g Mz17 iz (by omega) (hTm2.2.1 iz h0.1 (by omega)) (hTm2.2.2.1) (hTm2.2.2.2)) cb_X8_lowOf cl_X8_327 (clr0 rfl rfl (by decide) (by decide)) rfl (by decide) ⟨_, rfl, rfl⟩ rfl (by decide) rfl (Nat.le_of_ble_eq_true rfl) rfl dX8_layWays_141 (fun x20 bx20 hx20 => ?_)
        have hlw1 := hx20
        have hlb : -100000 ≤ lowM M iz ∧ lowM M iz ≤ 100000 := by rw [← hlh2.1]; omega
        have hlo3 : x20 = lowM M iz := by rw [← hlh2.1]; exact hlw1.1
        first | refine z_lsubN dX8_layWays_144 (by omega) (fun x21 hx21 => ?_) | refine z_lsub dX8_layWays_144 (fun x21 hx21 => ?_)
        have hdif : x21 = M 60 45 - lowM M iz := by omega
        refine z_callSlp (n2 := 93) (A_X8_least l g Mz17 x18 x21) cb_X8_least cl_X8_300 (clr0 rfl rfl (by decide) (by decide)) rfl (by decide) rfl (Nat.le_of_ble_eq_true rfl) rfl dX8_layWays_145 (fun x22 bx22 hx22 => ?_)
        have hv2 := hx22
        rw [hr2, hdif] at hv2
        refine z_last rfl (by decide) (by omega) (by omega) dX8_layWays_148 (fun Mz23 hMz23 => ?_)
        refine z_iinc (loc2 := fun vq => [fr 60, fi k, fi vq, fi x8, fi x11]) dX8_layWays_149 rfl (by decide) (by omega) (fun _ => rfl) (fun x24 hx24 => ?_)
        refine z_goto (tgt := 51) dX8_layWays_152 (by decide) ?_
        have hlw : LW M k (iz + 1) Mz23 := by
          first
          | (refine LW_no h1 h0.1 (fun z => ?_)
             unfold inM at z
             omega)
          | (refine LW_yes h1 h0.1 hin2 (hT.2.1 iz h0.1 (by omega)) hw ⟨hlb, hhb⟩ hv1 hv2 ?_
             rw [hMz23, hMz17, hi1, hi2])
        refine z_few [fr 60, fi k, fi x24, fu, fu] (by simp [fle, kn]) ?_
        exact ih51 _ (by omega) x24 Mz23 rfl (by omega) (by rw [hx24]; exact hlw)
  have lp26 : ∀ (kq : Nat) (az : Int) (M1 : FMem), (17 - az).toNat = kq → (0 ≤ az ∧ az ≤ 17) → (∀ b j, b ≠ 86 → M1 b j = M b j) → (∀ a b, nd a → nd b → (¬ (a = b ∧ a < az) ∧ Dm M1 a b = 1000000000000) ∨ ((a = b ∧ a < az) ∧ Dm M1 a b = 0)) → Wa l g true fi_X8_layWays 93 μ (Zv g true fi_X8_layWays 93 μ (fun M2 => LW M k (M 60 0) M2)) 26 [] [fr 60, fi k, fi az, fu, fu] 93 M1 := by
    intro kq
    induction kq using Nat.strongRecOn with
    | _ kq ih26 =>
    intro az M1 hk26 h0 h1 h2
    refine z_iload_n dX8_layWays_26 rfl ?_
    refine z_bipush dX8_layWays_27 ⟨by decide, by decide⟩ (by decide) ?_
    refine z_icmp_ge (tgt := 49) dX8_layWays_29 (by decide) (fun c25 => ?_) (fun c25 => ?_)
    · refine z_iconst dX8_layWays_49 ⟨by decide, by decide⟩ ?_
      refine z_istore_n (loc2 := [fr 60, fi k, fi 0, fu, fu]) dX8_layWays_50 (by decide) rfl ?_
      exact lp51 _ 0 M1 rfl (⟨by omega, hT.1.1⟩) (⟨h1, fun a b ha hb => by
        rcases h2 a b ha hb with z | z
        · exact Or.inl z.2
        · exact Or.inr (by omega), fun a ha => by
        rcases h2 a a ha ha with z | z
        · exact absurd ⟨rfl, by have := ha.2; omega⟩ z.1
        · exact z.2, fun y _ a b ha hb hf => by
        rcases h2 a b ha hb with z | z
        · omega
        · rw [z.2, z.1.1]; omega, fun y _ i i0 i1 => by omega, fun a b ha hb hf => by
        rcases h2 a b ha hb with z | z
        · omega
        · rcases h2 b a hb ha with w | w
          · exact absurd ⟨z.1.1.symm, by have := z.1.1; omega⟩ w.1
          · omega⟩)
    · refine z_aload_nr dX8_layWays_32 rfl ?_
      refine z_getr (b := 86) fl_X8_90 rfl (by decide) rf_60_41 rfl dX8_layWays_33 ?_
      refine z_iload_n dX8_layWays_36 rfl ?_
      refine z_iload_n dX8_layWays_37 rfl ?_
      refine z_callSip (n2 := 93) (A_X8_cell l g M1 az az (by omega) (by omega)) cb_X8_cell cl_X8_305 (clr0 rfl rfl (by decide) (by decide)) rfl (by decide) rfl (Nat.le_of_ble_eq_true rfl) rfl dX8_layWays_38 (fun x26 bx26 hx26 => ?_)
      have hix : x26 = 17 * az + az := by assumption
      refine z_lconst0 dX8_layWays_41 ?_
      refine z_last rfl (by decide) (by omega) (by omega) dX8_layWays_42 (fun Mz27 hMz27 => ?_)
      refine z_iinc (loc2 := fun vq => [fr 60, fi k, fi vq, fu, fu]) dX8_layWays_43 rfl (by decide) (by omega) (fun _ => rfl) (fun x28 hx28 => ?_)
      refine z_goto (tgt := 26) dX8_layWays_46 (by decide) ?_
      have g2 : ∀ a b, nd a → nd b → (¬ (a = b ∧ a < az + 1) ∧ Dm Mz27 a b = 1000000000000) ∨ ((a = b ∧ a < az + 1) ∧ Dm Mz27 a b = 0) := by
        intro a b ha hb
        have hq : Dm Mz27 a b = if 17 * a + b = 17 * az + az then 0 else Dm M1 a b := by
          unfold Dm
          rw [hMz27, st_at, hix]
        rw [hq]
        by_cases e : a = az ∧ b = az
        · rw [if_pos (by omega)]; exact Or.inr ⟨by omega, rfl⟩
        · rw [if_neg (by omega)]
          rcases h2 a b ha hb with z | z
          · exact Or.inl ⟨fun w => by omega, z.2⟩
          · exact Or.inr ⟨⟨z.1.1, by omega⟩, z.2⟩
      exact ih26 _ (by omega) x28 Mz27 rfl (by omega) (fun b j q => by rw [hMz27, st_cell q]; exact h1 b j q) (by rw [hx28]; exact g2)
  have lp2 : ∀ (kq : Nat) (cz : Int) (M1 : FMem), (289 - cz).toNat = kq → (0 ≤ cz ∧ cz ≤ 289) → (∀ b j, b ≠ 86 → M1 b j = M b j) → (∀ j, 0 ≤ j → j < cz → M1 86 j = 1000000000000) → Wa l g true fi_X8_layWays 93 μ (Zv g true fi_X8_layWays 93 μ (fun M2 => LW M k (M 60 0) M2)) 2 [] [fr 60, fi k, fi cz, fu, fu] 93 M1 := by
    intro kq
    induction kq using Nat.strongRecOn with
    | _ kq ih2 =>
    intro cz M1 hk2 h0 h1 h2
    refine z_iload_n dX8_layWays_2 rfl ?_
    refine z_sipush dX8_layWays_3 ⟨by decide, by decide⟩ (by decide) ?_
    refine z_icmp_ge (tgt := 24) dX8_layWays_6 (by decide) (fun c29 => ?_) (fun c29 => ?_)
    · refine z_iconst dX8_layWays_24 ⟨by decide, by decide⟩ ?_
      refine z_istore_n (loc2 := [fr 60, fi k, fi 0, fu, fu]) dX8_layWays_25 (by decide) rfl ?_
      exact lp26 _ 0 M1 rfl (by omega) (h1) (fun a b ha hb => Or.inl ⟨fun z => by have := ha.1; omega, h2 (17 * a + b) (by have := ha.1; have := hb.1; omega) (by have := ha.2; have := hb.2; omega)⟩)
    · refine z_aload_nr dX8_layWays_9 rfl ?_
      refine z_getr (b := 86) fl_X8_90 rfl (by decide) rf_60_41 rfl dX8_layWays_10 ?_
      refine z_iload_n dX8_layWays_13 rfl ?_
      refine z_ldc2 (c := 1000000000000) cn_X8_303 ⟨by decide, by decide⟩ dX8_layWays_14 ?_
      refine z_last rfl (by decide) (by omega) (by omega) dX8_layWays_17 (fun Mz30 hMz30 => ?_)
      refine z_iinc (loc2 := fun vq => [fr 60, fi k, fi vq, fu, fu]) dX8_layWays_18 rfl (by decide) (by omega) (fun _ => rfl) (fun x31 hx31 => ?_)
      refine z_goto (tgt := 2) dX8_layWays_21 (by decide) ?_
      exact ih2 _ (by omega) x31 Mz30 rfl (by omega) (fun b j q => by rw [hMz30, st_cell q]; exact h1 b j q) (fun j q1 q2 => by rw [hMz30, st_at]; split; rfl; exact h2 j q1 (by omega))
  refine z_iconst dX8_layWays_0 ⟨by decide, by decide⟩ ?_
  refine z_istore_n (loc2 := [fr 60, fi k, fi 0, fu, fu]) dX8_layWays_1 (by decide) rfl ?_
  exact lp2 _ 0 M rfl (by omega) (fun b j _ => rfl) (fun j _ h => by omega)
