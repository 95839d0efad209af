/-! ===== the reference: claim, count, widening, blame, worth ===== -/
def ClmM (M : FMem) (S : (Int → Int) → Prop) (i what q : Int) : Prop := if ¬ (0 ≤ i ∧ i < M 60 21) then q = -1000001 else if what = 0 then AClaim S (M 77 i) (M 78 i) (M 79 i) q else if what = 1 then q = M 77 i else if what = 2 then q = M 78 i else if what = 3 then q = M 79 i else q = -1000002
def oneM (M : FMem) (what i : Int) : Int := (if what = 0 then b01 (M 70 i = 0 ∧ M 69 i = 0) else if what = 1 then M 69 i else if what = 2 then M 70 i else b01 (M 61 i = 0))
def CntM (M : FMem) (S : (Int → Int) → Prop) (what q : Int) : Prop := if what = 0 then q = M 60 0 else if what = 1 then q = sumI (oneM M 0) (M 60 0) else if what = 2 then q = sumI (oneM M 1) (M 60 0) else if what = 3 then q = sumI (oneM M 2) (M 60 0) else if what = 4 then ALoose S q else if what = 5 then q = M 60 21 else if what = 6 then q = M 60 35 else if what = 7 then q = b01 (M 60 55 = 1 ∧ M 60 56 = 0) else if what = 8 then q = sumI (oneM M 3) (M 60 0) else q = -1000002
theorem oneM_r {M : FMem} (h : MOk true M) (what i : Int) : 0 ≤ oneM M what i ∧ oneM M what i ≤ 1 := by
  have h1 := mok_z h (a := 69) rfl i
  have h2 := mok_z h (a := 70) rfl i
  unfold oneM
  split
  · exact b01_r _
  · split
    · omega
    · split
      · omega
      · exact b01_r _
theorem SolR_mono {M : FMem} {k w w' : Int} (h : w ≤ w') {x : Int → Int} (hx : SolR M k (-1) (-1) (-1) w x) : SolR M k (-1) (-1) (-1) w' x := fun i a b c => by
  have := hx i a b c
  omega
theorem lowM_b {M : FMem} (hT : MT0 M) {i : Int} (h0 : 0 ≤ i) (h1 : i < M 60 0) : (-100000 ≤ lowM M i ∧ lowM M i ≤ 100000) ∧ (-100000 ≤ highM M i ∧ highM M i ≤ 100000) := by
  have ht := hT.2.1 i h0 h1
  unfold TelM TelOk at ht
  have hbl := hT.2.2.2.2.1 (M 62 i) (by omega) (by omega)
  unfold lowM highM lowS highS
  by_cases hk : M 61 i = 0
  · rw [if_pos hk, if_pos hk]
    have hsp := hT.2.2.2.1 (M 63 i) (by omega) (by omega)
    have hre := hT.2.2.1 (M 64 i) (by omega) (by omega)
    have hdu := hT.2.2.2.2.2.1
    have e1 := (ev_b (a := M 75 (4 * M 63 i + 1)) (b := M 75 (4 * M 63 i + 2)) (c := M 75 (4 * M 63 i + 3)) (t := M 67 i) (u := M 68 i) (by omega) (by omega) (by omega) (by omega) (by omega)).1
    have e2 := (ev_b (a := M 75 (4 * M 63 i)) (b := M 75 (4 * M 63 i + 2)) (c := M 75 (4 * M 63 i + 3)) (t := M 67 i) (u := M 68 i) (by omega) (by omega) (by omega) (by omega) (by omega)).2
    have d1 := mulp (a := M 73 (M 64 i)) (b := M 60 18) (A := 2000) (B := 99) (by omega) (by omega)
    have d2 := mulp (a := M 72 (M 64 i)) (b := M 60 17) (A := 2000) (B := 99) (by omega) (by omega)
    omega
  · rw [if_neg hk, if_neg hk]; omega
theorem SolR_big {M : FMem} (hT : MT0 M) {k w : Int} (hw : 100000 ≤ w) : Feas (SolR M k (-1) (-1) (-1) w) := by
  refine ⟨fun _ => 0, fun i i0 i1 _ => ?_⟩
  have := lowM_b hT i0 i1
  simp only
  omega
set_option maxHeartbeats 1600000 in
theorem A_X8_claim (l : Launch) (g : Cx) (M : FMem) (i what : Int) (hT : MT M) : AMi l g true fi_X8_claim [fr 60, fi i, fi what] 93 M (fun q M2 => OffN M M2 ∧ ClmM M (SolR M (M 60 0) (-1) (-1) (-1) 0) i what q) := by
  refine AMi_intro [fr 60, fi i, fi what] (by decide) (knall rfl) (Nat.le_of_ble_eq_true rfl) rfl ?_
  intro hNV hM0 μ
  have bi : N32 i := hNV (fi i) (by simp)
  have bwhat : N32 what := hNV (fi what) (by simp)
  have hcl := hT.1.2.2.2.2.2.2.2.1
  have hab := mok_z hM0 (a := 79) rfl i
  refine z_iload_n dX8_claim_0 rfl ?_
  refine z_i2l dX8_claim_1 ?_
  refine z_lconst0 dX8_claim_2 ?_
  refine z_aload_nr dX8_claim_3 rfl ?_
  refine z_geti (kz := 21) fl_X8_276 rfl (by decide) rfl dX8_claim_4 (fun x1 hx1 bx1 => ?_)
  refine z_iconst dX8_claim_7 ⟨by decide, by decide⟩ ?_
  first | refine z_isubN dX8_claim_8 (by omega) (fun x2 hx2 => ?_) | refine z_isub dX8_claim_8 (fun x2 hx2 => ?_)
  refine z_i2l dX8_claim_9 ?_
  refine z_callSip (n2 := 93) (A_X8_in l g M i 0 x2) cb_X8_in cl_X8_130 (clr0 rfl rfl (by decide) (by decide)) rfl (by decide) rfl (Nat.le_of_ble_eq_true rfl) rfl dX8_claim_10 (fun x3 bx3 hx3 => ?_)
  have i3 := if01 hx3
  refine z_if_ne (tgt := 19) dX8_claim_13 (by decide) (fun c4 => ?_) (fun c4 => ?_)
  · refine z_iload_n dX8_claim_19 rfl ?_
    by_cases s5_0 : what = 0
    · refine z_tableIn (tgt := 52) dX8_claim_20 (by omega) (by omega) (by rw [s5_0]; rfl) (by decide) ?_
      refine z_aload_nr dX8_claim_52 rfl ?_
      refine z_aload_nr dX8_claim_53 rfl ?_
      refine z_geti (kz := 0) fl_X8_136 rfl (by decide) rfl dX8_claim_54 (fun x6 hx6 bx6 => ?_)
      have hnn : x6 = M 60 0 := by assumption
      refine z_callVi (n2 := 93) (A_X8_sumWays l g M x6 (hT.1) (wide0 hT)) cb_X8_sumWays cl_X8_335 (clr0 rfl rfl (by decide) (by decide)) rfl (by decide) ⟨_, rfl, rfl⟩ rfl (by decide) rfl (Nat.le_of_ble_eq_true rfl) rfl dX8_claim_57 (fun x7 Mz7 bx7 kMz7 hc7 => ?_)
      have hsw := hc7
      rw [SolM_MT hT _] at hsw
      have hoN := OffN_w hT hsw.1
      refine z_if_eq (tgt := 71) dX8_claim_60 (by decide) (fun c8 => ?_) (fun c8 => ?_)
      · refine z_ldc_w (c := -1000005) cn_X8_357 ⟨by decide, by decide⟩ dX8_claim_71 ?_
        refine z_iret rfl (by decide) rfl (Nat.sub_self _) dX8_claim_74 ?_
        refine ⟨hoN, ?_⟩
        unfold ClmM
        rw [if_neg (by omega), if_pos (by omega)]
        first
        | (rw [q77, q78, q79] at hst; exact hst)
        | (refine Or.inl ⟨?_, rfl⟩
           rw [hnn] at hsw
           rcases hsw.2 with z | z
           · exfalso; omega
           · exact z.2)
      · rw [hnn] at hsw
        have hsf : Feas (SolR M (M 60 0) (-1) (-1) (-1) 0) ∧ WF (SolR M (M 60 0) (-1) (-1) (-1) 0) Mz7 := by
          rcases hsw.2 with z | z
          · exact z.2
          · exfalso; omega
        have q77 := hsw.1 77 i (by decide)
        have q78 := hsw.1 78 i (by decide)
        have q79 := hsw.1 79 i (by decide)
        have hch := hT.1.2.2.2.2.2.2.2.2 i (by omega) (by omega)
        refine z_aload_nr dX8_claim_63 rfl ?_
        refine z_iload_n dX8_claim_64 rfl ?_
        refine z_callVip (n2 := 93) (A_X8_stateOf l g Mz7 i (by omega) (by rw [q77]; omega) ((SolR M (M 60 0) (-1) (-1) (-1) 0)) (hsf.1) (hsf.2)) cb_X8_stateOf cl_X8_439 (clr0 rfl rfl (by decide) (by decide)) rfl (by decide) ⟨_, rfl, rfl⟩ rfl (by decide) rfl (Nat.le_of_ble_eq_true rfl) rfl dX8_claim_65 (fun x9 bx9 hx9 => ?_)
        have hst := hx9
        refine z_goto (tgt := 74) dX8_claim_68 (by decide) ?_
        refine z_iret rfl (by decide) rfl (Nat.sub_self _) dX8_claim_74 ?_
        refine ⟨hoN, ?_⟩
        unfold ClmM
        rw [if_neg (by omega), if_pos (by omega)]
        first
        | (rw [q77, q78, q79] at hst; exact hst)
        | (refine Or.inl ⟨?_, rfl⟩
           rw [hnn] at hsw
           rcases hsw.2 with z | z
           · exfalso; omega
           · exact z.2)
    by_cases s5_1 : what = 1
    · refine z_tableIn (tgt := 75) dX8_claim_20 (by omega) (by omega) (by rw [s5_1]; rfl) (by decide) ?_
      refine z_aload_nr dX8_claim_75 rfl ?_
      refine z_getr (b := 77) fl_X8_59 rfl (by decide) rf_60_22 rfl dX8_claim_76 ?_
      refine z_iload_n dX8_claim_79 rfl ?_
      refine z_iald rfl (by decide) (by omega) (by omega) dX8_claim_80 (fun x10 hx10 bx10 => ?_)
      refine z_iret rfl (by decide) rfl (Nat.sub_self _) dX8_claim_81 ?_
      refine ⟨OffN_rfl hT, ?_⟩
      unfold ClmM
      rw [if_neg (by omega), if_neg (by omega), if_pos (by omega)]
      assumption
    by_cases s5_2 : what = 2
    · refine z_tableIn (tgt := 82) dX8_claim_20 (by omega) (by omega) (by rw [s5_2]; rfl) (by decide) ?_
      refine z_aload_nr dX8_claim_82 rfl ?_
      refine z_getr (b := 78) fl_X8_62 rfl (by decide) rf_60_23 rfl dX8_claim_83 ?_
      refine z_iload_n dX8_claim_86 rfl ?_
      refine z_iald rfl (by decide) (by omega) (by omega) dX8_claim_87 (fun x11 hx11 bx11 => ?_)
      refine z_iret rfl (by decide) rfl (Nat.sub_self _) dX8_claim_88 ?_
      refine ⟨OffN_rfl hT, ?_⟩
      unfold ClmM
      rw [if_neg (by omega), if_neg (by omega), if_neg (by omega), if_pos (by omega)]
      assumption
    by_cases s5_3 : what = 3
    · refine z_tableIn (tgt := 89) dX8_claim_20 (by omega) (by omega) (by rw [s5_3]; rfl) (by decide) ?_
      refine z_aload_nr dX8_claim_89 rfl ?_
      refine z_getr (b := 79) fl_X8_65 rfl (by decide) rf_60_24 rfl dX8_claim_90 ?_
      refine z_iload_n dX8_claim_93 rfl ?_
      refine z_zald rfl (by decide) (by omega) (by omega) dX8_claim_94 (fun x12 hx12 bx12 => ?_)
      refine z_callSip (n2 := 93) (A_X8_one l g M x12 (by omega)) cb_X8_one cl_X8_184 (clr0 rfl rfl (by decide) (by decide)) rfl (by decide) rfl (Nat.le_of_ble_eq_true rfl) rfl dX8_claim_95 (fun x13 bx13 hx13 => ?_)
      refine z_iret rfl (by decide) rfl (Nat.sub_self _) dX8_claim_98 ?_
      refine ⟨OffN_rfl hT, ?_⟩
      unfold ClmM
      rw [if_neg (by omega), if_neg (by omega), if_neg (by omega), if_neg (by omega), if_pos (by omega)]
      omega
    refine z_tableOut (tgt := 99) dX8_claim_20 (by omega) (by decide) ?_
    refine z_ldc (c := -1000002) cn_X8_164 ⟨by decide, by decide⟩ dX8_claim_99 ?_
    refine z_iret rfl (by decide) rfl (Nat.sub_self _) dX8_claim_101 ?_
    refine ⟨OffN_rfl hT, ?_⟩
    unfold ClmM
    rw [if_neg (by omega), if_neg (by omega), if_neg (by omega), if_neg (by omega), if_neg (by omega)]
  · refine z_ldc (c := -1000001) cn_X8_153 ⟨by decide, by decide⟩ dX8_claim_16 ?_
    refine z_iret rfl (by decide) rfl (Nat.sub_self _) dX8_claim_18 ?_
    refine ⟨OffN_rfl hT, ?_⟩
    unfold ClmM
    rw [if_pos (by omega)]
set_option maxHeartbeats 3200000 in
theorem A_X8_count (l : Launch) (g : Cx) (M : FMem) (what : Int) (hT : MT M) : AMi l g true fi_X8_count [fr 60, fi what] 93 M (fun q M2 => OffN M M2 ∧ CntM M (SolR M (M 60 0) (-1) (-1) (-1) 0) what q) := by
  refine AMi_intro [fr 60, fi what, fu, fu, fu, fu, fu] (by decide) (knall rfl) (Nat.le_of_ble_eq_true rfl) rfl ?_
  intro hNV hM0 μ
  have bwhat : N32 what := hNV (fi what) (by simp)
  have hT0 := hT.1.1
  have hT2 := hT.2
  have lp13 : ∀ (kq : Nat) (nz lz uz gz iz : Int), (80 - iz).toNat = kq → (0 ≤ iz ∧ iz ≤ M 60 0) → (nz = sumI (oneM M 0) iz) → (lz = sumI (oneM M 1) iz) → (uz = sumI (oneM M 2) iz) → (gz = sumI (oneM M 3) iz) → Wa l g true fi_X8_count 93 μ (Zi g true fi_X8_count 93 μ (fun q M2 => OffN M M2 ∧ CntM M (SolR M (M 60 0) (-1) (-1) (-1) 0) what q)) 13 [] [fr 60, fi what, fi nz, fi lz, fi uz, fi gz, fi iz] 93 M := by
    intro kq
    induction kq using Nat.strongRecOn with
    | _ kq ih13 =>
    intro nz lz uz gz iz hk13 h0 h1 h2 h3 h4
    have s0 := sumI_le (oneM_r hM0 0) iz
    have s1 := sumI_le (oneM_r hM0 1) iz
    have s2 := sumI_le (oneM_r hM0 2) iz
    have s3 := sumI_le (oneM_r hM0 3) iz
    have z1 := mok_z hM0 (a := 69) rfl iz
    have z2 := mok_z hM0 (a := 70) rfl iz
    refine z_iload dX8_count_13 rfl ?_
    refine z_aload_nr dX8_count_15 rfl ?_
    refine z_geti (kz := 0) fl_X8_136 rfl (by decide) rfl dX8_count_16 (fun x1 hx1 bx1 => ?_)
    refine z_icmp_ge (tgt := 95) dX8_count_19 (by decide) (fun c2 => ?_) (fun c2 => ?_)
    · refine z_iload_n dX8_count_95 rfl ?_
      by_cases s3_0 : what = 0
      · refine z_tableIn (tgt := 148) dX8_count_96 (by omega) (by omega) (by rw [s3_0]; rfl) (by decide) ?_
        refine z_aload_nr dX8_count_148 rfl ?_
        refine z_geti (kz := 0) fl_X8_136 rfl (by decide) rfl dX8_count_149 (fun x4 hx4 bx4 => ?_)
        refine z_iret rfl (by decide) rfl (Nat.sub_self _) dX8_count_152 ?_
        refine ⟨OffN_rfl hT, ?_⟩
        unfold CntM
        rw [if_pos (by omega)]
        assumption
      by_cases s3_1 : what = 1
      · refine z_tableIn (tgt := 153) dX8_count_96 (by omega) (by omega) (by rw [s3_1]; rfl) (by decide) ?_
        refine z_iload_n dX8_count_153 rfl ?_
        refine z_iret rfl (by decide) rfl (Nat.sub_self _) dX8_count_154 ?_
        refine ⟨OffN_rfl hT, ?_⟩
        unfold CntM
        rw [if_neg (by omega), if_pos (by omega)]
        rw [h1, show iz = M 60 0 by omega]
      by_cases s3_2 : what = 2
      · refine z_tableIn (tgt := 155) dX8_count_96 (by omega) (by omega) (by rw [s3_2]; rfl) (by decide) ?_
        refine z_iload_n dX8_count_155 rfl ?_
        refine z_iret rfl (by decide) rfl (Nat.sub_self _) dX8_count_156 ?_
        refine ⟨OffN_rfl hT, ?_⟩
        unfold CntM
        rw [if_neg (by omega), if_neg (by omega), if_pos (by omega)]
        rw [h2, show iz = M 60 0 by omega]
      by_cases s3_3 : what = 3
      · refine z_tableIn (tgt := 157) dX8_count_96 (by omega) (by omega) (by rw [s3_3]; rfl) (by decide) ?_
        refine z_iload dX8_count_157 rfl ?_
        refine z_iret rfl (by decide) rfl (Nat.sub_self _) dX8_count_159 ?_
        refine ⟨OffN_rfl hT, ?_⟩
        unfold CntM
        rw [if_neg (by omega), if_neg (by omega), if_neg (by omega), if_pos (by omega)]
        rw [h3, show iz = M 60 0 by omega]
      by_cases s3_4 : what = 4
      · refine z_tableIn (tgt := 160) dX8_count_96 (by omega) (by omega) (by rw [s3_4]; rfl) (by decide) ?_
        refine z_aload_nr dX8_count_160 rfl ?_
        refine z_callVi (n2 := 93) (A_X8_looseOnes l g M (hT)) cb_X8_looseOnes cl_X8_341 (clr0 rfl rfl (by decide) (by decide)) rfl (by decide) ⟨_, rfl, rfl⟩ rfl (by decide) rfl (Nat.le_of_ble_eq_true rfl) rfl dX8_count_161 (fun x5 Mz5 bx5 kMz5 hc5 => ?_)
        have hlo := hc5
        refine z_iret rfl (by decide) rfl (Nat.sub_self _) dX8_count_164 ?_
        refine ⟨hlo.1, ?_⟩
        unfold CntM
        rw [if_neg (by omega), if_neg (by omega), if_neg (by omega), if_neg (by omega), if_pos (by omega)]
        exact hlo.2
      by_cases s3_5 : what = 5
      · refine z_tableIn (tgt := 165) dX8_count_96 (by omega) (by omega) (by rw [s3_5]; rfl) (by decide) ?_
        refine z_aload_nr dX8_count_165 rfl ?_
        refine z_geti (kz := 21) fl_X8_276 rfl (by decide) rfl dX8_count_166 (fun x6 hx6 bx6 => ?_)
        refine z_iret rfl (by decide) rfl (Nat.sub_self _) dX8_count_169 ?_
        refine ⟨OffN_rfl hT, ?_⟩
        unfold CntM
        rw [if_neg (by omega), if_neg (by omega), if_neg (by omega), if_neg (by omega), if_neg (by omega), if_pos (by omega)]
        assumption
      by_cases s3_6 : what = 6
      · refine z_tableIn (tgt := 170) dX8_count_96 (by omega) (by omega) (by rw [s3_6]; rfl) (by decide) ?_
        refine z_aload_nr dX8_count_170 rfl ?_
        refine z_geti (kz := 35) fl_X8_197 rfl (by decide) rfl dX8_count_171 (fun x7 hx7 bx7 => ?_)
        refine z_iret rfl (by decide) rfl (Nat.sub_self _) dX8_count_174 ?_
        refine ⟨OffN_rfl hT, ?_⟩
        unfold CntM
        rw [if_neg (by omega), if_neg (by omega), if_neg (by omega), if_neg (by omega), if_neg (by omega), if_neg (by omega), if_pos (by omega)]
        assumption
      by_cases s3_7 : what = 7
      · refine z_tableIn (tgt := 175) dX8_count_96 (by omega) (by omega) (by rw [s3_7]; rfl) (by decide) ?_
        refine z_aload_nr dX8_count_175 rfl ?_
        refine z_getz (kz := 55) fl_X8_344 rfl (by decide) rfl dX8_count_176 (fun x8 hx8 bx8 => ?_)
        refine z_if_eq (tgt := 193) dX8_count_179 (by decide) (fun c9 => ?_) (fun c9 => ?_)
        · refine z_iconst dX8_count_193 ⟨by decide, by decide⟩ ?_
          refine z_callSip (n2 := 93) (A_X8_one l g M 0 (by omega)) cb_X8_one cl_X8_184 (clr0 rfl rfl (by decide) (by decide)) rfl (by decide) rfl (Nat.le_of_ble_eq_true rfl) rfl dX8_count_194 (fun x10 bx10 hx10 => ?_)
          refine z_iret rfl (by decide) rfl (Nat.sub_self _) dX8_count_197 ?_
          refine ⟨OffN_rfl hT, ?_⟩
          unfold CntM
          rw [if_neg (by omega), if_neg (by omega), if_neg (by omega), if_neg (by omega), if_neg (by omega), if_neg (by omega), if_neg (by omega), if_pos (by omega)]
          unfold b01
          first
          | (rw [if_pos (by omega)]; omega)
          | (rw [if_neg (by omega)]; omega)
        · refine z_aload_nr dX8_count_182 rfl ?_
          refine z_getz (kz := 56) fl_X8_348 rfl (by decide) rfl dX8_count_183 (fun x11 hx11 bx11 => ?_)
          refine z_if_ne (tgt := 193) dX8_count_186 (by decide) (fun c12 => ?_) (fun c12 => ?_)
          · refine z_iconst dX8_count_193 ⟨by decide, by decide⟩ ?_
            refine z_callSip (n2 := 93) (A_X8_one l g M 0 (by omega)) cb_X8_one cl_X8_184 (clr0 rfl rfl (by decide) (by decide)) rfl (by decide) rfl (Nat.le_of_ble_eq_true rfl) rfl dX8_count_194 (fun x13 bx13 hx13 => ?_)
            refine z_iret rfl (by decide) rfl (Nat.sub_self _) dX8_count_197 ?_
            refine ⟨OffN_rfl hT, ?_⟩
            unfold CntM
            rw [if_neg (by omega), if_neg (by omega), if_neg (by omega), if_neg (by omega), if_neg (by omega), if_neg (by omega), if_neg (by omega), if_pos (by omega)]
            unfold b01
            first
            | (rw [if_pos (by omega)]; omega)
            | (rw [if_neg (by omega)]; omega)
          · refine z_iconst dX8_count_189 ⟨by decide, by decide⟩ ?_
            refine z_goto (tgt := 194) dX8_count_190 (by decide) ?_
            refine z_callSip (n2 := 93) (A_X8_one l g M 1 (by omega)) cb_X8_one cl_X8_184 (clr0 rfl rfl (by decide) (by decide)) rfl (by decide) rfl (Nat.le_of_ble_eq_true rfl) rfl dX8_count_194 (fun x14 bx14 hx14 => ?_)
            refine z_iret rfl (by decide) rfl (Nat.sub_self _) dX8_count_197 ?_
            refine ⟨OffN_rfl hT, ?_⟩
            unfold CntM
            rw [if_neg (by omega), if_neg (by omega), if_neg (by omega), if_neg (by omega), if_neg (by omega), if_neg (by omega), if_neg (by omega), if_pos (by omega)]
            unfold b01
            first
            | (rw [if_pos (by omega)]; omega)
            | (rw [if_neg (by omega)]; omega)
      by_cases s3_8 : what = 8
      · refine z_tableIn (tgt := 198) dX8_count_96 (by omega) (by omega) (by rw [s3_8]; rfl) (by decide) ?_
        refine z_iload dX8_count_198 rfl ?_
        refine z_iret rfl (by decide) rfl (Nat.sub_self _) dX8_count_200 ?_
        refine ⟨OffN_rfl hT, ?_⟩
        unfold CntM
        rw [if_neg (by omega), if_neg (by omega), if_neg (by omega), if_neg (by omega), if_neg (by omega), if_neg (by omega), if_neg (by omega), if_neg (by omega), if_pos (by omega)]
        rw [h4, show iz = M 60 0 by omega]
      refine z_tableOut (tgt := 201) dX8_count_96 (by omega) (by decide) ?_
      refine z_ldc (c := -1000002) cn_X8_164 ⟨by decide, by decide⟩ dX8_count_201 ?_
      refine z_iret rfl (by decide) rfl (Nat.sub_self _) dX8_count_203 ?_
      refine ⟨OffN_rfl hT, ?_⟩
      unfold CntM
      rw [if_neg (by omega), if_neg (by omega), if_neg (by omega), if_neg (by omega), if_neg (by omega), if_neg (by omega), if_neg (by omega), if_neg (by omega), if_neg (by omega)]
    · refine z_iload_n dX8_count_22 rfl ?_
      refine z_aload_nr dX8_count_23 rfl ?_
      refine z_iload dX8_count_24 rfl ?_
      refine z_aload_nr dX8_count_26 rfl ?_
      refine z_geti (kz := 0) fl_X8_136 rfl (by decide) rfl dX8_count_27 (fun x15 hx15 bx15 => ?_)
      refine z_callVip (n2 := 93) (A_X8_isIn l g M iz x15 (by omega)) cb_X8_isIn cl_X8_309 (clr0 rfl rfl (by decide) (by decide)) rfl (by decide) ⟨_, rfl, rfl⟩ rfl (by decide) rfl (Nat.le_of_ble_eq_true rfl) rfl dX8_count_30 (fun x16 bx16 hx16 => ?_)
      have i16 := if01 hx16
      refine z_callSip (n2 := 93) (A_X8_one l g M x16 (by omega)) cb_X8_one cl_X8_184 (clr0 rfl rfl (by decide) (by decide)) rfl (by decide) rfl (Nat.le_of_ble_eq_true rfl) rfl dX8_count_33 (fun x17 bx17 hx17 => ?_)
      first | refine z_iaddN dX8_count_36 (by omega) (fun x18 hx18 => ?_) | refine z_iadd dX8_count_36 (fun x18 hx18 => ?_)
      refine z_istore_n (loc2 := [fr 60, fi what, fi x18, fi lz, fi uz, fi gz, fi iz]) dX8_count_37 (by decide) rfl ?_
      refine z_iload_n dX8_count_38 rfl ?_
      refine z_aload_nr dX8_count_39 rfl ?_
      refine z_getr (b := 69) fl_X8_34 rfl (by decide) rf_60_9 rfl dX8_count_40 ?_
      refine z_iload dX8_count_43 rfl ?_
      refine z_zald rfl (by decide) (by omega) (by omega) dX8_count_45 (fun x19 hx19 bx19 => ?_)
      refine z_callSip (n2 := 93) (A_X8_one l g M x19 (by omega)) cb_X8_one cl_X8_184 (clr0 rfl rfl (by decide) (by decide)) rfl (by decide) rfl (Nat.le_of_ble_eq_true rfl) rfl dX8_count_46 (fun x20 bx20 hx20 => ?_)
      first | refine z_iaddN dX8_count_49 (by omega) (fun x21 hx21 => ?_) | refine z_iadd dX8_count_49 (fun x21 hx21 => ?_)
      refine z_istore_n (loc2 := [fr 60, fi what, fi x18, fi x21, fi uz, fi gz, fi iz]) dX8_count_50 (by decide) rfl ?_
      refine z_iload dX8_count_51 rfl ?_
      refine z_aload_nr dX8_count_53 rfl ?_
      refine z_getr (b := 70) fl_X8_38 rfl (by decide) rf_60_10 rfl dX8_count_54 ?_
      refine z_iload dX8_count_57 rfl ?_
      refine z_zald rfl (by decide) (by omega) (by omega) dX8_count_59 (fun x22 hx22 bx22 => ?_)
      refine z_callSip (n2 := 93) (A_X8_one l g M x22 (by omega)) cb_X8_one cl_X8_184 (clr0 rfl rfl (by decide) (by decide)) rfl (by decide) rfl (Nat.le_of_ble_eq_true rfl) rfl dX8_count_60 (fun x23 bx23 hx23 => ?_)
      first | refine z_iaddN dX8_count_63 (by omega) (fun x24 hx24 => ?_) | refine z_iadd dX8_count_63 (fun x24 hx24 => ?_)
      refine z_istore (loc2 := [fr 60, fi what, fi x18, fi x21, fi x24, fi gz, fi iz]) dX8_count_64 (by decide) rfl ?_
      refine z_iload dX8_count_66 rfl ?_
      refine z_aload_nr dX8_count_68 rfl ?_
      refine z_getr (b := 61) fl_X8_7 rfl (by decide) rf_60_1 rfl dX8_count_69 ?_
      refine z_iload dX8_count_72 rfl ?_
      refine z_iald rfl (by decide) (by omega) (by omega) dX8_count_74 (fun x25 hx25 bx25 => ?_)
      refine z_if_ne (tgt := 82) dX8_count_75 (by decide) (fun c26 => ?_) (fun c26 => ?_)
      · refine z_iconst dX8_count_82 ⟨by decide, by decide⟩ ?_
        refine z_callSip (n2 := 93) (A_X8_one l g M 0 (by omega)) cb_X8_one cl_X8_184 (clr0 rfl rfl (by decide) (by decide)) rfl (by decide) rfl (Nat.le_of_ble_eq_true rfl) rfl dX8_count_83 (fun x27 bx27 hx27 => ?_)
        first | refine z_iaddN dX8_count_86 (by omega) (fun x28 hx28 => ?_) | refine z_iadd dX8_count_86 (fun x28 hx28 => ?_)
        refine z_istore (loc2 := [fr 60, fi what, fi x18, fi x21, fi x24, fi x28, fi iz]) dX8_count_87 (by decide) rfl ?_
        refine z_iinc (loc2 := fun vq => [fr 60, fi what, fi x18, fi x21, fi x24, fi x28, fi vq]) dX8_count_89 rfl (by decide) (by omega) (fun _ => rfl) (fun x29 hx29 => ?_)
        refine z_goto (tgt := 13) dX8_count_92 (by decide) ?_
        have htel := hT.1.2.1 iz h0.1 (by omega)
        unfold TelM TelOk at htel
        have k0 : oneM M 0 iz = if M 70 iz = 0 ∧ M 69 iz = 0 then 1 else 0 := rfl
        have k1 : oneM M 1 iz = M 69 iz := rfl
        have k2 : oneM M 2 iz = M 70 iz := rfl
        have k3 : oneM M 3 iz = if M 61 iz = 0 then 1 else 0 := rfl
        have k0 := if01 k0
        have k3 := if01 k3
        exact ih13 _ (by omega) x18 x21 x24 x28 x29 rfl (by omega) (by rw [hx29, sumI_succ h0.1, ← h1]; omega) (by rw [hx29, sumI_succ h0.1, ← h2]; omega) (by rw [hx29, sumI_succ h0.1, ← h3]; omega) (by rw [hx29, sumI_succ h0.1, ← h4]; omega)
      · refine z_iconst dX8_count_78 ⟨by decide, by decide⟩ ?_
        refine z_goto (tgt := 83) dX8_count_79 (by decide) ?_
        refine z_callSip (n2 := 93) (A_X8_one l g M 1 (by omega)) cb_X8_one cl_X8_184 (clr0 rfl rfl (by decide) (by decide)) rfl (by decide) rfl (Nat.le_of_ble_eq_true rfl) rfl dX8_count_83 (fun x30 bx30 hx30 => ?_)
        first | refine z_iaddN dX8_count_86 (by omega) (fun x31 hx31 => ?_) | refine z_iadd dX8_count_86 (fun x31 hx31 => ?_)
        refine z_istore (loc2 := [fr 60, fi what, fi x18, fi x21, fi x24, fi x31, fi iz]) dX8_count_87 (by decide) rfl ?_
        refine z_iinc (loc2 := fun vq => [fr 60, fi what, fi x18, fi x21, fi x24, fi x31, fi vq]) dX8_count_89 rfl (by decide) (by omega) (fun _ => rfl) (fun x32 hx32 => ?_)
        refine z_goto (tgt := 13) dX8_count_92 (by decide) ?_
        have htel := hT.1.2.1 iz h0.1 (by omega)
        unfold TelM TelOk at htel
        have k0 : oneM M 0 iz = if M 70 iz = 0 ∧ M 69 iz = 0 then 1 else 0 := rfl
        have k1 : oneM M 1 iz = M 69 iz := rfl
        have k2 : oneM M 2 iz = M 70 iz := rfl
        have k3 : oneM M 3 iz = if M 61 iz = 0 then 1 else 0 := rfl
        have k0 := if01 k0
        have k3 := if01 k3
        exact ih13 _ (by omega) x18 x21 x24 x31 x32 rfl (by omega) (by rw [hx32, sumI_succ h0.1, ← h1]; omega) (by rw [hx32, sumI_succ h0.1, ← h2]; omega) (by rw [hx32, sumI_succ h0.1, ← h3]; omega) (by rw [hx32, sumI_succ h0.1, ← h4]; omega)
  refine z_iconst dX8_count_0 ⟨by decide, by decide⟩ ?_
  refine z_istore_n (loc2 := [fr 60, fi what, fi 0, fu, fu, fu, fu]) dX8_count_1 (by decide) rfl ?_
  refine z_iconst dX8_count_2 ⟨by decide, by decide⟩ ?_
  refine z_istore_n (loc2 := [fr 60, fi what, fi 0, fi 0, fu, fu, fu]) dX8_count_3 (by decide) rfl ?_
  refine z_iconst dX8_count_4 ⟨by decide, by decide⟩ ?_
  refine z_istore (loc2 := [fr 60, fi what, fi 0, fi 0, fi 0, fu, fu]) dX8_count_5 (by decide) rfl ?_
  refine z_iconst dX8_count_7 ⟨by decide, by decide⟩ ?_
  refine z_istore (loc2 := [fr 60, fi what, fi 0, fi 0, fi 0, fi 0, fu]) dX8_count_8 (by decide) rfl ?_
  refine z_iconst dX8_count_10 ⟨by decide, by decide⟩ ?_
  refine z_istore (loc2 := [fr 60, fi what, fi 0, fi 0, fi 0, fi 0, fi 0]) dX8_count_11 (by decide) rfl ?_
  exact lp13 _ 0 0 0 0 0 rfl (by omega) (rfl) (rfl) (rfl) (rfl)
def OffO (M M1 : FMem) : Prop := OffM M M1 ∧ M1 60 42 = -1 ∧ M1 60 43 = -1 ∧ M1 60 44 = -1
theorem OffN_f {M M1 : FMem} (h : OffM M M1) : OffN M (st (st (st (st M1 60 42 (-1)) 60 43 (-1)) 60 44 (-1)) 60 45 0) := by
  refine ⟨fun b j q => ?_, ?_, ?_, ?_, ?_⟩
  · unfold st
    rw [if_neg (by omega), if_neg (by omega), if_neg (by omega), if_neg (by omega)]
    exact h b j q
  · simp [st]
  · simp [st]
  · simp [st]
  · simp [st]
theorem OffM_s {M M1 : FMem} {i v : Int} (h : OffM M M1) (hi : 42 ≤ i ∧ i ≤ 52) : OffM M (st M1 60 i v) := fun b j q => by
  unfold st
  rw [if_neg (by omega)]
  exact h b j q
set_option maxHeartbeats 3200000 in
theorem A_X8_widening (l : Launch) (g : Cx) (M : FMem) (k : Int) (hT : MT M) : AMi l g true fi_X8_widening [fr 60, fi k] 93 M (fun q M2 => OffN M M2 ∧ PWid (M 60 0) (fun kw w => Feas (SolR M kw (-1) (-1) (-1) w)) k q) := by
  refine AMi_intro [fr 60, fi k, fu, fu, fu, fu] (by decide) (knall rfl) (Nat.le_of_ble_eq_true rfl) rfl ?_
  intro hNV hM0 μ
  have bk : N32 k := hNV (fi k) (by simp)
  have hT0 := hT.1.1
  have lp20 : ∀ (kq : Nat) (lz hz : Int) (M1 : FMem), (hz - lz).toNat = kq → (-1 ≤ k ∧ k ≤ M 60 0) → (-1 ≤ lz ∧ lz < hz ∧ hz ≤ 400000) → (OffO M M1) → (Feas (SolR M (if k < 0 then M 60 0 else k) (-1) (-1) (-1) hz)) → (0 ≤ lz → ¬ Feas (SolR M (if k < 0 then M 60 0 else k) (-1) (-1) (-1) lz)) → Wa l g true fi_X8_widening 93 μ (Zi g true fi_X8_widening 93 μ (fun q M2 => OffN M M2 ∧ PWid (M 60 0) (fun kw w => Feas (SolR M kw (-1) (-1) (-1) w)) k q)) 20 [] [fr 60, fi k, fl lz, fu, fl hz, fu] 93 M1 := by
    intro kq
    induction kq using Nat.strongRecOn with
    | _ kq ih20 =>
    intro lz hz M1 hk20 hA h0 h1 h2 h3
    refine z_lload dX8_widening_20 rfl ?_
    refine z_lload_n dX8_widening_22 rfl ?_
    first | refine z_lsubN dX8_widening_23 (by omega) (fun x1 hx1 => ?_) | refine z_lsub dX8_widening_23 (fun x1 hx1 => ?_)
    refine z_lconst1 dX8_widening_24 ?_
    refine z_lcmp_le (tgt := 70) dX8_widening_25 dX8_widening_26 (by decide) (fun c2 => ?_) (fun c2 => ?_)
    · have hex := h1
      refine z_aload_nr dX8_widening_70 rfl ?_
      refine z_callVv (n2 := 93) (A_X8_forget l g M1 ) cb_X8_forget cl_X8_372 (clr0 rfl rfl (by decide) (by decide)) rfl (by decide) ⟨_, rfl, rfl⟩ rfl (by decide) rfl (Nat.le_of_ble_eq_true rfl) rfl dX8_widening_71 (fun Mz3 kMz3 hc3 => ?_)
      have hfo := hc3
      refine z_lload dX8_widening_74 rfl ?_
      first | refine z_l2iN dX8_widening_76 (by omega) (fun x4 hx4 => ?_) | refine z_l2i dX8_widening_76 (fun x4 hx4 => ?_)
      refine z_iret rfl (by decide) rfl (Nat.sub_self _) dX8_widening_77 ?_
      refine ⟨by rw [hfo]; exact OffN_f h1.1, ?_⟩
      unfold PWid
      rw [if_neg (by omega)]
      have hke : (if k = -1 then M 60 0 else k) = (if k < 0 then M 60 0 else k) := by
        by_cases e : k = -1
        · rw [if_pos e, if_pos (by omega)]
        · rw [if_neg e, if_neg (by omega)]
      rw [hke]
      have hq : x4 = hz := by omega
      rw [hq]
      have hmin : ∀ w, 0 ≤ w → w < hz → ¬ Feas (SolR M (if k < 0 then M 60 0 else k) (-1) (-1) (-1) w) := by
        intro w w0 w1 ⟨x, hx⟩
        exact h3 (by omega) ⟨x, SolR_mono (by omega) hx⟩
      refine ⟨⟨by omega, ?_⟩, h2, hmin⟩
      apply Classical.byContradiction
      intro hb
      exact hmin 131072 (by decide) (by omega) (SolR_big hT.1 (by decide))
    · refine z_aload_nr dX8_widening_29 rfl ?_
      refine z_lload_n dX8_widening_30 rfl ?_
      refine z_lload dX8_widening_31 rfl ?_
      first | refine z_laddN dX8_widening_33 (by omega) (fun x5 hx5 => ?_) | refine z_ladd dX8_widening_33 (fun x5 hx5 => ?_)
      refine z_ldc2 (c := 2) cn_X8_370 ⟨by decide, by decide⟩ dX8_widening_34 ?_
      refine z_ldiv dX8_widening_37 (by omega) (by have h := tdiv_cs x5 2 (by decide); have h2 := h.1 (by omega); rw [h2]; omega) (fun x6 hx6 => ?_)
      have hdv := hx6
      rw [(tdiv_cs _ 2 (by decide)).1 (by omega)] at hdv
      obtain ⟨wz, hwe⟩ : ∃ wz, wz = x6 := ⟨_, rfl⟩
      refine z_putl (kz := 45) fl_X8_323 rfl (by decide) rfl nr_60_45 dX8_widening_38 (fun Mz7 hMz7 => ?_)
      have hwz : Mz7 60 45 = wz := by rw [hMz7, st_same, hwe]
      have hof2 : OffM M Mz7 := by rw [hMz7]; exact OffM_s h1.1 (by decide)
      have hTm := MT0_off hof2 hT.1
      have f1 : Mz7 60 42 = -1 := by rw [hMz7, st_at, if_neg (by decide)]; exact h1.2.1
      have f2 : Mz7 60 43 = -1 := by rw [hMz7, st_at, if_neg (by decide)]; exact h1.2.2.1
      have f3 : Mz7 60 44 = -1 := by rw [hMz7, st_at, if_neg (by decide)]; exact h1.2.2.2
      have f0 : Mz7 60 0 = M 60 0 := OffM_o hof2 (by decide)
      refine z_aload_nr dX8_widening_41 rfl ?_
      refine z_aload_nr dX8_widening_42 rfl ?_
      refine z_iload_n dX8_widening_43 rfl ?_
      refine z_callVip (n2 := 93) (A_X8_known l g Mz7 k) cb_X8_known cl_X8_354 (clr0 rfl rfl (by decide) (by decide)) rfl (by decide) ⟨_, rfl, rfl⟩ rfl (by decide) rfl (Nat.le_of_ble_eq_true rfl) rfl dX8_widening_44 (fun x8 bx8 hx8 => ?_)
      have hkn := hx8
      rw [f0] at hkn
      refine z_callVi (n2 := 93) (A_X8_sumWays l g Mz7 x8 (hTm) (by rw [hwz]; omega)) cb_X8_sumWays cl_X8_335 (clr0 rfl rfl (by decide) (by decide)) rfl (by decide) ⟨_, rfl, rfl⟩ rfl (by decide) rfl (Nat.le_of_ble_eq_true rfl) rfl dX8_widening_47 (fun x9 Mz9 bx9 kMz9 hc9 => ?_)
      have hsw := hc9
      rw [SolM_R hof2, f1, f2, f3, hwz, hkn] at hsw
      refine z_if_eq (tgt := 62) dX8_widening_50 (by decide) (fun c10 => ?_) (fun c10 => ?_)
      · refine z_aload_nr dX8_widening_62 rfl ?_
        refine z_getl (kz := 45) fl_X8_323 rfl (by decide) rfl dX8_widening_63 (fun x11 hx11 bx11 => ?_)
        refine z_lstore_n (loc2 := [fr 60, fi k, fl x11, fu, fl hz, fu]) dX8_widening_66 (by decide) rfl ?_
        refine z_goto (tgt := 20) dX8_widening_67 (by decide) ?_
        have hv : Mz9 60 45 = wz := by rw [hsw.1 60 45 (by decide), hwz]
        have g1 : OffO M Mz9 := ⟨OffM_tr hof2 (OffM_w hsw.1), (hsw.1 60 42 (by decide)).trans f1, (hsw.1 60 43 (by decide)).trans f2, (hsw.1 60 44 (by decide)).trans f3⟩
        have g2 : (hz = wz ∧ Feas (SolR M (if k < 0 then M 60 0 else k) (-1) (-1) (-1) wz)) ∨ (x11 = wz ∧ ¬ Feas (SolR M (if k < 0 then M 60 0 else k) (-1) (-1) (-1) wz)) := by
          rcases hsw.2 with z | z
          · first
            | (exfalso; omega)
            | exact Or.inl ⟨by omega, z.2.1⟩
          · first
            | (exfalso; omega)
            | exact Or.inr ⟨by omega, z.2⟩
        exact ih20 _ (by omega) x11 hz Mz9 rfl (hA) (by omega) (g1) (by
          rcases g2 with z | z
          · first
            | (rw [z.1]; exact z.2)
            | exact absurd z.2 (by rcases hsw.2 with y | y; (exfalso; omega); exact y.2)
          · first
            | exact h2
            | exact absurd (by rcases hsw.2 with y | y; exact y.2.1; (exfalso; omega)) z.2) (by
          intro y
          rcases g2 with z | z
          · first
            | exact h3 y
            | exact absurd z.2 (by rcases hsw.2 with y | y; (exfalso; omega); exact y.2)
          · first
            | (rw [z.1]; exact z.2)
            | exact absurd (by rcases hsw.2 with y | y; exact y.2.1; (exfalso; omega)) z.2)
      · refine z_aload_nr dX8_widening_53 rfl ?_
        refine z_getl (kz := 45) fl_X8_323 rfl (by decide) rfl dX8_widening_54 (fun x12 hx12 bx12 => ?_)
        refine z_lstore (loc2 := [fr 60, fi k, fl lz, fu, fl x12, fu]) dX8_widening_57 (by decide) rfl ?_
        refine z_goto (tgt := 20) dX8_widening_59 (by decide) ?_
        have hv : Mz9 60 45 = wz := by rw [hsw.1 60 45 (by decide), hwz]
        have g1 : OffO M Mz9 := ⟨OffM_tr hof2 (OffM_w hsw.1), (hsw.1 60 42 (by decide)).trans f1, (hsw.1 60 43 (by decide)).trans f2, (hsw.1 60 44 (by decide)).trans f3⟩
        have g2 : (x12 = wz ∧ Feas (SolR M (if k < 0 then M 60 0 else k) (-1) (-1) (-1) wz)) ∨ (lz = wz ∧ ¬ Feas (SolR M (if k < 0 then M 60 0 else k) (-1) (-1) (-1) wz)) := by
          rcases hsw.2 with z | z
          · first
            | (exfalso; omega)
            | exact Or.inl ⟨by omega, z.2.1⟩
          · first
            | (exfalso; omega)
            | exact Or.inr ⟨by omega, z.2⟩
        exact ih20 _ (by omega) lz x12 Mz9 rfl (hA) (by omega) (g1) (by
          rcases g2 with z | z
          · first
            | (rw [z.1]; exact z.2)
            | exact absurd z.2 (by rcases hsw.2 with y | y; (exfalso; omega); exact y.2)
          · first
            | exact h2
            | exact absurd (by rcases hsw.2 with y | y; exact y.2.1; (exfalso; omega)) z.2) (by
          intro y
          rcases g2 with z | z
          · first
            | exact h3 y
            | exact absurd z.2 (by rcases hsw.2 with y | y; (exfalso; omega); exact y.2)
          · first
            | (rw [z.1]; exact z.2)
            | exact absurd (by rcases hsw.2 with y | y; exact y.2.1; (exfalso; omega)) z.2)
  refine z_aload_nr dX8_widening_0 rfl ?_
  refine z_iload_n dX8_widening_1 rfl ?_
  refine z_callVip (n2 := 93) (A_X8_isKnown l g M k) cb_X8_isKnown cl_X8_351 (clr0 rfl rfl (by decide) (by decide)) rfl (by decide) ⟨_, rfl, rfl⟩ rfl (by decide) rfl (Nat.le_of_ble_eq_true rfl) rfl dX8_widening_2 (fun x13 bx13 hx13 => ?_)
  have i13 := if01 hx13
  refine z_if_ne (tgt := 11) dX8_widening_5 (by decide) (fun c14 => ?_) (fun c14 => ?_)
  · refine z_ldc2 (c := -1) cn_X8_177 ⟨by decide, by decide⟩ dX8_widening_11 ?_
    refine z_lstore_n (loc2 := [fr 60, fi k, fl (-1), fu, fu, fu]) dX8_widening_14 (by decide) rfl ?_
    refine z_ldc2 (c := 400000) cn_X8_368 ⟨by decide, by decide⟩ dX8_widening_15 ?_
    refine z_lstore (loc2 := [fr 60, fi k, fl (-1), fu, fl 400000, fu]) dX8_widening_18 (by decide) rfl ?_
    exact lp20 _ (-1) 400000 M rfl (by omega) (by omega) (⟨OffM_rfl M, hT.2.1, hT.2.2.1, hT.2.2.2.1⟩) (SolR_big hT.1 (by decide)) (fun z => by omega)
  · refine z_ldc (c := -1000002) cn_X8_164 ⟨by decide, by decide⟩ dX8_widening_8 ?_
    refine z_iret rfl (by decide) rfl (Nat.sub_self _) dX8_widening_10 ?_
    refine ⟨OffN_rfl hT, ?_⟩
    unfold PWid
    rw [if_pos (by omega)]
