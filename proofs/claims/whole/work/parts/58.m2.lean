/-! ===== the reference: spans of tellings, feed, rule, told ===== -/
def TelM (M : FMem) (i : Int) : Prop := TelOk (M 61 i) (M 62 i) (M 63 i) (M 64 i) (M 65 i) (M 66 i) (M 67 i) (M 68 i)
def RedM (M : FMem) : Prop := ∀ h, 0 ≤ h → h < 10 → 0 ≤ M 72 h ∧ M 72 h ≤ M 73 h ∧ M 73 h ≤ 2000
def RulM (M : FMem) : Prop := (∀ s, 0 ≤ s → s < 6 → -9999 ≤ M 75 (4 * s) ∧ M 75 (4 * s) ≤ M 75 (4 * s + 1) ∧ M 75 (4 * s + 1) ≤ 9999 ∧ -9999 ≤ M 75 (4 * s + 2) ∧ M 75 (4 * s + 2) ≤ M 75 (4 * s + 3) ∧ M 75 (4 * s + 3) ≤ 9999) ∧ (∀ l, 0 ≤ l → l < 6 → 0 ≤ M 76 l ∧ M 76 l ≤ 999) ∧ (0 ≤ M 60 17 ∧ M 60 17 ≤ M 60 18 ∧ M 60 18 ≤ 99) ∧ (0 ≤ M 60 20 ∧ M 60 20 ≤ 9999) ∧ (0 ≤ M 60 21 ∧ M 60 21 ≤ 8) ∧ ∀ k, 0 ≤ k → k < M 60 21 → 0 ≤ M 77 k ∧ M 77 k ≤ 9 ∧ -40000 ≤ M 78 k ∧ M 78 k ≤ 40000
def lowM (M : FMem) (i : Int) : Int := lowS (M 61 i) (M 65 i) (M 66 i) (M 76 (M 62 i)) (evGS (M 75 (4 * M 63 i + 1)) (M 75 (4 * M 63 i + 2)) (M 75 (4 * M 63 i + 3)) (M 67 i) (M 68 i)) (M 73 (M 64 i) * M 60 18)
def highM (M : FMem) (i : Int) : Int := highS (M 61 i) (M 65 i) (M 66 i) (M 76 (M 62 i)) (evLS (M 75 (4 * M 63 i)) (M 75 (4 * M 63 i + 2)) (M 75 (4 * M 63 i + 3)) (M 67 i) (M 68 i)) (M 72 (M 64 i) * M 60 17)
theorem max_ev {a b t : Int} (h : a ≤ b) (ht : 0 ≤ t) : (if b * t < a * t then a * t else b * t) = b * t := by
  have := Int.mul_le_mul_of_nonneg_right h ht
  rw [if_neg (by omega)]
theorem min_ev {a b t : Int} (h : a ≤ b) (ht : 0 ≤ t) : (if a * t < b * t then a * t else b * t) = a * t := by
  have := Int.mul_le_mul_of_nonneg_right h ht
  split <;> omega
theorem max_ec {a b c : Int} (h : a ≤ b) : (if b * c < a * c then a * c else b * c) = (if c < 0 then a else b) * c := by
  by_cases hc : c < 0
  · rw [if_pos hc]
    have := Int.mul_le_mul_of_nonpos_right h (by omega : c ≤ 0)
    split <;> omega
  · rw [if_neg hc]
    have := Int.mul_le_mul_of_nonneg_right h (by omega : 0 ≤ c)
    rw [if_neg (by omega)]
theorem min_ec {a b c : Int} (h : a ≤ b) : (if a * c < b * c then a * c else b * c) = (if c < 0 then b else a) * c := by
  by_cases hc : c < 0
  · rw [if_pos hc]
    have := Int.mul_le_mul_of_nonpos_right h (by omega : c ≤ 0)
    rw [if_neg (by omega)]
  · rw [if_neg hc]
    have := Int.mul_le_mul_of_nonneg_right h (by omega : 0 ≤ c)
    split <;> omega
set_option maxHeartbeats 1600000 in
theorem A_X8_lowOf (l : Launch) (g : Cx) (M : FMem) (i : Int) (hi : 0 ≤ i ∧ i < 80) (hT : TelM M i) (hR : RedM M) (hU : RulM M) : AMl l g true fi_X8_lowOf [fr 60, fi i] 93 M (fun r M2 => M2 = M ∧ (fun r => r = lowM M i ∧ -100000 ≤ r ∧ r ≤ 100000) r) := by
  refine AMl_intro [fr 60, fi i, fu, fu, fu, fu] (by decide) (knall rfl) (Nat.le_of_ble_eq_true rfl) rfl ?_
  intro hNV hM0 μ
  have bi : N32 i := hNV (fi i) (by simp)
  have hT1 := hT
  unfold TelM TelOk at hT1
  have hbl := hU.2.1 (M 62 i) (by omega) (by omega)
  refine z_aload_nr dX8_lowOf_0 rfl ?_
  refine z_getr (b := 76) fl_X8_56 rfl (by decide) rf_60_19 rfl dX8_lowOf_1 ?_
  refine z_aload_nr dX8_lowOf_4 rfl ?_
  refine z_getr (b := 62) fl_X8_13 rfl (by decide) rf_60_2 rfl dX8_lowOf_5 ?_
  refine z_iload_n dX8_lowOf_8 rfl ?_
  refine z_iald rfl (by decide) (by omega) (by omega) dX8_lowOf_9 (fun x1 hx1 bx1 => ?_)
  refine z_iald rfl (by decide) (by omega) (by omega) dX8_lowOf_10 (fun x2 hx2 bx2 => ?_)
  have eb := hx2
  refine z_istore_n (loc2 := [fr 60, fi i, fi x2, fu, fu, fu]) dX8_lowOf_11 (by decide) rfl ?_
  refine z_aload_nr dX8_lowOf_12 rfl ?_
  refine z_getr (b := 61) fl_X8_7 rfl (by decide) rf_60_1 rfl dX8_lowOf_13 ?_
  refine z_iload_n dX8_lowOf_16 rfl ?_
  refine z_iald rfl (by decide) (by omega) (by omega) dX8_lowOf_17 (fun x3 hx3 bx3 => ?_)
  refine z_if_eq (tgt := 32) dX8_lowOf_18 (by decide) (fun c4 => ?_) (fun c4 => ?_)
  · have hsp := hU.1 (M 63 i) (by omega) (by omega)
    have hre := hR (M 64 i) (by omega) (by omega)
    have hdu := hU.2.2.1
    refine z_iconst dX8_lowOf_32 ⟨by decide, by decide⟩ ?_
    refine z_aload_nr dX8_lowOf_33 rfl ?_
    refine z_getr (b := 63) fl_X8_16 rfl (by decide) rf_60_3 rfl dX8_lowOf_34 ?_
    refine z_iload_n dX8_lowOf_37 rfl ?_
    refine z_iald rfl (by decide) (by omega) (by omega) dX8_lowOf_38 (fun x5 hx5 bx5 => ?_)
    first | refine z_imulN dX8_lowOf_39 (by omega) (fun x6 hx6 => ?_) | refine z_imul dX8_lowOf_39 (fun x6 hx6 => ?_)
    refine z_istore_n (loc2 := [fr 60, fi i, fi x2, fi x6, fu, fu]) dX8_lowOf_40 (by decide) rfl ?_
    refine z_aload_nr dX8_lowOf_41 rfl ?_
    refine z_getr (b := 75) fl_X8_53 rfl (by decide) rf_60_16 rfl dX8_lowOf_42 ?_
    refine z_iload_n dX8_lowOf_45 rfl ?_
    refine z_iald rfl (by decide) (by omega) (by omega) dX8_lowOf_46 (fun x7 hx7 bx7 => ?_)
    have q0 : x7 = M 75 (4 * M 63 i) := by rw [hx7]; congr 1; omega
    refine z_i2l dX8_lowOf_47 ?_
    refine z_aload_nr dX8_lowOf_48 rfl ?_
    refine z_getr (b := 67) fl_X8_28 rfl (by decide) rf_60_7 rfl dX8_lowOf_49 ?_
    refine z_iload_n dX8_lowOf_52 rfl ?_
    refine z_iald rfl (by decide) (by omega) (by omega) dX8_lowOf_53 (fun x8 hx8 bx8 => ?_)
    refine z_i2l dX8_lowOf_54 ?_
    have qt : x8 = M 67 i := by omega
    refine z_lmulN dX8_lowOf_55 (by have hq := mulb (x := x7) (y := x8) (A := 9999) (B := 3000) (by omega) (by omega); omega) (fun x9 hx9 => ?_)
    have p0 := hx9
    refine z_aload_nr dX8_lowOf_56 rfl ?_
    refine z_getr (b := 75) fl_X8_53 rfl (by decide) rf_60_16 rfl dX8_lowOf_57 ?_
    refine z_iload_n dX8_lowOf_60 rfl ?_
    refine z_iconst dX8_lowOf_61 ⟨by decide, by decide⟩ ?_
    first | refine z_iaddN dX8_lowOf_62 (by omega) (fun x10 hx10 => ?_) | refine z_iadd dX8_lowOf_62 (fun x10 hx10 => ?_)
    refine z_iald rfl (by decide) (by omega) (by omega) dX8_lowOf_63 (fun x11 hx11 bx11 => ?_)
    have q1 : x11 = M 75 (4 * M 63 i + 1) := by rw [hx11]; congr 1; omega
    refine z_i2l dX8_lowOf_64 ?_
    refine z_aload_nr dX8_lowOf_65 rfl ?_
    refine z_getr (b := 67) fl_X8_28 rfl (by decide) rf_60_7 rfl dX8_lowOf_66 ?_
    refine z_iload_n dX8_lowOf_69 rfl ?_
    refine z_iald rfl (by decide) (by omega) (by omega) dX8_lowOf_70 (fun x12 hx12 bx12 => ?_)
    refine z_i2l dX8_lowOf_71 ?_
    have qt2 : x12 = M 67 i := by omega
    refine z_lmulN dX8_lowOf_72 (by have hq := mulb (x := x11) (y := x12) (A := 9999) (B := 3000) (by omega) (by omega); omega) (fun x13 hx13 => ?_)
    have p1 := hx13
    refine z_callSlp (n2 := 93) (A_X8_most l g M x9 x13) cb_X8_most cl_X8_290 (clr0 rfl rfl (by decide) (by decide)) rfl (by decide) rfl (Nat.le_of_ble_eq_true rfl) rfl dX8_lowOf_73 (fun x14 bx14 hx14 => ?_)
    have hm1 := hx14
    refine z_aload_nr dX8_lowOf_76 rfl ?_
    refine z_getr (b := 75) fl_X8_53 rfl (by decide) rf_60_16 rfl dX8_lowOf_77 ?_
    refine z_iload_n dX8_lowOf_80 rfl ?_
    refine z_iconst dX8_lowOf_81 ⟨by decide, by decide⟩ ?_
    first | refine z_iaddN dX8_lowOf_82 (by omega) (fun x15 hx15 => ?_) | refine z_iadd dX8_lowOf_82 (fun x15 hx15 => ?_)
    refine z_iald rfl (by decide) (by omega) (by omega) dX8_lowOf_83 (fun x16 hx16 bx16 => ?_)
    have q2 : x16 = M 75 (4 * M 63 i + 2) := by rw [hx16]; congr 1; omega
    refine z_i2l dX8_lowOf_84 ?_
    refine z_aload_nr dX8_lowOf_85 rfl ?_
    refine z_getr (b := 68) fl_X8_31 rfl (by decide) rf_60_8 rfl dX8_lowOf_86 ?_
    refine z_iload_n dX8_lowOf_89 rfl ?_
    refine z_iald rfl (by decide) (by omega) (by omega) dX8_lowOf_90 (fun x17 hx17 bx17 => ?_)
    refine z_i2l dX8_lowOf_91 ?_
    have qc : x17 = M 68 i := by omega
    refine z_lmulN dX8_lowOf_92 (by have hq := mulb (x := x16) (y := x17) (A := 9999) (B := 3000) (by omega) (by omega); omega) (fun x18 hx18 => ?_)
    have p2 := hx18
    refine z_aload_nr dX8_lowOf_93 rfl ?_
    refine z_getr (b := 75) fl_X8_53 rfl (by decide) rf_60_16 rfl dX8_lowOf_94 ?_
    refine z_iload_n dX8_lowOf_97 rfl ?_
    refine z_iconst dX8_lowOf_98 ⟨by decide, by decide⟩ ?_
    first | refine z_iaddN dX8_lowOf_99 (by omega) (fun x19 hx19 => ?_) | refine z_iadd dX8_lowOf_99 (fun x19 hx19 => ?_)
    refine z_iald rfl (by decide) (by omega) (by omega) dX8_lowOf_100 (fun x20 hx20 bx20 => ?_)
    have q3 : x20 = M 75 (4 * M 63 i + 3) := by rw [hx20]; congr 1; omega
    refine z_i2l dX8_lowOf_101 ?_
    refine z_aload_nr dX8_lowOf_102 rfl ?_
    refine z_getr (b := 68) fl_X8_31 rfl (by decide) rf_60_8 rfl dX8_lowOf_103 ?_
    refine z_iload_n dX8_lowOf_106 rfl ?_
    refine z_iald rfl (by decide) (by omega) (by omega) dX8_lowOf_107 (fun x21 hx21 bx21 => ?_)
    refine z_i2l dX8_lowOf_108 ?_
    have qc2 : x21 = M 68 i := by omega
    refine z_lmulN dX8_lowOf_109 (by have hq := mulb (x := x20) (y := x21) (A := 9999) (B := 3000) (by omega) (by omega); omega) (fun x22 hx22 => ?_)
    have p3 := hx22
    refine z_callSlp (n2 := 93) (A_X8_most l g M x18 x22) cb_X8_most cl_X8_290 (clr0 rfl rfl (by decide) (by decide)) rfl (by decide) rfl (Nat.le_of_ble_eq_true rfl) rfl dX8_lowOf_110 (fun x23 bx23 hx23 => ?_)
    have hm2 := hx23
    rw [p2, p3, q2, q3, qc, qc2, max_ec (by omega)] at hm2
    rw [p0, p1, q0, q1, qt, qt2, max_ev (by omega) (by omega)] at hm1
    have hb1 := mulb (x := M 75 (4 * M 63 i + 1)) (y := M 67 i) (A := 9999) (B := 3000) (by omega) (by omega)
    have hcs : -9999 ≤ (if M 68 i < 0 then M 75 (4 * M 63 i + 2) else M 75 (4 * M 63 i + 3)) ∧ (if M 68 i < 0 then M 75 (4 * M 63 i + 2) else M 75 (4 * M 63 i + 3)) ≤ 9999 := by split <;> omega
    have hb2 := mulb (y := M 68 i) (A := 9999) (B := 3000) hcs (by omega)
    first | refine z_laddN dX8_lowOf_113 (by omega) (fun x24 hx24 => ?_) | refine z_ladd dX8_lowOf_113 (fun x24 hx24 => ?_)
    have hev : x24 = evGS (M 75 (4 * M 63 i + 1)) (M 75 (4 * M 63 i + 2)) (M 75 (4 * M 63 i + 3)) (M 67 i) (M 68 i) := by
      unfold evGS
      omega
    have hevb : -59994000 ≤ x24 ∧ x24 ≤ 59994000 := by omega
    refine z_lstore (loc2 := [fr 60, fi i, fi x2, fi x6, fl x24, fu]) dX8_lowOf_114 (by decide) rfl ?_
    refine z_aload_nr dX8_lowOf_116 rfl ?_
    refine z_getr (b := 65) fl_X8_22 rfl (by decide) rf_60_5 rfl dX8_lowOf_117 ?_
    refine z_iload_n dX8_lowOf_120 rfl ?_
    refine z_iald rfl (by decide) (by omega) (by omega) dX8_lowOf_121 (fun x25 hx25 bx25 => ?_)
    refine z_aload_nr dX8_lowOf_122 rfl ?_
    refine z_getr (b := 66) fl_X8_25 rfl (by decide) rf_60_6 rfl dX8_lowOf_123 ?_
    refine z_iload_n dX8_lowOf_126 rfl ?_
    refine z_iald rfl (by decide) (by omega) (by omega) dX8_lowOf_127 (fun x26 hx26 bx26 => ?_)
    first | refine z_isubN dX8_lowOf_128 (by omega) (fun x27 hx27 => ?_) | refine z_isub dX8_lowOf_128 (fun x27 hx27 => ?_)
    refine z_i2l dX8_lowOf_129 ?_
    refine z_lload dX8_lowOf_130 rfl ?_
    refine z_ldc2 (c := 1000) cn_X8_293 ⟨by decide, by decide⟩ dX8_lowOf_132 ?_
    refine z_callSlp (n2 := 93) (A_X8_ceiling l g M x24 1000 (by omega) (by omega)) cb_X8_ceiling cl_X8_295 (clr0 rfl rfl (by decide) (by decide)) rfl (by decide) rfl (Nat.le_of_ble_eq_true rfl) rfl dX8_lowOf_135 (fun x28 bx28 hx28 => ?_)
    have hx1 := hx28
    first | refine z_lsubN dX8_lowOf_138 (by omega) (fun x29 hx29 => ?_) | refine z_lsub dX8_lowOf_138 (fun x29 hx29 => ?_)
    refine z_aload_nr dX8_lowOf_139 rfl ?_
    refine z_getr (b := 73) fl_X8_47 rfl (by decide) rf_60_14 rfl dX8_lowOf_140 ?_
    refine z_aload_nr dX8_lowOf_143 rfl ?_
    refine z_getr (b := 64) fl_X8_19 rfl (by decide) rf_60_4 rfl dX8_lowOf_144 ?_
    refine z_iload_n dX8_lowOf_147 rfl ?_
    refine z_iald rfl (by decide) (by omega) (by omega) dX8_lowOf_148 (fun x30 hx30 bx30 => ?_)
    refine z_iald rfl (by decide) (by omega) (by omega) dX8_lowOf_149 (fun x31 hx31 bx31 => ?_)
    have qr : x31 = M 73 (M 64 i) := by rw [hx31]; congr 1
    refine z_i2l dX8_lowOf_150 ?_
    refine z_aload_nr dX8_lowOf_151 rfl ?_
    refine z_geti (kz := 18) fl_X8_192 rfl (by decide) rfl dX8_lowOf_152 (fun x32 hx32 bx32 => ?_)
    refine z_i2l dX8_lowOf_155 ?_
    have hdq := mulp (a := x31) (b := x32) (A := 2000) (B := 99) (by omega) (by omega)
    refine z_lmulN dX8_lowOf_156 (by omega) (fun x33 hx33 => ?_)
    have pd := hx33
    refine z_ldc2 (c := 10) cn_X8_298 ⟨by decide, by decide⟩ dX8_lowOf_157 ?_
    refine z_callSlp (n2 := 93) (A_X8_ceiling l g M x33 10 (by omega) (by omega)) cb_X8_ceiling cl_X8_295 (clr0 rfl rfl (by decide) (by decide)) rfl (by decide) rfl (Nat.le_of_ble_eq_true rfl) rfl dX8_lowOf_160 (fun x34 bx34 hx34 => ?_)
    have hx2 := hx34
    first | refine z_lsubN dX8_lowOf_163 (by omega) (fun x35 hx35 => ?_) | refine z_lsub dX8_lowOf_163 (fun x35 hx35 => ?_)
    refine z_iload_n dX8_lowOf_164 rfl ?_
    refine z_i2l dX8_lowOf_165 ?_
    first | refine z_lsubN dX8_lowOf_166 (by omega) (fun x36 hx36 => ?_) | refine z_lsub dX8_lowOf_166 (fun x36 hx36 => ?_)
    refine z_lret rfl (by decide) rfl (Nat.sub_self _) dX8_lowOf_167 ?_
    have eb2 : x2 = M 76 (M 62 i) := by rw [eb]; congr 1
    have hk0 : M 61 i = 0 := by omega
    have hdu2 : ∀ z, z = M 60 18 → M 73 (M 64 i) * z = M 73 (M 64 i) * M 60 18 := fun z h => by rw [h]
    rw [qr] at pd
    have pd2 := pd.trans (hdu2 _ (by omega))
    have hval : x36 = lowM M i := by
      unfold lowM lowS
      rw [if_pos hk0, ← hev, ← pd2]
      omega
    exact ⟨rfl, hval, by omega, by omega⟩
  · refine z_aload_nr dX8_lowOf_21 rfl ?_
    refine z_getr (b := 65) fl_X8_22 rfl (by decide) rf_60_5 rfl dX8_lowOf_22 ?_
    refine z_iload_n dX8_lowOf_25 rfl ?_
    refine z_iald rfl (by decide) (by omega) (by omega) dX8_lowOf_26 (fun x37 hx37 bx37 => ?_)
    refine z_i2l dX8_lowOf_27 ?_
    refine z_iload_n dX8_lowOf_28 rfl ?_
    refine z_i2l dX8_lowOf_29 ?_
    first | refine z_lsubN dX8_lowOf_30 (by omega) (fun x38 hx38 => ?_) | refine z_lsub dX8_lowOf_30 (fun x38 hx38 => ?_)
    refine z_lret rfl (by decide) rfl (Nat.sub_self _) dX8_lowOf_31 ?_
    have eb2 : x2 = M 76 (M 62 i) := by rw [eb]; congr 1
    refine ⟨rfl, ?_, by omega, by omega⟩
    unfold lowM lowS
    rw [if_neg (by omega)]
    omega
set_option maxHeartbeats 1600000 in
theorem A_X8_highOf (l : Launch) (g : Cx) (M : FMem) (i : Int) (hi : 0 ≤ i ∧ i < 80) (hT : TelM M i) (hR : RedM M) (hU : RulM M) : AMl l g true fi_X8_highOf [fr 60, fi i] 93 M (fun r M2 => M2 = M ∧ (fun r => r = highM M i ∧ -100000 ≤ r ∧ r ≤ 100000) r) := by
  refine AMl_intro [fr 60, fi i, fu, fu, fu, fu] (by decide) (knall rfl) (Nat.le_of_ble_eq_true rfl) rfl ?_
  intro hNV hM0 μ
  have bi : N32 i := hNV (fi i) (by simp)
  have hT1 := hT
  unfold TelM TelOk at hT1
  have hbl := hU.2.1 (M 62 i) (by omega) (by omega)
  refine z_aload_nr dX8_highOf_0 rfl ?_
  refine z_getr (b := 76) fl_X8_56 rfl (by decide) rf_60_19 rfl dX8_highOf_1 ?_
  refine z_aload_nr dX8_highOf_4 rfl ?_
  refine z_getr (b := 62) fl_X8_13 rfl (by decide) rf_60_2 rfl dX8_highOf_5 ?_
  refine z_iload_n dX8_highOf_8 rfl ?_
  refine z_iald rfl (by decide) (by omega) (by omega) dX8_highOf_9 (fun x1 hx1 bx1 => ?_)
  refine z_iald rfl (by decide) (by omega) (by omega) dX8_highOf_10 (fun x2 hx2 bx2 => ?_)
  have eb := hx2
  refine z_istore_n (loc2 := [fr 60, fi i, fi x2, fu, fu, fu]) dX8_highOf_11 (by decide) rfl ?_
  refine z_aload_nr dX8_highOf_12 rfl ?_
  refine z_getr (b := 61) fl_X8_7 rfl (by decide) rf_60_1 rfl dX8_highOf_13 ?_
  refine z_iload_n dX8_highOf_16 rfl ?_
  refine z_iald rfl (by decide) (by omega) (by omega) dX8_highOf_17 (fun x3 hx3 bx3 => ?_)
  refine z_if_eq (tgt := 32) dX8_highOf_18 (by decide) (fun c4 => ?_) (fun c4 => ?_)
  · have hsp := hU.1 (M 63 i) (by omega) (by omega)
    have hre := hR (M 64 i) (by omega) (by omega)
    have hdu := hU.2.2.1
    refine z_iconst dX8_highOf_32 ⟨by decide, by decide⟩ ?_
    refine z_aload_nr dX8_highOf_33 rfl ?_
    refine z_getr (b := 63) fl_X8_16 rfl (by decide) rf_60_3 rfl dX8_highOf_34 ?_
    refine z_iload_n dX8_highOf_37 rfl ?_
    refine z_iald rfl (by decide) (by omega) (by omega) dX8_highOf_38 (fun x5 hx5 bx5 => ?_)
    first | refine z_imulN dX8_highOf_39 (by omega) (fun x6 hx6 => ?_) | refine z_imul dX8_highOf_39 (fun x6 hx6 => ?_)
    refine z_istore_n (loc2 := [fr 60, fi i, fi x2, fi x6, fu, fu]) dX8_highOf_40 (by decide) rfl ?_
    refine z_aload_nr dX8_highOf_41 rfl ?_
    refine z_getr (b := 75) fl_X8_53 rfl (by decide) rf_60_16 rfl dX8_highOf_42 ?_
    refine z_iload_n dX8_highOf_45 rfl ?_
    refine z_iald rfl (by decide) (by omega) (by omega) dX8_highOf_46 (fun x7 hx7 bx7 => ?_)
    have q0 : x7 = M 75 (4 * M 63 i) := by rw [hx7]; congr 1; omega
    refine z_i2l dX8_highOf_47 ?_
    refine z_aload_nr dX8_highOf_48 rfl ?_
    refine z_getr (b := 67) fl_X8_28 rfl (by decide) rf_60_7 rfl dX8_highOf_49 ?_
    refine z_iload_n dX8_highOf_52 rfl ?_
    refine z_iald rfl (by decide) (by omega) (by omega) dX8_highOf_53 (fun x8 hx8 bx8 => ?_)
    refine z_i2l dX8_highOf_54 ?_
    have qt : x8 = M 67 i := by omega
    refine z_lmulN dX8_highOf_55 (by have hq := mulb (x := x7) (y := x8) (A := 9999) (B := 3000) (by omega) (by omega); omega) (fun x9 hx9 => ?_)
    have p0 := hx9
    refine z_aload_nr dX8_highOf_56 rfl ?_
    refine z_getr (b := 75) fl_X8_53 rfl (by decide) rf_60_16 rfl dX8_highOf_57 ?_
    refine z_iload_n dX8_highOf_60 rfl ?_
    refine z_iconst dX8_highOf_61 ⟨by decide, by decide⟩ ?_
    first | refine z_iaddN dX8_highOf_62 (by omega) (fun x10 hx10 => ?_) | refine z_iadd dX8_highOf_62 (fun x10 hx10 => ?_)
    refine z_iald rfl (by decide) (by omega) (by omega) dX8_highOf_63 (fun x11 hx11 bx11 => ?_)
    have q1 : x11 = M 75 (4 * M 63 i + 1) := by rw [hx11]; congr 1; omega
    refine z_i2l dX8_highOf_64 ?_
    refine z_aload_nr dX8_highOf_65 rfl ?_
    refine z_getr (b := 67) fl_X8_28 rfl (by decide) rf_60_7 rfl dX8_highOf_66 ?_
    refine z_iload_n dX8_highOf_69 rfl ?_
    refine z_iald rfl (by decide) (by omega) (by omega) dX8_highOf_70 (fun x12 hx12 bx12 => ?_)
    refine z_i2l dX8_highOf_71 ?_
    have qt2 : x12 = M 67 i := by omega
    refine z_lmulN dX8_highOf_72 (by have hq := mulb (x := x11) (y := x12) (A := 9999) (B := 3000) (by omega) (by omega); omega) (fun x13 hx13 => ?_)
    have p1 := hx13
    refine z_callSlp (n2 := 93) (A_X8_least l g M x9 x13) cb_X8_least cl_X8_300 (clr0 rfl rfl (by decide) (by decide)) rfl (by decide) rfl (Nat.le_of_ble_eq_true rfl) rfl dX8_highOf_73 (fun x14 bx14 hx14 => ?_)
    have hm1 := hx14
    refine z_aload_nr dX8_highOf_76 rfl ?_
    refine z_getr (b := 75) fl_X8_53 rfl (by decide) rf_60_16 rfl dX8_highOf_77 ?_
    refine z_iload_n dX8_highOf_80 rfl ?_
    refine z_iconst dX8_highOf_81 ⟨by decide, by decide⟩ ?_
    first | refine z_iaddN dX8_highOf_82 (by omega) (fun x15 hx15 => ?_) | refine z_iadd dX8_highOf_82 (fun x15 hx15 => ?_)
    refine z_iald rfl (by decide) (by omega) (by omega) dX8_highOf_83 (fun x16 hx16 bx16 => ?_)
    have q2 : x16 = M 75 (4 * M 63 i + 2) := by rw [hx16]; congr 1; omega
    refine z_i2l dX8_highOf_84 ?_
    refine z_aload_nr dX8_highOf_85 rfl ?_
    refine z_getr (b := 68) fl_X8_31 rfl (by decide) rf_60_8 rfl dX8_highOf_86 ?_
    refine z_iload_n dX8_highOf_89 rfl ?_
    refine z_iald rfl (by decide) (by omega) (by omega) dX8_highOf_90 (fun x17 hx17 bx17 => ?_)
    refine z_i2l dX8_highOf_91 ?_
    have qc : x17 = M 68 i := by omega
    refine z_lmulN dX8_highOf_92 (by have hq := mulb (x := x16) (y := x17) (A := 9999) (B := 3000) (by omega) (by omega); omega) (fun x18 hx18 => ?_)
    have p2 := hx18
    refine z_aload_nr dX8_highOf_93 rfl ?_
    refine z_getr (b := 75) fl_X8_53 rfl (by decide) rf_60_16 rfl dX8_highOf_94 ?_
    refine z_iload_n dX8_highOf_97 rfl ?_
    refine z_iconst dX8_highOf_98 ⟨by decide, by decide⟩ ?_
    first | refine z_iaddN dX8_highOf_99 (by omega) (fun x19 hx19 => ?_) | refine z_iadd dX8_highOf_99 (fun x19 hx19 => ?_)
    refine z_iald rfl (by decide) (by omega) (by omega) dX8_highOf_100 (fun x20 hx20 bx20 => ?_)
    have q3 : x20 = M 75 (4 * M 63 i + 3) := by rw [hx20]; congr 1; omega
    refine z_i2l dX8_highOf_101 ?_
    refine z_aload_nr dX8_highOf_102 rfl ?_
    refine z_getr (b := 68) fl_X8_31 rfl (by decide) rf_60_8 rfl dX8_highOf_103 ?_
    refine z_iload_n dX8_highOf_106 rfl ?_
    refine z_iald rfl (by decide) (by omega) (by omega) dX8_highOf_107 (fun x21 hx21 bx21 => ?_)
    refine z_i2l dX8_highOf_108 ?_
    have qc2 : x21 = M 68 i := by omega
    refine z_lmulN dX8_highOf_109 (by have hq := mulb (x := x20) (y := x21) (A := 9999) (B := 3000) (by omega) (by omega); omega) (fun x22 hx22 => ?_)
    have p3 := hx22
    refine z_callSlp (n2 := 93) (A_X8_least l g M x18 x22) cb_X8_least cl_X8_300 (clr0 rfl rfl (by decide) (by decide)) rfl (by decide) rfl (Nat.le_of_ble_eq_true rfl) rfl dX8_highOf_110 (fun x23 bx23 hx23 => ?_)
    have hm2 := hx23
    rw [p2, p3, q2, q3, qc, qc2, min_ec (by omega)] at hm2
    rw [p0, p1, q0, q1, qt, qt2, min_ev (by omega) (by omega)] at hm1
    have hb1 := mulb (x := M 75 (4 * M 63 i)) (y := M 67 i) (A := 9999) (B := 3000) (by omega) (by omega)
    have hcs : -9999 ≤ (if M 68 i < 0 then M 75 (4 * M 63 i + 3) else M 75 (4 * M 63 i + 2)) ∧ (if M 68 i < 0 then M 75 (4 * M 63 i + 3) else M 75 (4 * M 63 i + 2)) ≤ 9999 := by split <;> omega
    have hb2 := mulb (y := M 68 i) (A := 9999) (B := 3000) hcs (by omega)
    first | refine z_laddN dX8_highOf_113 (by omega) (fun x24 hx24 => ?_) | refine z_ladd dX8_highOf_113 (fun x24 hx24 => ?_)
    have hev : x24 = evLS (M 75 (4 * M 63 i)) (M 75 (4 * M 63 i + 2)) (M 75 (4 * M 63 i + 3)) (M 67 i) (M 68 i) := by
      unfold evLS
      omega
    have hevb : -59994000 ≤ x24 ∧ x24 ≤ 59994000 := by omega
    refine z_lstore (loc2 := [fr 60, fi i, fi x2, fi x6, fl x24, fu]) dX8_highOf_114 (by decide) rfl ?_
    refine z_aload_nr dX8_highOf_116 rfl ?_
    refine z_getr (b := 65) fl_X8_22 rfl (by decide) rf_60_5 rfl dX8_highOf_117 ?_
    refine z_iload_n dX8_highOf_120 rfl ?_
    refine z_iald rfl (by decide) (by omega) (by omega) dX8_highOf_121 (fun x25 hx25 bx25 => ?_)
    refine z_aload_nr dX8_highOf_122 rfl ?_
    refine z_getr (b := 66) fl_X8_25 rfl (by decide) rf_60_6 rfl dX8_highOf_123 ?_
    refine z_iload_n dX8_highOf_126 rfl ?_
    refine z_iald rfl (by decide) (by omega) (by omega) dX8_highOf_127 (fun x26 hx26 bx26 => ?_)
    first | refine z_iaddN dX8_highOf_128 (by omega) (fun x27 hx27 => ?_) | refine z_iadd dX8_highOf_128 (fun x27 hx27 => ?_)
    refine z_i2l dX8_highOf_129 ?_
    refine z_lload dX8_highOf_130 rfl ?_
    refine z_ldc2 (c := 1000) cn_X8_293 ⟨by decide, by decide⟩ dX8_highOf_132 ?_
    refine z_callSlp (n2 := 93) (A_X8_floor l g M x24 1000 (by omega) (by omega)) cb_X8_floor cl_X8_124 (clr0 rfl rfl (by decide) (by decide)) rfl (by decide) rfl (Nat.le_of_ble_eq_true rfl) rfl dX8_highOf_135 (fun x28 bx28 hx28 => ?_)
    have hx1 := hx28
    first | refine z_lsubN dX8_highOf_138 (by omega) (fun x29 hx29 => ?_) | refine z_lsub dX8_highOf_138 (fun x29 hx29 => ?_)
    refine z_aload_nr dX8_highOf_139 rfl ?_
    refine z_getr (b := 72) fl_X8_44 rfl (by decide) rf_60_13 rfl dX8_highOf_140 ?_
    refine z_aload_nr dX8_highOf_143 rfl ?_
    refine z_getr (b := 64) fl_X8_19 rfl (by decide) rf_60_4 rfl dX8_highOf_144 ?_
    refine z_iload_n dX8_highOf_147 rfl ?_
    refine z_iald rfl (by decide) (by omega) (by omega) dX8_highOf_148 (fun x30 hx30 bx30 => ?_)
    refine z_iald rfl (by decide) (by omega) (by omega) dX8_highOf_149 (fun x31 hx31 bx31 => ?_)
    have qr : x31 = M 72 (M 64 i) := by rw [hx31]; congr 1
    refine z_i2l dX8_highOf_150 ?_
    refine z_aload_nr dX8_highOf_151 rfl ?_
    refine z_geti (kz := 17) fl_X8_189 rfl (by decide) rfl dX8_highOf_152 (fun x32 hx32 bx32 => ?_)
    refine z_i2l dX8_highOf_155 ?_
    have hdq := mulp (a := x31) (b := x32) (A := 2000) (B := 99) (by omega) (by omega)
    refine z_lmulN dX8_highOf_156 (by omega) (fun x33 hx33 => ?_)
    have pd := hx33
    refine z_ldc2 (c := 10) cn_X8_298 ⟨by decide, by decide⟩ dX8_highOf_157 ?_
    refine z_callSlp (n2 := 93) (A_X8_floor l g M x33 10 (by omega) (by omega)) cb_X8_floor cl_X8_124 (clr0 rfl rfl (by decide) (by decide)) rfl (by decide) rfl (Nat.le_of_ble_eq_true rfl) rfl dX8_highOf_160 (fun x34 bx34 hx34 => ?_)
    have hx2 := hx34
    first | refine z_lsubN dX8_highOf_163 (by omega) (fun x35 hx35 => ?_) | refine z_lsub dX8_highOf_163 (fun x35 hx35 => ?_)
    refine z_iload_n dX8_highOf_164 rfl ?_
    refine z_i2l dX8_highOf_165 ?_
    first | refine z_laddN dX8_highOf_166 (by omega) (fun x36 hx36 => ?_) | refine z_ladd dX8_highOf_166 (fun x36 hx36 => ?_)
    refine z_lret rfl (by decide) rfl (Nat.sub_self _) dX8_highOf_167 ?_
    have eb2 : x2 = M 76 (M 62 i) := by rw [eb]; congr 1
    have hk0 : M 61 i = 0 := by omega
    have hdu2 : ∀ z, z = M 60 17 → M 72 (M 64 i) * z = M 72 (M 64 i) * M 60 17 := fun z h => by rw [h]
    rw [qr] at pd
    have pd2 := pd.trans (hdu2 _ (by omega))
    have hval : x36 = highM M i := by
      unfold highM highS
      rw [if_pos hk0, ← hev, ← pd2]
      omega
    exact ⟨rfl, hval, by omega, by omega⟩
  · refine z_aload_nr dX8_highOf_21 rfl ?_
    refine z_getr (b := 66) fl_X8_25 rfl (by decide) rf_60_6 rfl dX8_highOf_22 ?_
    refine z_iload_n dX8_highOf_25 rfl ?_
    refine z_iald rfl (by decide) (by omega) (by omega) dX8_highOf_26 (fun x37 hx37 bx37 => ?_)
    refine z_i2l dX8_highOf_27 ?_
    refine z_iload_n dX8_highOf_28 rfl ?_
    refine z_i2l dX8_highOf_29 ?_
    first | refine z_laddN dX8_highOf_30 (by omega) (fun x38 hx38 => ?_) | refine z_ladd dX8_highOf_30 (fun x38 hx38 => ?_)
    refine z_lret rfl (by decide) rfl (Nat.sub_self _) dX8_highOf_31 ?_
    have eb2 : x2 = M 76 (M 62 i) := by rw [eb]; congr 1
    refine ⟨rfl, ?_, by omega, by omega⟩
    unfold highM highS
    rw [if_neg (by omega)]
    omega
set_option maxHeartbeats 400000 in
theorem A_X8_feed (l : Launch) (g : Cx) (M : FMem) (cnt bytes : Int) (h0 : 0 ≤ M 60 35 ∧ M 60 35 ≤ 240) : AMi l g true fi_X8_feed [fr 60, fi cnt, fl bytes] 93 M (fun r M2 => if ¬ (1 ≤ cnt ∧ cnt ≤ 8) then r = -1000002 ∧ M2 = M else if 240 < M 60 35 + cnt then r = -1000004 ∧ M2 = M else r = M 60 35 + cnt ∧ (∀ b j, b ≠ 85 → ¬ (b = 60 ∧ j = 35) → M2 b j = M b j) ∧ M2 60 35 = M 60 35 + cnt ∧ ∀ j, M2 85 j = if M 60 35 ≤ j ∧ j < M 60 35 + cnt then byt bytes (M 60 35 + cnt - 1 - j) else M 85 j) := by
  refine AMi_intro [fr 60, fi cnt, fl bytes, fu, fu] (by decide) (knall rfl) (Nat.le_of_ble_eq_true rfl) rfl ?_
  intro hNV hM0 μ
  have bcnt : N32 cnt := hNV (fi cnt) (by simp)
  have bbytes : N64 bytes := hNV (fl bytes) (by simp)
  have lp35 : ∀ (kq : Nat) (kz : Int) (M1 : FMem), (kz + 1).toNat = kq → (1 ≤ cnt ∧ cnt ≤ 8 ∧ M 60 35 + cnt ≤ 240) → (-1 ≤ kz ∧ kz < cnt) → ((∀ b j, b ≠ 85 → ¬ (b = 60 ∧ j = 35) → M1 b j = M b j) ∧ M1 60 35 = M 60 35 + (cnt - 1 - kz) ∧ ∀ j, M1 85 j = if M 60 35 ≤ j ∧ j < M 60 35 + (cnt - 1 - kz) then byt bytes (M 60 35 + cnt - 1 - j) else M 85 j) → Wa l g true fi_X8_feed 93 μ (Zi g true fi_X8_feed 93 μ (fun r M2 => if ¬ (1 ≤ cnt ∧ cnt ≤ 8) then r = -1000002 ∧ M2 = M else if 240 < M 60 35 + cnt then r = -1000004 ∧ M2 = M else r = M 60 35 + cnt ∧ (∀ b j, b ≠ 85 → ¬ (b = 60 ∧ j = 35) → M2 b j = M b j) ∧ M2 60 35 = M 60 35 + cnt ∧ ∀ j, M2 85 j = if M 60 35 ≤ j ∧ j < M 60 35 + cnt then byt bytes (M 60 35 + cnt - 1 - j) else M 85 j)) 35 [] [fr 60, fi cnt, fl bytes, fu, fi kz] 93 M1 := by
    intro kq
    induction kq using Nat.strongRecOn with
    | _ kq ih35 =>
    intro kz M1 hk35 hA h1 h2
    have e1 := h2.2.1
    refine z_iload dX8_feed_35 rfl ?_
    refine z_if_lt (tgt := 77) dX8_feed_37 (by decide) (fun c1 => ?_) (fun c1 => ?_)
    · refine z_aload_nr dX8_feed_77 rfl ?_
      refine z_geti (kz := 35) fl_X8_197 rfl (by decide) rfl dX8_feed_78 (fun x2 hx2 bx2 => ?_)
      refine z_iret rfl (by decide) rfl (Nat.sub_self _) dX8_feed_81 ?_
      rw [if_neg (by omega), if_neg (by omega)]
      rw [show kz = -1 by omega, show cnt - 1 - -1 = cnt by omega] at h2
      exact ⟨by omega, h2⟩
    · refine z_aload_nr dX8_feed_40 rfl ?_
      refine z_getr (b := 85) fl_X8_83 rfl (by decide) rf_60_34 rfl dX8_feed_41 ?_
      refine z_aload_nr dX8_feed_44 rfl ?_
      refine z_geti (kz := 35) fl_X8_197 rfl (by decide) rfl dX8_feed_45 (fun x3 hx3 bx3 => ?_)
      refine z_lload_n dX8_feed_48 rfl ?_
      refine z_bipush dX8_feed_49 ⟨by decide, by decide⟩ (by decide) ?_
      refine z_iload dX8_feed_51 rfl ?_
      first | refine z_imulN dX8_feed_53 (by omega) (fun x4 hx4 => ?_) | refine z_imul dX8_feed_53 (fun x4 hx4 => ?_)
      have hsh : x4 = 8 * kz := by omega
      refine z_lshr dX8_feed_54 (fun x5 hx5 bx5 => ?_)
      have hus := hx5
      rw [hsh] at hus
      refine z_ldc2 (c := 255) cn_X8_200 ⟨by decide, by decide⟩ dX8_feed_55 ?_
      refine z_land dX8_feed_58 (fun x6 hx6 bx6 => ?_)
      have hla := hx6
      rw [hus, and64_255, shr_byt bbytes (by omega) (by omega)] at hla
      have hbb := byt_b bytes kz
      first | refine z_l2iN dX8_feed_59 (by omega) (fun x7 hx7 => ?_) | refine z_l2i dX8_feed_59 (fun x7 hx7 => ?_)
      have hby : x7 = byt bytes kz := by omega
      have hix : x3 = M1 60 35 := by omega
      refine z_iast rfl (by decide) (by omega) (by omega) dX8_feed_60 (fun Mz8 hMz8 => ?_)
      refine z_aload_nr dX8_feed_61 rfl ?_
      refine z_dup rfl dX8_feed_62 ?_
      refine z_geti (kz := 35) fl_X8_197 rfl (by decide) rfl dX8_feed_63 (fun x9 hx9 bx9 => ?_)
      rw [hMz8, st_cell (by decide)] at hx9
      refine z_iconst dX8_feed_66 ⟨by decide, by decide⟩ ?_
      first | refine z_iaddN dX8_feed_67 (by omega) (fun x10 hx10 => ?_) | refine z_iadd dX8_feed_67 (fun x10 hx10 => ?_)
      refine z_puti (kz := 35) fl_X8_197 rfl (by decide) rfl nr_60_35 dX8_feed_68 (fun Mz11 hMz11 => ?_)
      refine z_iinc (loc2 := fun vq => [fr 60, fi cnt, fl bytes, fu, fi vq]) dX8_feed_71 rfl (by decide) (by omega) (fun _ => rfl) (fun x12 hx12 => ?_)
      refine z_goto (tgt := 35) dX8_feed_74 (by decide) ?_
      have hap : Mz11 = st (st M1 85 (M1 60 35) (byt bytes kz)) 60 35 (M1 60 35 + 1) := by
        rw [hMz11, hMz8, hby, hix]
        congr 1
        omega
      have g2 : (∀ b j, b ≠ 85 → ¬ (b = 60 ∧ j = 35) → Mz11 b j = M b j) ∧ Mz11 60 35 = M 60 35 + (cnt - 1 - (kz - 1)) ∧ ∀ j, Mz11 85 j = if M 60 35 ≤ j ∧ j < M 60 35 + (cnt - 1 - (kz - 1)) then byt bytes (M 60 35 + cnt - 1 - j) else M 85 j := by
        refine ⟨fun b j p q => ?_, ?_, fun j => ?_⟩
        · rw [hap]
          unfold st
          rw [if_neg q, if_neg (fun z => p z.1)]
          exact h2.1 b j p q
        · rw [hap, st_same]; omega
        · rw [hap, st_cell (by decide), st_at]
          by_cases e : j = M1 60 35
          · rw [if_pos e, if_pos (by omega), e, e1]
            congr 1
            omega
          · rw [if_neg e, h2.2.2 j]
            by_cases e2 : M 60 35 ≤ j ∧ j < M 60 35 + (cnt - 1 - kz)
            · rw [if_pos e2, if_pos (by omega)]
            · rw [if_neg e2, if_neg (by omega)]
      exact ih35 _ (by omega) x12 Mz11 rfl (hA) (by omega) (by rw [hx12]; exact g2)
  refine z_iload_n dX8_feed_0 rfl ?_
  refine z_i2l dX8_feed_1 ?_
  refine z_lconst1 dX8_feed_2 ?_
  refine z_ldc2 (c := 8) cn_X8_195 ⟨by decide, by decide⟩ dX8_feed_3 ?_
  refine z_callSip (n2 := 93) (A_X8_in l g M cnt 1 8) cb_X8_in cl_X8_130 (clr0 rfl rfl (by decide) (by decide)) rfl (by decide) rfl (Nat.le_of_ble_eq_true rfl) rfl dX8_feed_6 (fun x13 bx13 hx13 => ?_)
  have i13 := if01 hx13
  refine z_if_ne (tgt := 15) dX8_feed_9 (by decide) (fun c14 => ?_) (fun c14 => ?_)
  · refine z_aload_nr dX8_feed_15 rfl ?_
    refine z_geti (kz := 35) fl_X8_197 rfl (by decide) rfl dX8_feed_16 (fun x15 hx15 bx15 => ?_)
    refine z_iload_n dX8_feed_19 rfl ?_
    first | refine z_iaddN dX8_feed_20 (by omega) (fun x16 hx16 => ?_) | refine z_iadd dX8_feed_20 (fun x16 hx16 => ?_)
    refine z_sipush dX8_feed_21 ⟨by decide, by decide⟩ (by decide) ?_
    refine z_icmp_le (tgt := 30) dX8_feed_24 (by decide) (fun c17 => ?_) (fun c17 => ?_)
    · refine z_iload_n dX8_feed_30 rfl ?_
      refine z_iconst dX8_feed_31 ⟨by decide, by decide⟩ ?_
      first | refine z_isubN dX8_feed_32 (by omega) (fun x18 hx18 => ?_) | refine z_isub dX8_feed_32 (fun x18 hx18 => ?_)
      refine z_istore (loc2 := [fr 60, fi cnt, fl bytes, fu, fi x18]) dX8_feed_33 (by decide) rfl ?_
      exact lp35 _ x18 M rfl (by omega) (by omega) (⟨fun _ _ _ _ => rfl, by omega, fun j => by rw [if_neg (by omega)]⟩)
    · refine z_ldc (c := -1000004) cn_X8_139 ⟨by decide, by decide⟩ dX8_feed_27 ?_
      refine z_iret rfl (by decide) rfl (Nat.sub_self _) dX8_feed_29 ?_
      rw [if_neg (by omega), if_pos (by omega)]
      exact ⟨rfl, rfl⟩
  · refine z_ldc (c := -1000002) cn_X8_164 ⟨by decide, by decide⟩ dX8_feed_12 ?_
    refine z_iret rfl (by decide) rfl (Nat.sub_self _) dX8_feed_14 ?_
    rw [if_pos (by omega)]
    exact ⟨rfl, rfl⟩
def rulM (M : FMem) (what i : Int) : Int := if ((0 ≤ what ∧ what ≤ 3) ∧ ¬ (0 ≤ i ∧ i ≤ 5)) ∨ (what = 6 ∧ ¬ (0 ≤ i ∧ i ≤ 5)) then -1000001 else if 0 ≤ what ∧ what ≤ 3 then M 75 (4 * i + what) else if what = 4 then M 60 17 else if what = 5 then M 60 18 else if what = 6 then M 76 i else if what = 7 then M 60 20 else -1000002
def toldM (M : FMem) (i what : Int) : Int := if ¬ (0 ≤ i ∧ i < M 60 0) then -1000001 else if what = 0 then M 61 i else if what = 1 then M 62 i else if what = 2 then M 63 i else if what = 3 then M 64 i else if what = 4 then (if M 70 i = 0 ∧ M 69 i = 0 then 1 else 0) else if what = 5 then lowM M i else if what = 6 then highM M i else -1000002
set_option maxHeartbeats 400000 in
theorem A_X8_rule (l : Launch) (g : Cx) (M : FMem) (what i : Int) : AMi l g true fi_X8_rule [fr 60, fi what, fi i] 93 M (fun r M2 => M2 = M ∧ (fun r => r = rulM M what i) r) := by
  refine AMi_intro [fr 60, fi what, fi i] (by decide) (knall rfl) (Nat.le_of_ble_eq_true rfl) rfl ?_
  intro hNV hM0 μ
  have bwhat : N32 what := hNV (fi what) (by simp)
  have bi : N32 i := hNV (fi i) (by simp)
  refine z_iload_n dX8_rule_0 rfl ?_
  refine z_i2l dX8_rule_1 ?_
  refine z_lconst0 dX8_rule_2 ?_
  refine z_ldc2 (c := 7) cn_X8_288 ⟨by decide, by decide⟩ dX8_rule_3 ?_
  refine z_callSip (n2 := 93) (A_X8_in l g M what 0 7) cb_X8_in cl_X8_130 (clr0 rfl rfl (by decide) (by decide)) rfl (by decide) rfl (Nat.le_of_ble_eq_true rfl) rfl dX8_rule_6 (fun x1 bx1 hx1 => ?_)
  have i1 := if01 hx1
  refine z_if_ne (tgt := 15) dX8_rule_9 (by decide) (fun c2 => ?_) (fun c2 => ?_)
  · refine z_iload_n dX8_rule_15 rfl ?_
    refine z_iconst dX8_rule_16 ⟨by decide, by decide⟩ ?_
    refine z_icmp_ge (tgt := 27) dX8_rule_17 (by decide) (fun c3 => ?_) (fun c3 => ?_)
    · refine z_iload_n dX8_rule_27 rfl ?_
      refine z_bipush dX8_rule_28 ⟨by decide, by decide⟩ (by decide) ?_
      refine z_icmp_ne (tgt := 43) dX8_rule_30 (by decide) (fun c4 => ?_) (fun c4 => ?_)
      · refine z_iload_n dX8_rule_43 rfl ?_
        refine z_iconst dX8_rule_44 ⟨by decide, by decide⟩ ?_
        refine z_icmp_ge (tgt := 61) dX8_rule_45 (by decide) (fun c5 => ?_) (fun c5 => ?_)
        · refine z_iload_n dX8_rule_61 rfl ?_
          refine z_iconst dX8_rule_62 ⟨by decide, by decide⟩ ?_
          refine z_icmp_ne (tgt := 73) dX8_rule_63 (by decide) (fun c6 => ?_) (fun c6 => ?_)
          · refine z_iload_n dX8_rule_73 rfl ?_
            refine z_iconst dX8_rule_74 ⟨by decide, by decide⟩ ?_
            refine z_icmp_ne (tgt := 85) dX8_rule_75 (by decide) (fun c7 => ?_) (fun c7 => ?_)
            · refine z_iload_n dX8_rule_85 rfl ?_
              refine z_bipush dX8_rule_86 ⟨by decide, by decide⟩ (by decide) ?_
              refine z_icmp_ne (tgt := 100) dX8_rule_88 (by decide) (fun c8 => ?_) (fun c8 => ?_)
              · refine z_aload_nr dX8_rule_100 rfl ?_
                refine z_geti (kz := 20) fl_X8_273 rfl (by decide) rfl dX8_rule_101 (fun x9 hx9 bx9 => ?_)
                refine z_iret rfl (by decide) rfl (Nat.sub_self _) dX8_rule_104 ?_
                refine ⟨rfl, ?_⟩
                first
                | (unfold rulM; rw [if_pos (by omega)] <;> (first | rfl | assumption | omega))
                | (unfold rulM; rw [if_neg (by omega), if_pos (by omega)] <;> (first | rfl | assumption | omega))
                | (unfold rulM; rw [if_neg (by omega), if_neg (by omega), if_pos (by omega)] <;> (first | rfl | assumption | omega))
                | (unfold rulM; rw [if_neg (by omega), if_neg (by omega), if_neg (by omega), if_pos (by omega)] <;> (first | rfl | assumption | omega))
                | (unfold rulM; rw [if_neg (by omega), if_neg (by omega), if_neg (by omega), if_neg (by omega), if_pos (by omega)] <;> (first | rfl | assumption | omega))
                | (unfold rulM; rw [if_neg (by omega), if_neg (by omega), if_neg (by omega), if_neg (by omega), if_neg (by omega), if_pos (by omega)] <;> (first | rfl | assumption | omega))
                | (unfold rulM; rw [if_neg (by omega), if_neg (by omega), if_neg (by omega), if_neg (by omega), if_neg (by omega), if_neg (by omega)])
              · refine z_aload_nr dX8_rule_91 rfl ?_
                refine z_getr (b := 76) fl_X8_56 rfl (by decide) rf_60_19 rfl dX8_rule_92 ?_
                refine z_iload_n dX8_rule_95 rfl ?_
                refine z_iald rfl (by decide) (by omega) (by omega) dX8_rule_96 (fun x10 hx10 bx10 => ?_)
                refine z_goto (tgt := 104) dX8_rule_97 (by decide) ?_
                refine z_iret rfl (by decide) rfl (Nat.sub_self _) dX8_rule_104 ?_
                refine ⟨rfl, ?_⟩
                first
                | (unfold rulM; rw [if_pos (by omega)] <;> (first | rfl | assumption | omega))
                | (unfold rulM; rw [if_neg (by omega), if_pos (by omega)] <;> (first | rfl | assumption | omega))
                | (unfold rulM; rw [if_neg (by omega), if_neg (by omega), if_pos (by omega)] <;> (first | rfl | assumption | omega))
                | (unfold rulM; rw [if_neg (by omega), if_neg (by omega), if_neg (by omega), if_pos (by omega)] <;> (first | rfl | assumption | omega))
                | (unfold rulM; rw [if_neg (by omega), if_neg (by omega), if_neg (by omega), if_neg (by omega), if_pos (by omega)] <;> (first | rfl | assumption | omega))
                | (unfold rulM; rw [if_neg (by omega), if_neg (by omega), if_neg (by omega), if_neg (by omega), if_neg (by omega), if_pos (by omega)] <;> (first | rfl | assumption | omega))
                | (unfold rulM; rw [if_neg (by omega), if_neg (by omega), if_neg (by omega), if_neg (by omega), if_neg (by omega), if_neg (by omega)])
            · refine z_aload_nr dX8_rule_78 rfl ?_
              refine z_geti (kz := 18) fl_X8_192 rfl (by decide) rfl dX8_rule_79 (fun x11 hx11 bx11 => ?_)
              refine z_goto (tgt := 104) dX8_rule_82 (by decide) ?_
              refine z_iret rfl (by decide) rfl (Nat.sub_self _) dX8_rule_104 ?_
              refine ⟨rfl, ?_⟩
              first
              | (unfold rulM; rw [if_pos (by omega)] <;> (first | rfl | assumption | omega))
              | (unfold rulM; rw [if_neg (by omega), if_pos (by omega)] <;> (first | rfl | assumption | omega))
              | (unfold rulM; rw [if_neg (by omega), if_neg (by omega), if_pos (by omega)] <;> (first | rfl | assumption | omega))
              | (unfold rulM; rw [if_neg (by omega), if_neg (by omega), if_neg (by omega), if_pos (by omega)] <;> (first | rfl | assumption | omega))
              | (unfold rulM; rw [if_neg (by omega), if_neg (by omega), if_neg (by omega), if_neg (by omega), if_pos (by omega)] <;> (first | rfl | assumption | omega))
              | (unfold rulM; rw [if_neg (by omega), if_neg (by omega), if_neg (by omega), if_neg (by omega), if_neg (by omega), if_pos (by omega)] <;> (first | rfl | assumption | omega))
              | (unfold rulM; rw [if_neg (by omega), if_neg (by omega), if_neg (by omega), if_neg (by omega), if_neg (by omega), if_neg (by omega)])
          · refine z_aload_nr dX8_rule_66 rfl ?_
            refine z_geti (kz := 17) fl_X8_189 rfl (by decide) rfl dX8_rule_67 (fun x12 hx12 bx12 => ?_)
            refine z_goto (tgt := 104) dX8_rule_70 (by decide) ?_
            refine z_iret rfl (by decide) rfl (Nat.sub_self _) dX8_rule_104 ?_
            refine ⟨rfl, ?_⟩
            first
            | (unfold rulM; rw [if_pos (by omega)] <;> (first | rfl | assumption | omega))
            | (unfold rulM; rw [if_neg (by omega), if_pos (by omega)] <;> (first | rfl | assumption | omega))
            | (unfold rulM; rw [if_neg (by omega), if_neg (by omega), if_pos (by omega)] <;> (first | rfl | assumption | omega))
            | (unfold rulM; rw [if_neg (by omega), if_neg (by omega), if_neg (by omega), if_pos (by omega)] <;> (first | rfl | assumption | omega))
            | (unfold rulM; rw [if_neg (by omega), if_neg (by omega), if_neg (by omega), if_neg (by omega), if_pos (by omega)] <;> (first | rfl | assumption | omega))
            | (unfold rulM; rw [if_neg (by omega), if_neg (by omega), if_neg (by omega), if_neg (by omega), if_neg (by omega), if_pos (by omega)] <;> (first | rfl | assumption | omega))
            | (unfold rulM; rw [if_neg (by omega), if_neg (by omega), if_neg (by omega), if_neg (by omega), if_neg (by omega), if_neg (by omega)])
        · refine z_aload_nr dX8_rule_48 rfl ?_
          refine z_getr (b := 75) fl_X8_53 rfl (by decide) rf_60_16 rfl dX8_rule_49 ?_
          refine z_iconst dX8_rule_52 ⟨by decide, by decide⟩ ?_
          refine z_iload_n dX8_rule_53 rfl ?_
          first | refine z_imulN dX8_rule_54 (by omega) (fun x13 hx13 => ?_) | refine z_imul dX8_rule_54 (fun x13 hx13 => ?_)
          refine z_iload_n dX8_rule_55 rfl ?_
          first | refine z_iaddN dX8_rule_56 (by omega) (fun x14 hx14 => ?_) | refine z_iadd dX8_rule_56 (fun x14 hx14 => ?_)
          refine z_iald rfl (by decide) (by omega) (by omega) dX8_rule_57 (fun x15 hx15 bx15 => ?_)
          have hix : x15 = M 75 (4 * i + what) := by rw [hx15]; congr 1; omega
          refine z_goto (tgt := 104) dX8_rule_58 (by decide) ?_
          refine z_iret rfl (by decide) rfl (Nat.sub_self _) dX8_rule_104 ?_
          refine ⟨rfl, ?_⟩
          first
          | (unfold rulM; rw [if_pos (by omega)] <;> (first | rfl | assumption | omega))
          | (unfold rulM; rw [if_neg (by omega), if_pos (by omega)] <;> (first | rfl | assumption | omega))
          | (unfold rulM; rw [if_neg (by omega), if_neg (by omega), if_pos (by omega)] <;> (first | rfl | assumption | omega))
          | (unfold rulM; rw [if_neg (by omega), if_neg (by omega), if_neg (by omega), if_pos (by omega)] <;> (first | rfl | assumption | omega))
          | (unfold rulM; rw [if_neg (by omega), if_neg (by omega), if_neg (by omega), if_neg (by omega), if_pos (by omega)] <;> (first | rfl | assumption | omega))
          | (unfold rulM; rw [if_neg (by omega), if_neg (by omega), if_neg (by omega), if_neg (by omega), if_neg (by omega), if_pos (by omega)] <;> (first | rfl | assumption | omega))
          | (unfold rulM; rw [if_neg (by omega), if_neg (by omega), if_neg (by omega), if_neg (by omega), if_neg (by omega), if_neg (by omega)])
      · refine z_iload_n dX8_rule_33 rfl ?_
        refine z_callSip (n2 := 93) (A_X8_isList l g M i) cb_X8_isList cl_X8_143 (clr0 rfl rfl (by decide) (by decide)) rfl (by decide) rfl (Nat.le_of_ble_eq_true rfl) rfl dX8_rule_34 (fun x16 bx16 hx16 => ?_)
        have i16 := if01 hx16
        refine z_if_ne (tgt := 43) dX8_rule_37 (by decide) (fun c17 => ?_) (fun c17 => ?_)
        · refine z_iload_n dX8_rule_43 rfl ?_
          refine z_iconst dX8_rule_44 ⟨by decide, by decide⟩ ?_
          refine z_icmp_ge (tgt := 61) dX8_rule_45 (by decide) (fun c18 => ?_) (fun c18 => ?_)
          · refine z_iload_n dX8_rule_61 rfl ?_
            refine z_iconst dX8_rule_62 ⟨by decide, by decide⟩ ?_
            refine z_icmp_ne (tgt := 73) dX8_rule_63 (by decide) (fun c19 => ?_) (fun c19 => ?_)
            · refine z_iload_n dX8_rule_73 rfl ?_
              refine z_iconst dX8_rule_74 ⟨by decide, by decide⟩ ?_
              refine z_icmp_ne (tgt := 85) dX8_rule_75 (by decide) (fun c20 => ?_) (fun c20 => ?_)
              · refine z_iload_n dX8_rule_85 rfl ?_
                refine z_bipush dX8_rule_86 ⟨by decide, by decide⟩ (by decide) ?_
                refine z_icmp_ne (tgt := 100) dX8_rule_88 (by decide) (fun c21 => ?_) (fun c21 => ?_)
                · refine z_aload_nr dX8_rule_100 rfl ?_
                  refine z_geti (kz := 20) fl_X8_273 rfl (by decide) rfl dX8_rule_101 (fun x22 hx22 bx22 => ?_)
                  refine z_iret rfl (by decide) rfl (Nat.sub_self _) dX8_rule_104 ?_
                  refine ⟨rfl, ?_⟩
                  first
                  | (unfold rulM; rw [if_pos (by omega)] <;> (first | rfl | assumption | omega))
                  | (unfold rulM; rw [if_neg (by omega), if_pos (by omega)] <;> (first | rfl | assumption | omega))
                  | (unfold rulM; rw [if_neg (by omega), if_neg (by omega), if_pos (by omega)] <;> (first | rfl | assumption | omega))
                  | (unfold rulM; rw [if_neg (by omega), if_neg (by omega), if_neg (by omega), if_pos (by omega)] <;> (first | rfl | assumption | omega))
                  | (unfold rulM; rw [if_neg (by omega), if_neg (by omega), if_neg (by omega), if_neg (by omega), if_pos (by omega)] <;> (first | rfl | assumption | omega))
                  | (unfold rulM; rw [if_neg (by omega), if_neg (by omega), if_neg (by omega), if_neg (by omega), if_neg (by omega), if_pos (by omega)] <;> (first | rfl | assumption | omega))
                  | (unfold rulM; rw [if_neg (by omega), if_neg (by omega), if_neg (by omega), if_neg (by omega), if_neg (by omega), if_neg (by omega)])
                · refine z_aload_nr dX8_rule_91 rfl ?_
                  refine z_getr (b := 76) fl_X8_56 rfl (by decide) rf_60_19 rfl dX8_rule_92 ?_
                  refine z_iload_n dX8_rule_95 rfl ?_
                  refine z_iald rfl (by decide) (by omega) (by omega) dX8_rule_96 (fun x23 hx23 bx23 => ?_)
                  refine z_goto (tgt := 104) dX8_rule_97 (by decide) ?_
                  refine z_iret rfl (by decide) rfl (Nat.sub_self _) dX8_rule_104 ?_
                  refine ⟨rfl, ?_⟩
                  first
                  | (unfold rulM; rw [if_pos (by omega)] <;> (first | rfl | assumption | omega))
                  | (unfold rulM; rw [if_neg (by omega), if_pos (by omega)] <;> (first | rfl | assumption | omega))
                  | (unfold rulM; rw [if_neg (by omega), if_neg (by omega), if_pos (by omega)] <;> (first | rfl | assumption | omega))
                  | (unfold rulM; rw [if_neg (by omega), if_neg (by omega), if_neg (by omega), if_pos (by omega)] <;> (first | rfl | assumption | omega))
                  | (unfold rulM; rw [if_neg (by omega), if_neg (by omega), if_neg (by omega), if_neg (by omega), if_pos (by omega)] <;> (first | rfl | assumption | omega))
                  | (unfold rulM; rw [if_neg (by omega), if_neg (by omega), if_neg (by omega), if_neg (by omega), if_neg (by omega), if_pos (by omega)] <;> (first | rfl | assumption | omega))
                  | (unfold rulM; rw [if_neg (by omega), if_neg (by omega), if_neg (by omega), if_neg (by omega), if_neg (by omega), if_neg (by omega)])
              · refine z_aload_nr dX8_rule_78 rfl ?_
                refine z_geti (kz := 18) fl_X8_192 rfl (by decide) rfl dX8_rule_79 (fun x24 hx24 bx24 => ?_)
                refine z_goto (tgt := 104) dX8_rule_82 (by decide) ?_
                refine z_iret rfl (by decide) rfl (Nat.sub_self _) dX8_rule_104 ?_
                refine ⟨rfl, ?_⟩
                first
                | (unfold rulM; rw [if_pos (by omega)] <;> (first | rfl | assumption | omega))
                | (unfold rulM; rw [if_neg (by omega), if_pos (by omega)] <;> (first | rfl | assumption | omega))
                | (unfold rulM; rw [if_neg (by omega), if_neg (by omega), if_pos (by omega)] <;> (first | rfl | assumption | omega))
                | (unfold rulM; rw [if_neg (by omega), if_neg (by omega), if_neg (by omega), if_pos (by omega)] <;> (first | rfl | assumption | omega))
                | (unfold rulM; rw [if_neg (by omega), if_neg (by omega), if_neg (by omega), if_neg (by omega), if_pos (by omega)] <;> (first | rfl | assumption | omega))
                | (unfold rulM; rw [if_neg (by omega), if_neg (by omega), if_neg (by omega), if_neg (by omega), if_neg (by omega), if_pos (by omega)] <;> (first | rfl | assumption | omega))
                | (unfold rulM; rw [if_neg (by omega), if_neg (by omega), if_neg (by omega), if_neg (by omega), if_neg (by omega), if_neg (by omega)])
            · refine z_aload_nr dX8_rule_66 rfl ?_
              refine z_geti (kz := 17) fl_X8_189 rfl (by decide) rfl dX8_rule_67 (fun x25 hx25 bx25 => ?_)
              refine z_goto (tgt := 104) dX8_rule_70 (by decide) ?_
              refine z_iret rfl (by decide) rfl (Nat.sub_self _) dX8_rule_104 ?_
              refine ⟨rfl, ?_⟩
              first
              | (unfold rulM; rw [if_pos (by omega)] <;> (first | rfl | assumption | omega))
              | (unfold rulM; rw [if_neg (by omega), if_pos (by omega)] <;> (first | rfl | assumption | omega))
              | (unfold rulM; rw [if_neg (by omega), if_neg (by omega), if_pos (by omega)] <;> (first | rfl | assumption | omega))
              | (unfold rulM; rw [if_neg (by omega), if_neg (by omega), if_neg (by omega), if_pos (by omega)] <;> (first | rfl | assumption | omega))
              | (unfold rulM; rw [if_neg (by omega), if_neg (by omega), if_neg (by omega), if_neg (by omega), if_pos (by omega)] <;> (first | rfl | assumption | omega))
              | (unfold rulM; rw [if_neg (by omega), if_neg (by omega), if_neg (by omega), if_neg (by omega), if_neg (by omega), if_pos (by omega)] <;> (first | rfl | assumption | omega))
              | (unfold rulM; rw [if_neg (by omega), if_neg (by omega), if_neg (by omega), if_neg (by omega), if_neg (by omega), if_neg (by omega)])
          · refine z_aload_nr dX8_rule_48 rfl ?_
            refine z_getr (b := 75) fl_X8_53 rfl (by decide) rf_60_16 rfl dX8_rule_49 ?_
            refine z_iconst dX8_rule_52 ⟨by decide, by decide⟩ ?_
            refine z_iload_n dX8_rule_53 rfl ?_
            first | refine z_imulN dX8_rule_54 (by omega) (fun x26 hx26 => ?_) | refine z_imul dX8_rule_54 (fun x26 hx26 => ?_)
            refine z_iload_n dX8_rule_55 rfl ?_
            first | refine z_iaddN dX8_rule_56 (by omega) (fun x27 hx27 => ?_) | refine z_iadd dX8_rule_56 (fun x27 hx27 => ?_)
            refine z_iald rfl (by decide) (by omega) (by omega) dX8_rule_57 (fun x28 hx28 bx28 => ?_)
            have hix : x28 = M 75 (4 * i + what) := by rw [hx28]; congr 1; omega
            refine z_goto (tgt := 104) dX8_rule_58 (by decide) ?_
            refine z_iret rfl (by decide) rfl (Nat.sub_self _) dX8_rule_104 ?_
            refine ⟨rfl, ?_⟩
            first
            | (unfold rulM; rw [if_pos (by omega)] <;> (first | rfl | assumption | omega))
            | (unfold rulM; rw [if_neg (by omega), if_pos (by omega)] <;> (first | rfl | assumption | omega))
            | (unfold rulM; rw [if_neg (by omega), if_neg (by omega), if_pos (by omega)] <;> (first | rfl | assumption | omega))
            | (unfold rulM; rw [if_neg (by omega), if_neg (by omega), if_neg (by omega), if_pos (by omega)] <;> (first | rfl | assumption | omega))
            | (unfold rulM; rw [if_neg (by omega), if_neg (by omega), if_neg (by omega), if_neg (by omega), if_pos (by omega)] <;> (first | rfl | assumption | omega))
            | (unfold rulM; rw [if_neg (by omega), if_neg (by omega), if_neg (by omega), if_neg (by omega), if_neg (by omega), if_pos (by omega)] <;> (first | rfl | assumption | omega))
            | (unfold rulM; rw [if_neg (by omega), if_neg (by omega), if_neg (by omega), if_neg (by omega), if_neg (by omega), if_neg (by omega)])
        · refine z_ldc (c := -1000001) cn_X8_153 ⟨by decide, by decide⟩ dX8_rule_40 ?_
          refine z_iret rfl (by decide) rfl (Nat.sub_self _) dX8_rule_42 ?_
          refine ⟨rfl, ?_⟩
          first
          | (unfold rulM; rw [if_pos (by omega)] <;> (first | rfl | assumption | omega))
          | (unfold rulM; rw [if_neg (by omega), if_pos (by omega)] <;> (first | rfl | assumption | omega))
          | (unfold rulM; rw [if_neg (by omega), if_neg (by omega), if_pos (by omega)] <;> (first | rfl | assumption | omega))
          | (unfold rulM; rw [if_neg (by omega), if_neg (by omega), if_neg (by omega), if_pos (by omega)] <;> (first | rfl | assumption | omega))
          | (unfold rulM; rw [if_neg (by omega), if_neg (by omega), if_neg (by omega), if_neg (by omega), if_pos (by omega)] <;> (first | rfl | assumption | omega))
          | (unfold rulM; rw [if_neg (by omega), if_neg (by omega), if_neg (by omega), if_neg (by omega), if_neg (by omega), if_pos (by omega)] <;> (first | rfl | assumption | omega))
          | (unfold rulM; rw [if_neg (by omega), if_neg (by omega), if_neg (by omega), if_neg (by omega), if_neg (by omega), if_neg (by omega)])
    · refine z_iload_n dX8_rule_20 rfl ?_
      refine z_callSip (n2 := 93) (A_X8_isSort l g M i) cb_X8_isSort cl_X8_147 (clr0 rfl rfl (by decide) (by decide)) rfl (by decide) rfl (Nat.le_of_ble_eq_true rfl) rfl dX8_rule_21 (fun x29 bx29 hx29 => ?_)
      have i29 := if01 hx29
      refine z_if_eq (tgt := 40) dX8_rule_24 (by decide) (fun c30 => ?_) (fun c30 => ?_)
      · refine z_ldc (c := -1000001) cn_X8_153 ⟨by decide, by decide⟩ dX8_rule_40 ?_
        refine z_iret rfl (by decide) rfl (Nat.sub_self _) dX8_rule_42 ?_
        refine ⟨rfl, ?_⟩
        first
        | (unfold rulM; rw [if_pos (by omega)] <;> (first | rfl | assumption | omega))
        | (unfold rulM; rw [if_neg (by omega), if_pos (by omega)] <;> (first | rfl | assumption | omega))
        | (unfold rulM; rw [if_neg (by omega), if_neg (by omega), if_pos (by omega)] <;> (first | rfl | assumption | omega))
        | (unfold rulM; rw [if_neg (by omega), if_neg (by omega), if_neg (by omega), if_pos (by omega)] <;> (first | rfl | assumption | omega))
        | (unfold rulM; rw [if_neg (by omega), if_neg (by omega), if_neg (by omega), if_neg (by omega), if_pos (by omega)] <;> (first | rfl | assumption | omega))
        | (unfold rulM; rw [if_neg (by omega), if_neg (by omega), if_neg (by omega), if_neg (by omega), if_neg (by omega), if_pos (by omega)] <;> (first | rfl | assumption | omega))
        | (unfold rulM; rw [if_neg (by omega), if_neg (by omega), if_neg (by omega), if_neg (by omega), if_neg (by omega), if_neg (by omega)])
      · refine z_iload_n dX8_rule_27 rfl ?_
        refine z_bipush dX8_rule_28 ⟨by decide, by decide⟩ (by decide) ?_
        refine z_icmp_ne (tgt := 43) dX8_rule_30 (by decide) (fun c31 => ?_) (fun c31 => ?_)
        · refine z_iload_n dX8_rule_43 rfl ?_
          refine z_iconst dX8_rule_44 ⟨by decide, by decide⟩ ?_
          refine z_icmp_ge (tgt := 61) dX8_rule_45 (by decide) (fun c32 => ?_) (fun c32 => ?_)
          · refine z_iload_n dX8_rule_61 rfl ?_
            refine z_iconst dX8_rule_62 ⟨by decide, by decide⟩ ?_
            refine z_icmp_ne (tgt := 73) dX8_rule_63 (by decide) (fun c33 => ?_) (fun c33 => ?_)
            · refine z_iload_n dX8_rule_73 rfl ?_
              refine z_iconst dX8_rule_74 ⟨by decide, by decide⟩ ?_
              refine z_icmp_ne (tgt := 85) dX8_rule_75 (by decide) (fun c34 => ?_) (fun c34 => ?_)
              · refine z_iload_n dX8_rule_85 rfl ?_
                refine z_bipush dX8_rule_86 ⟨by decide, by decide⟩ (by decide) ?_
                refine z_icmp_ne (tgt := 100) dX8_rule_88 (by decide) (fun c35 => ?_) (fun c35 => ?_)
                · refine z_aload_nr dX8_rule_100 rfl ?_
                  refine z_geti (kz := 20) fl_X8_273 rfl (by decide) rfl dX8_rule_101 (fun x36 hx36 bx36 => ?_)
                  refine z_iret rfl (by decide) rfl (Nat.sub_self _) dX8_rule_104 ?_
                  refine ⟨rfl, ?_⟩
                  first
                  | (unfold rulM; rw [if_pos (by omega)] <;> (first | rfl | assumption | omega))
                  | (unfold rulM; rw [if_neg (by omega), if_pos (by omega)] <;> (first | rfl | assumption | omega))
                  | (unfold rulM; rw [if_neg (by omega), if_neg (by omega), if_pos (by omega)] <;> (first | rfl | assumption | omega))
                  | (unfold rulM; rw [if_neg (by omega), if_neg (by omega), if_neg (by omega), if_pos (by omega)] <;> (first | rfl | assumption | omega))
                  | (unfold rulM; rw [if_neg (by omega), if_neg (by omega), if_neg (by omega), if_neg (by omega), if_pos (by omega)] <;> (first | rfl | assumption | omega))
                  | (unfold rulM; rw [if_neg (by omega), if_neg (by omega), if_neg (by omega), if_neg (by omega), if_neg (by omega), if_pos (by omega)] <;> (first | rfl | assumption | omega))
                  | (unfold rulM; rw [if_neg (by omega), if_neg (by omega), if_neg (by omega), if_neg (by omega), if_neg (by omega), if_neg (by omega)])
                · refine z_aload_nr dX8_rule_91 rfl ?_
                  refine z_getr (b := 76) fl_X8_56 rfl (by decide) rf_60_19 rfl dX8_rule_92 ?_
                  refine z_iload_n dX8_rule_95 rfl ?_
                  refine z_iald rfl (by decide) (by omega) (by omega) dX8_rule_96 (fun x37 hx37 bx37 => ?_)
                  refine z_goto (tgt := 104) dX8_rule_97 (by decide) ?_
                  refine z_iret rfl (by decide) rfl (Nat.sub_self _) dX8_rule_104 ?_
                  refine ⟨rfl, ?_⟩
                  first
                  | (unfold rulM; rw [if_pos (by omega)] <;> (first | rfl | assumption | omega))
                  | (unfold rulM; rw [if_neg (by omega), if_pos (by omega)] <;> (first | rfl | assumption | omega))
                  | (unfold rulM; rw [if_neg (by omega), if_neg (by omega), if_pos (by omega)] <;> (first | rfl | assumption | omega))
                  | (unfold rulM; rw [if_neg (by omega), if_neg (by omega), if_neg (by omega), if_pos (by omega)] <;> (first | rfl | assumption | omega))
                  | (unfold rulM; rw [if_neg (by omega), if_neg (by omega), if_neg (by omega), if_neg (by omega), if_pos (by omega)] <;> (first | rfl | assumption | omega))
                  | (unfold rulM; rw [if_neg (by omega), if_neg (by omega), if_neg (by omega), if_neg (by omega), if_neg (by omega), if_pos (by omega)] <;> (first | rfl | assumption | omega))
                  | (unfold rulM; rw [if_neg (by omega), if_neg (by omega), if_neg (by omega), if_neg (by omega), if_neg (by omega), if_neg (by omega)])
              · refine z_aload_nr dX8_rule_78 rfl ?_
                refine z_geti (kz := 18) fl_X8_192 rfl (by decide) rfl dX8_rule_79 (fun x38 hx38 bx38 => ?_)
                refine z_goto (tgt := 104) dX8_rule_82 (by decide) ?_
                refine z_iret rfl (by decide) rfl (Nat.sub_self _) dX8_rule_104 ?_
                refine ⟨rfl, ?_⟩
                first
                | (unfold rulM; rw [if_pos (by omega)] <;> (first | rfl | assumption | omega))
                | (unfold rulM; rw [if_neg (by omega), if_pos (by omega)] <;> (first | rfl | assumption | omega))
                | (unfold rulM; rw [if_neg (by omega), if_neg (by omega), if_pos (by omega)] <;> (first | rfl | assumption | omega))
                | (unfold rulM; rw [if_neg (by omega), if_neg (by omega), if_neg (by omega), if_pos (by omega)] <;> (first | rfl | assumption | omega))
                | (unfold rulM; rw [if_neg (by omega), if_neg (by omega), if_neg (by omega), if_neg (by omega), if_pos (by omega)] <;> (first | rfl | assumption | omega))
                | (unfold rulM; rw [if_neg (by omega), if_neg (by omega), if_neg (by omega), if_neg (by omega), if_neg (by omega), if_pos (by omega)] <;> (first | rfl | assumption | omega))
                | (unfold rulM; rw [if_neg (by omega), if_neg (by omega), if_neg (by omega), if_neg (by omega), if_neg (by omega), if_neg (by omega)])
            · refine z_aload_nr dX8_rule_66 rfl ?_
              refine z_geti (kz := 17) fl_X8_189 rfl (by decide) rfl dX8_rule_67 (fun x39 hx39 bx39 => ?_)
              refine z_goto (tgt := 104) dX8_rule_70 (by decide) ?_
              refine z_iret rfl (by decide) rfl (Nat.sub_self _) dX8_rule_104 ?_
              refine ⟨rfl, ?_⟩
              first
              | (unfold rulM; rw [if_pos (by omega)] <;> (first | rfl | assumption | omega))
              | (unfold rulM; rw [if_neg (by omega), if_pos (by omega)] <;> (first | rfl | assumption | omega))
              | (unfold rulM; rw [if_neg (by omega), if_neg (by omega), if_pos (by omega)] <;> (first | rfl | assumption | omega))
              | (unfold rulM; rw [if_neg (by omega), if_neg (by omega), if_neg (by omega), if_pos (by omega)] <;> (first | rfl | assumption | omega))
              | (unfold rulM; rw [if_neg (by omega), if_neg (by omega), if_neg (by omega), if_neg (by omega), if_pos (by omega)] <;> (first | rfl | assumption | omega))
              | (unfold rulM; rw [if_neg (by omega), if_neg (by omega), if_neg (by omega), if_neg (by omega), if_neg (by omega), if_pos (by omega)] <;> (first | rfl | assumption | omega))
              | (unfold rulM; rw [if_neg (by omega), if_neg (by omega), if_neg (by omega), if_neg (by omega), if_neg (by omega), if_neg (by omega)])
          · refine z_aload_nr dX8_rule_48 rfl ?_
            refine z_getr (b := 75) fl_X8_53 rfl (by decide) rf_60_16 rfl dX8_rule_49 ?_
            refine z_iconst dX8_rule_52 ⟨by decide, by decide⟩ ?_
            refine z_iload_n dX8_rule_53 rfl ?_
            first | refine z_imulN dX8_rule_54 (by omega) (fun x40 hx40 => ?_) | refine z_imul dX8_rule_54 (fun x40 hx40 => ?_)
            refine z_iload_n dX8_rule_55 rfl ?_
            first | refine z_iaddN dX8_rule_56 (by omega) (fun x41 hx41 => ?_) | refine z_iadd dX8_rule_56 (fun x41 hx41 => ?_)
            refine z_iald rfl (by decide) (by omega) (by omega) dX8_rule_57 (fun x42 hx42 bx42 => ?_)
            have hix : x42 = M 75 (4 * i + what) := by rw [hx42]; congr 1; omega
            refine z_goto (tgt := 104) dX8_rule_58 (by decide) ?_
            refine z_iret rfl (by decide) rfl (Nat.sub_self _) dX8_rule_104 ?_
            refine ⟨rfl, ?_⟩
            first
            | (unfold rulM; rw [if_pos (by omega)] <;> (first | rfl | assumption | omega))
            | (unfold rulM; rw [if_neg (by omega), if_pos (by omega)] <;> (first | rfl | assumption | omega))
            | (unfold rulM; rw [if_neg (by omega), if_neg (by omega), if_pos (by omega)] <;> (first | rfl | assumption | omega))
            | (unfold rulM; rw [if_neg (by omega), if_neg (by omega), if_neg (by omega), if_pos (by omega)] <;> (first | rfl | assumption | omega))
            | (unfold rulM; rw [if_neg (by omega), if_neg (by omega), if_neg (by omega), if_neg (by omega), if_pos (by omega)] <;> (first | rfl | assumption | omega))
            | (unfold rulM; rw [if_neg (by omega), if_neg (by omega), if_neg (by omega), if_neg (by omega), if_neg (by omega), if_pos (by omega)] <;> (first | rfl | assumption | omega))
            | (unfold rulM; rw [if_neg (by omega), if_neg (by omega), if_neg (by omega), if_neg (by omega), if_neg (by omega), if_neg (by omega)])
        · refine z_iload_n dX8_rule_33 rfl ?_
          refine z_callSip (n2 := 93) (A_X8_isList l g M i) cb_X8_isList cl_X8_143 (clr0 rfl rfl (by decide) (by decide)) rfl (by decide) rfl (Nat.le_of_ble_eq_true rfl) rfl dX8_rule_34 (fun x43 bx43 hx43 => ?_)
          have i43 := if01 hx43
          refine z_if_ne (tgt := 43) dX8_rule_37 (by decide) (fun c44 => ?_) (fun c44 => ?_)
          · refine z_iload_n dX8_rule_43 rfl ?_
            refine z_iconst dX8_rule_44 ⟨by decide, by decide⟩ ?_
            refine z_icmp_ge (tgt := 61) dX8_rule_45 (by decide) (fun c45 => ?_) (fun c45 => ?_)
            · refine z_iload_n dX8_rule_61 rfl ?_
              refine z_iconst dX8_rule_62 ⟨by decide, by decide⟩ ?_
              refine z_icmp_ne (tgt := 73) dX8_rule_63 (by decide) (fun c46 => ?_) (fun c46 => ?_)
              · refine z_iload_n dX8_rule_73 rfl ?_
                refine z_iconst dX8_rule_74 ⟨by decide, by decide⟩ ?_
                refine z_icmp_ne (tgt := 85) dX8_rule_75 (by decide) (fun c47 => ?_) (fun c47 => ?_)
                · refine z_iload_n dX8_rule_85 rfl ?_
                  refine z_bipush dX8_rule_86 ⟨by decide, by decide⟩ (by decide) ?_
                  refine z_icmp_ne (tgt := 100) dX8_rule_88 (by decide) (fun c48 => ?_) (fun c48 => ?_)
                  · refine z_aload_nr dX8_rule_100 rfl ?_
                    refine z_geti (kz := 20) fl_X8_273 rfl (by decide) rfl dX8_rule_101 (fun x49 hx49 bx49 => ?_)
                    refine z_iret rfl (by decide) rfl (Nat.sub_self _) dX8_rule_104 ?_
                    refine ⟨rfl, ?_⟩
                    first
                    | (unfold rulM; rw [if_pos (by omega)] <;> (first | rfl | assumption | omega))
                    | (unfold rulM; rw [if_neg (by omega), if_pos (by omega)] <;> (first | rfl | assumption | omega))
                    | (unfold rulM; rw [if_neg (by omega), if_neg (by omega), if_pos (by omega)] <;> (first | rfl | assumption | omega))
                    | (unfold rulM; rw [if_neg (by omega), if_neg (by omega), if_neg (by omega), if_pos (by omega)] <;> (first | rfl | assumption | omega))
                    | (unfold rulM; rw [if_neg (by omega), if_neg (by omega), if_neg (by omega), if_neg (by omega), if_pos (by omega)] <;> (first | rfl | assumption | omega))
                    | (unfold rulM; rw [if_neg (by omega), if_neg (by omega), if_neg (by omega), if_neg (by omega), if_neg (by omega), if_pos (by omega)] <;> (first | rfl | assumption | omega))
                    | (unfold rulM; rw [if_neg (by omega), if_neg (by omega), if_neg (by omega), if_neg (by omega), if_neg (by omega), if_neg (by omega)])
                  · refine z_aload_nr dX8_rule_91 rfl ?_
                    refine z_getr (b := 76) fl_X8_56 rfl (by decide) rf_60_19 rfl dX8_rule_92 ?_
                    refine z_iload_n dX8_rule_95 rfl ?_
                    refine z_iald rfl (by decide) (by omega) (by omega) dX8_rule_96 (fun x50 hx50 bx50 => ?_)
                    refine z_goto (tgt := 104) dX8_rule_97 (by decide) ?_
                    refine z_iret rfl (by decide) rfl (Nat.sub_self _) dX8_rule_104 ?_
                    refine ⟨rfl, ?_⟩
                    first
                    | (unfold rulM; rw [if_pos (by omega)] <;> (first | rfl | assumption | omega))
                    | (unfold rulM; rw [if_neg (by omega), if_pos (by omega)] <;> (first | rfl | assumption | omega))
                    | (unfold rulM; rw [if_neg (by omega), if_neg (by omega), if_pos (by omega)] <;> (first | rfl | assumption | omega))
                    | (unfold rulM; rw [if_neg (by omega), if_neg (by omega), if_neg (by omega), if_pos (by omega)] <;> (first | rfl | assumption | omega))
                    | (unfold rulM; rw [if_neg (by omega), if_neg (by omega), if_neg (by omega), if_neg (by omega), if_pos (by omega)] <;> (first | rfl | assumption | omega))
                    | (unfold rulM; rw [if_neg (by omega), if_neg (by omega), if_neg (by omega), if_neg (by omega), if_neg (by omega), if_pos (by omega)] <;> (first | rfl | assumption | omega))
                    | (unfold rulM; rw [if_neg (by omega), if_neg (by omega), if_neg (by omega), if_neg (by omega), if_neg (by omega), if_neg (by omega)])
                · refine z_aload_nr dX8_rule_78 rfl ?_
                  refine z_geti (kz := 18) fl_X8_192 rfl (by decide) rfl dX8_rule_79 (fun x51 hx51 bx51 => ?_)
                  refine z_goto (tgt := 104) dX8_rule_82 (by decide) ?_
                  refine z_iret rfl (by decide) rfl (Nat.sub_self _) dX8_rule_104 ?_
                  refine ⟨rfl, ?_⟩
                  first
                  | (unfold rulM; rw [if_pos (by omega)] <;> (first | rfl | assumption | omega))
                  | (unfold rulM; rw [if_neg (by omega), if_pos (by omega)] <;> (first | rfl | assumption | omega))
                  | (unfold rulM; rw [if_neg (by omega), if_neg (by omega), if_pos (by omega)] <;> (first | rfl | assumption | omega))
                  | (unfold rulM; rw [if_neg (by omega), if_neg (by omega), if_neg (by omega), if_pos (by omega)] <;> (first | rfl | assumption | omega))
                  | (unfold rulM; rw [if_neg (by omega), if_neg (by omega), if_neg (by omega), if_neg (by omega), if_pos (by omega)] <;> (first | rfl | assumption | omega))
                  | (unfold rulM; rw [if_neg (by omega), if_neg (by omega), if_neg (by omega), if_neg (by omega), if_neg (by omega), if_pos (by omega)] <;> (first | rfl | assumption | omega))
                  | (unfold rulM; rw [if_neg (by omega), if_neg (by omega), if_neg (by omega), if_neg (by omega), if_neg (by omega), if_neg (by omega)])
              · refine z_aload_nr dX8_rule_66 rfl ?_
                refine z_geti (kz := 17) fl_X8_189 rfl (by decide) rfl dX8_rule_67 (fun x52 hx52 bx52 => ?_)
                refine z_goto (tgt := 104) dX8_rule_70 (by decide) ?_
                refine z_iret rfl (by decide) rfl (Nat.sub_self _) dX8_rule_104 ?_
                refine ⟨rfl, ?_⟩
                first
                | (unfold rulM; rw [if_pos (by omega)] <;> (first | rfl | assumption | omega))
                | (unfold rulM; rw [if_neg (by omega), if_pos (by omega)] <;> (first | rfl | assumption | omega))
                | (unfold rulM; rw [if_neg (by omega), if_neg (by omega), if_pos (by omega)] <;> (first | rfl | assumption | omega))
                | (unfold rulM; rw [if_neg (by omega), if_neg (by omega), if_neg (by omega), if_pos (by omega)] <;> (first | rfl | assumption | omega))
                | (unfold rulM; rw [if_neg (by omega), if_neg (by omega), if_neg (by omega), if_neg (by omega), if_pos (by omega)] <;> (first | rfl | assumption | omega))
                | (unfold rulM; rw [if_neg (by omega), if_neg (by omega), if_neg (by omega), if_neg (by omega), if_neg (by omega), if_pos (by omega)] <;> (first | rfl | assumption | omega))
                | (unfold rulM; rw [if_neg (by omega), if_neg (by omega), if_neg (by omega), if_neg (by omega), if_neg (by omega), if_neg (by omega)])
            · refine z_aload_nr dX8_rule_48 rfl ?_
              refine z_getr (b := 75) fl_X8_53 rfl (by decide) rf_60_16 rfl dX8_rule_49 ?_
              refine z_iconst dX8_rule_52 ⟨by decide, by decide⟩ ?_
              refine z_iload_n dX8_rule_53 rfl ?_
              first | refine z_imulN dX8_rule_54 (by omega) (fun x53 hx53 => ?_) | refine z_imul dX8_rule_54 (fun x53 hx53 => ?_)
              refine z_iload_n dX8_rule_55 rfl ?_
              first | refine z_iaddN dX8_rule_56 (by omega) (fun x54 hx54 => ?_) | refine z_iadd dX8_rule_56 (fun x54 hx54 => ?_)
              refine z_iald rfl (by decide) (by omega) (by omega) dX8_rule_57 (fun x55 hx55 bx55 => ?_)
              have hix : x55 = M 75 (4 * i + what) := by rw [hx55]; congr 1; omega
              refine z_goto (tgt := 104) dX8_rule_58 (by decide) ?_
              refine z_iret rfl (by decide) rfl (Nat.sub_self _) dX8_rule_104 ?_
              refine ⟨rfl, ?_⟩
              first
              | (unfold rulM; rw [if_pos (by omega)] <;> (first | rfl | assumption | omega))
              | (unfold rulM; rw [if_neg (by omega), if_pos (by omega)] <;> (first | rfl | assumption | omega))
              | (unfold rulM; rw [if_neg (by omega), if_neg (by omega), if_pos (by omega)] <;> (first | rfl | assumption | omega))
              | (unfold rulM; rw [if_neg (by omega), if_neg (by omega), if_neg (by omega), if_pos (by omega)] <;> (first | rfl | assumption | omega))
              | (unfold rulM; rw [if_neg (by omega), if_neg (by omega), if_neg (by omega), if_neg (by omega), if_pos (by omega)] <;> (first | rfl | assumption | omega))
              | (unfold rulM; rw [if_neg (by omega), if_neg (by omega), if_neg (by omega), if_neg (by omega), if_neg (by omega), if_pos (by omega)] <;> (first | rfl | assumption | omega))
              | (unfold rulM; rw [if_neg (by omega), if_neg (by omega), if_neg (by omega), if_neg (by omega), if_neg (by omega), if_neg (by omega)])
          · refine z_ldc (c := -1000001) cn_X8_153 ⟨by decide, by decide⟩ dX8_rule_40 ?_
            refine z_iret rfl (by decide) rfl (Nat.sub_self _) dX8_rule_42 ?_
            refine ⟨rfl, ?_⟩
            first
            | (unfold rulM; rw [if_pos (by omega)] <;> (first | rfl | assumption | omega))
            | (unfold rulM; rw [if_neg (by omega), if_pos (by omega)] <;> (first | rfl | assumption | omega))
            | (unfold rulM; rw [if_neg (by omega), if_neg (by omega), if_pos (by omega)] <;> (first | rfl | assumption | omega))
            | (unfold rulM; rw [if_neg (by omega), if_neg (by omega), if_neg (by omega), if_pos (by omega)] <;> (first | rfl | assumption | omega))
            | (unfold rulM; rw [if_neg (by omega), if_neg (by omega), if_neg (by omega), if_neg (by omega), if_pos (by omega)] <;> (first | rfl | assumption | omega))
            | (unfold rulM; rw [if_neg (by omega), if_neg (by omega), if_neg (by omega), if_neg (by omega), if_neg (by omega), if_pos (by omega)] <;> (first | rfl | assumption | omega))
            | (unfold rulM; rw [if_neg (by omega), if_neg (by omega), if_neg (by omega), if_neg (by omega), if_neg (by omega), if_neg (by omega)])
  · refine z_ldc (c := -1000002) cn_X8_164 ⟨by decide, by decide⟩ dX8_rule_12 ?_
    refine z_iret rfl (by decide) rfl (Nat.sub_self _) dX8_rule_14 ?_
    refine ⟨rfl, ?_⟩
    first
    | (unfold rulM; rw [if_pos (by omega)] <;> (first | rfl | assumption | omega))
    | (unfold rulM; rw [if_neg (by omega), if_pos (by omega)] <;> (first | rfl | assumption | omega))
    | (unfold rulM; rw [if_neg (by omega), if_neg (by omega), if_pos (by omega)] <;> (first | rfl | assumption | omega))
    | (unfold rulM; rw [if_neg (by omega), if_neg (by omega), if_neg (by omega), if_pos (by omega)] <;> (first | rfl | assumption | omega))
    | (unfold rulM; rw [if_neg (by omega), if_neg (by omega), if_neg (by omega), if_neg (by omega), if_pos (by omega)] <;> (first | rfl | assumption | omega))
    | (unfold rulM; rw [if_neg (by omega), if_neg (by omega), if_neg (by omega), if_neg (by omega), if_neg (by omega), if_pos (by omega)] <;> (first | rfl | assumption | omega))
    | (unfold rulM; rw [if_neg (by omega), if_neg (by omega), if_neg (by omega), if_neg (by omega), if_neg (by omega), if_neg (by omega)])
/-- the reference stands as it must: tellings, reddening, rules; nothing left out for a try -/
def MT0 (M : FMem) : Prop := (0 ≤ M 60 0 ∧ M 60 0 ≤ 80) ∧ (∀ i, 0 ≤ i → i < M 60 0 → TelM M i) ∧ RedM M ∧ RulM M
def MT (M : FMem) : Prop := MT0 M ∧ M 60 42 = -1 ∧ M 60 43 = -1 ∧ M 60 44 = -1 ∧ M 60 45 = 0
set_option maxHeartbeats 400000 in
theorem A_X8_told (l : Launch) (g : Cx) (M : FMem) (i what : Int) (hT : MT M) : AMi l g true fi_X8_told [fr 60, fi i, fi what] 93 M (fun r M2 => M2 = M ∧ (fun r => r = toldM M i what) r) := by
  refine AMi_intro [fr 60, fi i, fi what] (by decide) (knall rfl) (Nat.le_of_ble_eq_true rfl) rfl ?_
  intro hNV hM0 μ
  have bi : N32 i := hNV (fi i) (by simp)
  have bwhat : N32 what := hNV (fi what) (by simp)
  refine z_aload_nr dX8_told_0 rfl ?_
  refine z_iload_n dX8_told_1 rfl ?_
  have hT0 := hT.1.1
  have hT2 := hT.2
  refine z_callVip (n2 := 93) (A_X8_noTelling l g M i (hT.1.1)) cb_X8_noTelling cl_X8_181 (clr0 rfl rfl (by decide) (by decide)) rfl (by decide) ⟨_, rfl, rfl⟩ rfl (by decide) rfl (Nat.le_of_ble_eq_true rfl) rfl dX8_told_2 (fun x1 bx1 hx1 => ?_)
  have i1 := if10 hx1
  refine z_if_eq (tgt := 11) dX8_told_5 (by decide) (fun c2 => ?_) (fun c2 => ?_)
  · refine z_iload_n dX8_told_11 rfl ?_
    by_cases s3_0 : what = 0
    · refine z_tableIn (tgt := 56) dX8_told_12 (by omega) (by omega) (by rw [s3_0]; rfl) (by decide) ?_
      refine z_aload_nr dX8_told_56 rfl ?_
      refine z_getr (b := 61) fl_X8_7 rfl (by decide) rf_60_1 rfl dX8_told_57 ?_
      refine z_iload_n dX8_told_60 rfl ?_
      refine z_iald rfl (by decide) (by omega) (by omega) dX8_told_61 (fun x4 hx4 bx4 => ?_)
      refine z_iret rfl (by decide) rfl (Nat.sub_self _) dX8_told_62 ?_
      refine ⟨rfl, ?_⟩
      first
      | (unfold toldM; rw [if_pos (by omega)] <;> (first | rfl | assumption | omega | (split <;> omega)))
      | (unfold toldM; rw [if_neg (by omega), if_pos (by omega)] <;> (first | rfl | assumption | omega | (split <;> omega)))
      | (unfold toldM; rw [if_neg (by omega), if_neg (by omega), if_pos (by omega)] <;> (first | rfl | assumption | omega | (split <;> omega)))
      | (unfold toldM; rw [if_neg (by omega), if_neg (by omega), if_neg (by omega), if_pos (by omega)] <;> (first | rfl | assumption | omega | (split <;> omega)))
      | (unfold toldM; rw [if_neg (by omega), if_neg (by omega), if_neg (by omega), if_neg (by omega), if_pos (by omega)] <;> (first | rfl | assumption | omega | (split <;> omega)))
      | (unfold toldM; rw [if_neg (by omega), if_neg (by omega), if_neg (by omega), if_neg (by omega), if_neg (by omega), if_pos (by omega)] <;> (first | rfl | assumption | omega | (split <;> omega)))
      | (unfold toldM; rw [if_neg (by omega), if_neg (by omega), if_neg (by omega), if_neg (by omega), if_neg (by omega), if_neg (by omega), if_pos (by omega)] <;> (first | rfl | assumption | omega | (split <;> omega)))
      | (unfold toldM; rw [if_neg (by omega), if_neg (by omega), if_neg (by omega), if_neg (by omega), if_neg (by omega), if_neg (by omega), if_neg (by omega), if_pos (by omega)] <;> (first | rfl | assumption | omega | (split <;> omega)))
      | (unfold toldM; rw [if_neg (by omega), if_neg (by omega), if_neg (by omega), if_neg (by omega), if_neg (by omega), if_neg (by omega), if_neg (by omega), if_neg (by omega)])
    by_cases s3_1 : what = 1
    · refine z_tableIn (tgt := 63) dX8_told_12 (by omega) (by omega) (by rw [s3_1]; rfl) (by decide) ?_
      refine z_aload_nr dX8_told_63 rfl ?_
      refine z_getr (b := 62) fl_X8_13 rfl (by decide) rf_60_2 rfl dX8_told_64 ?_
      refine z_iload_n dX8_told_67 rfl ?_
      refine z_iald rfl (by decide) (by omega) (by omega) dX8_told_68 (fun x5 hx5 bx5 => ?_)
      refine z_iret rfl (by decide) rfl (Nat.sub_self _) dX8_told_69 ?_
      refine ⟨rfl, ?_⟩
      first
      | (unfold toldM; rw [if_pos (by omega)] <;> (first | rfl | assumption | omega | (split <;> omega)))
      | (unfold toldM; rw [if_neg (by omega), if_pos (by omega)] <;> (first | rfl | assumption | omega | (split <;> omega)))
      | (unfold toldM; rw [if_neg (by omega), if_neg (by omega), if_pos (by omega)] <;> (first | rfl | assumption | omega | (split <;> omega)))
      | (unfold toldM; rw [if_neg (by omega), if_neg (by omega), if_neg (by omega), if_pos (by omega)] <;> (first | rfl | assumption | omega | (split <;> omega)))
      | (unfold toldM; rw [if_neg (by omega), if_neg (by omega), if_neg (by omega), if_neg (by omega), if_pos (by omega)] <;> (first | rfl | assumption | omega | (split <;> omega)))
      | (unfold toldM; rw [if_neg (by omega), if_neg (by omega), if_neg (by omega), if_neg (by omega), if_neg (by omega), if_pos (by omega)] <;> (first | rfl | assumption | omega | (split <;> omega)))
      | (unfold toldM; rw [if_neg (by omega), if_neg (by omega), if_neg (by omega), if_neg (by omega), if_neg (by omega), if_neg (by omega), if_pos (by omega)] <;> (first | rfl | assumption | omega | (split <;> omega)))
      | (unfold toldM; rw [if_neg (by omega), if_neg (by omega), if_neg (by omega), if_neg (by omega), if_neg (by omega), if_neg (by omega), if_neg (by omega), if_pos (by omega)] <;> (first | rfl | assumption | omega | (split <;> omega)))
      | (unfold toldM; rw [if_neg (by omega), if_neg (by omega), if_neg (by omega), if_neg (by omega), if_neg (by omega), if_neg (by omega), if_neg (by omega), if_neg (by omega)])
    by_cases s3_2 : what = 2
    · refine z_tableIn (tgt := 70) dX8_told_12 (by omega) (by omega) (by rw [s3_2]; rfl) (by decide) ?_
      refine z_aload_nr dX8_told_70 rfl ?_
      refine z_getr (b := 63) fl_X8_16 rfl (by decide) rf_60_3 rfl dX8_told_71 ?_
      refine z_iload_n dX8_told_74 rfl ?_
      refine z_iald rfl (by decide) (by omega) (by omega) dX8_told_75 (fun x6 hx6 bx6 => ?_)
      refine z_iret rfl (by decide) rfl (Nat.sub_self _) dX8_told_76 ?_
      refine ⟨rfl, ?_⟩
      first
      | (unfold toldM; rw [if_pos (by omega)] <;> (first | rfl | assumption | omega | (split <;> omega)))
      | (unfold toldM; rw [if_neg (by omega), if_pos (by omega)] <;> (first | rfl | assumption | omega | (split <;> omega)))
      | (unfold toldM; rw [if_neg (by omega), if_neg (by omega), if_pos (by omega)] <;> (first | rfl | assumption | omega | (split <;> omega)))
      | (unfold toldM; rw [if_neg (by omega), if_neg (by omega), if_neg (by omega), if_pos (by omega)] <;> (first | rfl | assumption | omega | (split <;> omega)))
      | (unfold toldM; rw [if_neg (by omega), if_neg (by omega), if_neg (by omega), if_neg (by omega), if_pos (by omega)] <;> (first | rfl | assumption | omega | (split <;> omega)))
      | (unfold toldM; rw [if_neg (by omega), if_neg (by omega), if_neg (by omega), if_neg (by omega), if_neg (by omega), if_pos (by omega)] <;> (first | rfl | assumption | omega | (split <;> omega)))
      | (unfold toldM; rw [if_neg (by omega), if_neg (by omega), if_neg (by omega), if_neg (by omega), if_neg (by omega), if_neg (by omega), if_pos (by omega)] <;> (first | rfl | assumption | omega | (split <;> omega)))
      | (unfold toldM; rw [if_neg (by omega), if_neg (by omega), if_neg (by omega), if_neg (by omega), if_neg (by omega), if_neg (by omega), if_neg (by omega), if_pos (by omega)] <;> (first | rfl | assumption | omega | (split <;> omega)))
      | (unfold toldM; rw [if_neg (by omega), if_neg (by omega), if_neg (by omega), if_neg (by omega), if_neg (by omega), if_neg (by omega), if_neg (by omega), if_neg (by omega)])
    by_cases s3_3 : what = 3
    · refine z_tableIn (tgt := 77) dX8_told_12 (by omega) (by omega) (by rw [s3_3]; rfl) (by decide) ?_
      refine z_aload_nr dX8_told_77 rfl ?_
      refine z_getr (b := 64) fl_X8_19 rfl (by decide) rf_60_4 rfl dX8_told_78 ?_
      refine z_iload_n dX8_told_81 rfl ?_
      refine z_iald rfl (by decide) (by omega) (by omega) dX8_told_82 (fun x7 hx7 bx7 => ?_)
      refine z_iret rfl (by decide) rfl (Nat.sub_self _) dX8_told_83 ?_
      refine ⟨rfl, ?_⟩
      first
      | (unfold toldM; rw [if_pos (by omega)] <;> (first | rfl | assumption | omega | (split <;> omega)))
      | (unfold toldM; rw [if_neg (by omega), if_pos (by omega)] <;> (first | rfl | assumption | omega | (split <;> omega)))
      | (unfold toldM; rw [if_neg (by omega), if_neg (by omega), if_pos (by omega)] <;> (first | rfl | assumption | omega | (split <;> omega)))
      | (unfold toldM; rw [if_neg (by omega), if_neg (by omega), if_neg (by omega), if_pos (by omega)] <;> (first | rfl | assumption | omega | (split <;> omega)))
      | (unfold toldM; rw [if_neg (by omega), if_neg (by omega), if_neg (by omega), if_neg (by omega), if_pos (by omega)] <;> (first | rfl | assumption | omega | (split <;> omega)))
      | (unfold toldM; rw [if_neg (by omega), if_neg (by omega), if_neg (by omega), if_neg (by omega), if_neg (by omega), if_pos (by omega)] <;> (first | rfl | assumption | omega | (split <;> omega)))
      | (unfold toldM; rw [if_neg (by omega), if_neg (by omega), if_neg (by omega), if_neg (by omega), if_neg (by omega), if_neg (by omega), if_pos (by omega)] <;> (first | rfl | assumption | omega | (split <;> omega)))
      | (unfold toldM; rw [if_neg (by omega), if_neg (by omega), if_neg (by omega), if_neg (by omega), if_neg (by omega), if_neg (by omega), if_neg (by omega), if_pos (by omega)] <;> (first | rfl | assumption | omega | (split <;> omega)))
      | (unfold toldM; rw [if_neg (by omega), if_neg (by omega), if_neg (by omega), if_neg (by omega), if_neg (by omega), if_neg (by omega), if_neg (by omega), if_neg (by omega)])
    by_cases s3_4 : what = 4
    · refine z_tableIn (tgt := 84) dX8_told_12 (by omega) (by omega) (by rw [s3_4]; rfl) (by decide) ?_
      refine z_aload_nr dX8_told_84 rfl ?_
      refine z_iload_n dX8_told_85 rfl ?_
      refine z_aload_nr dX8_told_86 rfl ?_
      refine z_geti (kz := 0) fl_X8_136 rfl (by decide) rfl dX8_told_87 (fun x8 hx8 bx8 => ?_)
      refine z_callVip (n2 := 93) (A_X8_isIn l g M i x8 (by omega)) cb_X8_isIn cl_X8_309 (clr0 rfl rfl (by decide) (by decide)) rfl (by decide) ⟨_, rfl, rfl⟩ rfl (by decide) rfl (Nat.le_of_ble_eq_true rfl) rfl dX8_told_90 (fun x9 bx9 hx9 => ?_)
      have i9 := if01 hx9
      refine z_callSip (n2 := 93) (A_X8_one l g M x9 (by omega)) cb_X8_one cl_X8_184 (clr0 rfl rfl (by decide) (by decide)) rfl (by decide) rfl (Nat.le_of_ble_eq_true rfl) rfl dX8_told_93 (fun x10 bx10 hx10 => ?_)
      have hta := fun (h0 : 0 ≤ i) (h1 : i < M 60 0) => hT.1.2.1 i h0 h1
      unfold TelM TelOk at hta
      have hta := hta (by omega) (by omega)
      refine z_iret rfl (by decide) rfl (Nat.sub_self _) dX8_told_96 ?_
      refine ⟨rfl, ?_⟩
      first
      | (unfold toldM; rw [if_pos (by omega)] <;> (first | rfl | assumption | omega | (split <;> omega)))
      | (unfold toldM; rw [if_neg (by omega), if_pos (by omega)] <;> (first | rfl | assumption | omega | (split <;> omega)))
      | (unfold toldM; rw [if_neg (by omega), if_neg (by omega), if_pos (by omega)] <;> (first | rfl | assumption | omega | (split <;> omega)))
      | (unfold toldM; rw [if_neg (by omega), if_neg (by omega), if_neg (by omega), if_pos (by omega)] <;> (first | rfl | assumption | omega | (split <;> omega)))
      | (unfold toldM; rw [if_neg (by omega), if_neg (by omega), if_neg (by omega), if_neg (by omega), if_pos (by omega)] <;> (first | rfl | assumption | omega | (split <;> omega)))
      | (unfold toldM; rw [if_neg (by omega), if_neg (by omega), if_neg (by omega), if_neg (by omega), if_neg (by omega), if_pos (by omega)] <;> (first | rfl | assumption | omega | (split <;> omega)))
      | (unfold toldM; rw [if_neg (by omega), if_neg (by omega), if_neg (by omega), if_neg (by omega), if_neg (by omega), if_neg (by omega), if_pos (by omega)] <;> (first | rfl | assumption | omega | (split <;> omega)))
      | (unfold toldM; rw [if_neg (by omega), if_neg (by omega), if_neg (by omega), if_neg (by omega), if_neg (by omega), if_neg (by omega), if_neg (by omega), if_pos (by omega)] <;> (first | rfl | assumption | omega | (split <;> omega)))
      | (unfold toldM; rw [if_neg (by omega), if_neg (by omega), if_neg (by omega), if_neg (by omega), if_neg (by omega), if_neg (by omega), if_neg (by omega), if_neg (by omega)])
    by_cases s3_5 : what = 5
    · refine z_tableIn (tgt := 97) dX8_told_12 (by omega) (by omega) (by rw [s3_5]; rfl) (by decide) ?_
      refine z_aload_nr dX8_told_97 rfl ?_
      refine z_iload_n dX8_told_98 rfl ?_
      refine z_callVlp (n2 := 93) (A_X8_lowOf l g M i (by omega) (hT.1.2.1 i (by omega) (by omega)) (hT.1.2.2.1) (hT.1.2.2.2)) cb_X8_lowOf cl_X8_327 (clr0 rfl rfl (by decide) (by decide)) rfl (by decide) ⟨_, rfl, rfl⟩ rfl (by decide) rfl (Nat.le_of_ble_eq_true rfl) rfl dX8_told_99 (fun x11 bx11 hx11 => ?_)
      first | refine z_l2iN dX8_told_102 (by omega) (fun x12 hx12 => ?_) | refine z_l2i dX8_told_102 (fun x12 hx12 => ?_)
      refine z_iret rfl (by decide) rfl (Nat.sub_self _) dX8_told_103 ?_
      refine ⟨rfl, ?_⟩
      first
      | (unfold toldM; rw [if_pos (by omega)] <;> (first | rfl | assumption | omega | (split <;> omega)))
      | (unfold toldM; rw [if_neg (by omega), if_pos (by omega)] <;> (first | rfl | assumption | omega | (split <;> omega)))
      | (unfold toldM; rw [if_neg (by omega), if_neg (by omega), if_pos (by omega)] <;> (first | rfl | assumption | omega | (split <;> omega)))
      | (unfold toldM; rw [if_neg (by omega), if_neg (by omega), if_neg (by omega), if_pos (by omega)] <;> (first | rfl | assumption | omega | (split <;> omega)))
      | (unfold toldM; rw [if_neg (by omega), if_neg (by omega), if_neg (by omega), if_neg (by omega), if_pos (by omega)] <;> (first | rfl | assumption | omega | (split <;> omega)))
      | (unfold toldM; rw [if_neg (by omega), if_neg (by omega), if_neg (by omega), if_neg (by omega), if_neg (by omega), if_pos (by omega)] <;> (first | rfl | assumption | omega | (split <;> omega)))
      | (unfold toldM; rw [if_neg (by omega), if_neg (by omega), if_neg (by omega), if_neg (by omega), if_neg (by omega), if_neg (by omega), if_pos (by omega)] <;> (first | rfl | assumption | omega | (split <;> omega)))
      | (unfold toldM; rw [if_neg (by omega), if_neg (by omega), if_neg (by omega), if_neg (by omega), if_neg (by omega), if_neg (by omega), if_neg (by omega), if_pos (by omega)] <;> (first | rfl | assumption | omega | (split <;> omega)))
      | (unfold toldM; rw [if_neg (by omega), if_neg (by omega), if_neg (by omega), if_neg (by omega), if_neg (by omega), if_neg (by omega), if_neg (by omega), if_neg (by omega)])
    by_cases s3_6 : what = 6
    · refine z_tableIn (tgt := 104) dX8_told_12 (by omega) (by omega) (by rw [s3_6]; rfl) (by decide) ?_
      refine z_aload_nr dX8_told_104 rfl ?_
      refine z_iload_n dX8_told_105 rfl ?_
      refine z_callVlp (n2 := 93) (A_X8_highOf l g M i (by omega) (hT.1.2.1 i (by omega) (by omega)) (hT.1.2.2.1) (hT.1.2.2.2)) cb_X8_highOf cl_X8_319 (clr0 rfl rfl (by decide) (by decide)) rfl (by decide) ⟨_, rfl, rfl⟩ rfl (by decide) rfl (Nat.le_of_ble_eq_true rfl) rfl dX8_told_106 (fun x13 bx13 hx13 => ?_)
      first | refine z_l2iN dX8_told_109 (by omega) (fun x14 hx14 => ?_) | refine z_l2i dX8_told_109 (fun x14 hx14 => ?_)
      refine z_iret rfl (by decide) rfl (Nat.sub_self _) dX8_told_110 ?_
      refine ⟨rfl, ?_⟩
      first
      | (unfold toldM; rw [if_pos (by omega)] <;> (first | rfl | assumption | omega | (split <;> omega)))
      | (unfold toldM; rw [if_neg (by omega), if_pos (by omega)] <;> (first | rfl | assumption | omega | (split <;> omega)))
      | (unfold toldM; rw [if_neg (by omega), if_neg (by omega), if_pos (by omega)] <;> (first | rfl | assumption | omega | (split <;> omega)))
      | (unfold toldM; rw [if_neg (by omega), if_neg (by omega), if_neg (by omega), if_pos (by omega)] <;> (first | rfl | assumption | omega | (split <;> omega)))
      | (unfold toldM; rw [if_neg (by omega), if_neg (by omega), if_neg (by omega), if_neg (by omega), if_pos (by omega)] <;> (first | rfl | assumption | omega | (split <;> omega)))
      | (unfold toldM; rw [if_neg (by omega), if_neg (by omega), if_neg (by omega), if_neg (by omega), if_neg (by omega), if_pos (by omega)] <;> (first | rfl | assumption | omega | (split <;> omega)))
      | (unfold toldM; rw [if_neg (by omega), if_neg (by omega), if_neg (by omega), if_neg (by omega), if_neg (by omega), if_neg (by omega), if_pos (by omega)] <;> (first | rfl | assumption | omega | (split <;> omega)))
      | (unfold toldM; rw [if_neg (by omega), if_neg (by omega), if_neg (by omega), if_neg (by omega), if_neg (by omega), if_neg (by omega), if_neg (by omega), if_pos (by omega)] <;> (first | rfl | assumption | omega | (split <;> omega)))
      | (unfold toldM; rw [if_neg (by omega), if_neg (by omega), if_neg (by omega), if_neg (by omega), if_neg (by omega), if_neg (by omega), if_neg (by omega), if_neg (by omega)])
    refine z_tableOut (tgt := 111) dX8_told_12 (by omega) (by decide) ?_
    refine z_ldc (c := -1000002) cn_X8_164 ⟨by decide, by decide⟩ dX8_told_111 ?_
    refine z_iret rfl (by decide) rfl (Nat.sub_self _) dX8_told_113 ?_
    refine ⟨rfl, ?_⟩
    first
    | (unfold toldM; rw [if_pos (by omega)] <;> (first | rfl | assumption | omega | (split <;> omega)))
    | (unfold toldM; rw [if_neg (by omega), if_pos (by omega)] <;> (first | rfl | assumption | omega | (split <;> omega)))
    | (unfold toldM; rw [if_neg (by omega), if_neg (by omega), if_pos (by omega)] <;> (first | rfl | assumption | omega | (split <;> omega)))
    | (unfold toldM; rw [if_neg (by omega), if_neg (by omega), if_neg (by omega), if_pos (by omega)] <;> (first | rfl | assumption | omega | (split <;> omega)))
    | (unfold toldM; rw [if_neg (by omega), if_neg (by omega), if_neg (by omega), if_neg (by omega), if_pos (by omega)] <;> (first | rfl | assumption | omega | (split <;> omega)))
    | (unfold toldM; rw [if_neg (by omega), if_neg (by omega), if_neg (by omega), if_neg (by omega), if_neg (by omega), if_pos (by omega)] <;> (first | rfl | assumption | omega | (split <;> omega)))
    | (unfold toldM; rw [if_neg (by omega), if_neg (by omega), if_neg (by omega), if_neg (by omega), if_neg (by omega), if_neg (by omega), if_pos (by omega)] <;> (first | rfl | assumption | omega | (split <;> omega)))
    | (unfold toldM; rw [if_neg (by omega), if_neg (by omega), if_neg (by omega), if_neg (by omega), if_neg (by omega), if_neg (by omega), if_neg (by omega), if_pos (by omega)] <;> (first | rfl | assumption | omega | (split <;> omega)))
    | (unfold toldM; rw [if_neg (by omega), if_neg (by omega), if_neg (by omega), if_neg (by omega), if_neg (by omega), if_neg (by omega), if_neg (by omega), if_neg (by omega)])
  · refine z_ldc (c := -1000001) cn_X8_153 ⟨by decide, by decide⟩ dX8_told_8 ?_
    refine z_iret rfl (by decide) rfl (Nat.sub_self _) dX8_told_10 ?_
    refine ⟨rfl, ?_⟩
    first
    | (unfold toldM; rw [if_pos (by omega)] <;> (first | rfl | assumption | omega | (split <;> omega)))
    | (unfold toldM; rw [if_neg (by omega), if_pos (by omega)] <;> (first | rfl | assumption | omega | (split <;> omega)))
    | (unfold toldM; rw [if_neg (by omega), if_neg (by omega), if_pos (by omega)] <;> (first | rfl | assumption | omega | (split <;> omega)))
    | (unfold toldM; rw [if_neg (by omega), if_neg (by omega), if_neg (by omega), if_pos (by omega)] <;> (first | rfl | assumption | omega | (split <;> omega)))
    | (unfold toldM; rw [if_neg (by omega), if_neg (by omega), if_neg (by omega), if_neg (by omega), if_pos (by omega)] <;> (first | rfl | assumption | omega | (split <;> omega)))
    | (unfold toldM; rw [if_neg (by omega), if_neg (by omega), if_neg (by omega), if_neg (by omega), if_neg (by omega), if_pos (by omega)] <;> (first | rfl | assumption | omega | (split <;> omega)))
    | (unfold toldM; rw [if_neg (by omega), if_neg (by omega), if_neg (by omega), if_neg (by omega), if_neg (by omega), if_neg (by omega), if_pos (by omega)] <;> (first | rfl | assumption | omega | (split <;> omega)))
    | (unfold toldM; rw [if_neg (by omega), if_neg (by omega), if_neg (by omega), if_neg (by omega), if_neg (by omega), if_neg (by omega), if_neg (by omega), if_pos (by omega)] <;> (first | rfl | assumption | omega | (split <;> omega)))
    | (unfold toldM; rw [if_neg (by omega), if_neg (by omega), if_neg (by omega), if_neg (by omega), if_neg (by omega), if_neg (by omega), if_neg (by omega), if_neg (by omega)])
