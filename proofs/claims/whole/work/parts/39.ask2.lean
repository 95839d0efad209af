/-! ===== told, count, claim ===== -/
def toldX (M : FMem) (r : Nat) (i what : Int) : Int := if ¬ (0 ≤ i ∧ i < M 1 13) then -1000001 else if what = 0 then M 2 i else if what = 1 then M 3 i else if what = 2 then M 4 i else if what = 3 then M 5 i else if what = 4 then (if M 11 i = 0 ∧ M 10 i = 0 then 1 else 0) else if what = 5 then lowX M r i else if what = 6 then highX M r i else -1000002
def oneX (M : FMem) (what i : Int) : Int := (if what = 0 then b01 (M 11 i = 0 ∧ M 10 i = 0) else if what = 1 then M 10 i else if what = 2 then M 11 i else b01 (M 2 i = 0))
def CntX (M : FMem) (r : Nat) (S : (Int → Int) → Prop) (what q : Int) : Prop := if what = 0 then q = M 1 13 else if what = 1 then q = sumI (oneX M 0) (M 1 13) else if what = 2 then q = sumI (oneX M 1) (M 1 13) else if what = 3 then q = sumI (oneX M 2) (M 1 13) else if what = 4 then ALoose S q else if what = 5 then q = M r 11 else if what = 6 then q = M 17 1 else if what = 7 then q = M 0 10 else if what = 8 then q = sumI (oneX M 3) (M 1 13) else q = -1000002
def ClmX (M : FMem) (r : Nat) (S : (Int → Int) → Prop) (i what q : Int) : Prop := if ¬ (0 ≤ i ∧ i < M r 11) then q = -1000001 else if what = 0 then AClaim S (M (r + 6) i) (M (r + 7) i) (M (r + 8) i) q else if what = 1 then q = M (r + 6) i else if what = 2 then q = M (r + 7) i else if what = 3 then q = M (r + 8) i else q = -1000002
set_option maxHeartbeats 400000 in
theorem A_X7_told42 (l : Launch) (g : Cx) (M : FMem) (i what : Int) (hT : XT M 42) : AMi l g true fi_X7_told [fr 0, fi i, fi what] 93 M (fun r M2 => M2 = M ∧ (fun q => q = toldX M 42 i what) r) := by
  refine AMi_intro [fr 0, fi i, fi what] (by decide) (knall rfl) (Nat.le_of_ble_eq_true rfl) rfl ?_
  intro hNV hM0 μ
  have bi : N32 i := hNV (fi i) (by simp)
  have bwhat : N32 what := hNV (fi what) (by simp)
  have hts := hT.1
  unfold toldX
  refine z_aload_nr dX7_told_0 rfl ?_
  refine z_getr (b := 1) fl_X7_10 rfl (by decide) rf_0_0 rfl dX7_told_1 ?_
  refine z_iload_n dX7_told_4 rfl ?_
  refine z_callVip (n2 := 93) (A_X5_has l g M i) cb_X5_has cl_X7_116 (clr0 rfl rfl (by decide) (by decide)) rfl (by decide) ⟨_, rfl, rfl⟩ rfl (by decide) rfl (Nat.le_of_ble_eq_true rfl) rfl dX7_told_5 (fun x1 bx1 hx1 => ?_)
  have i1 := if01 hx1
  refine z_if_ne (tgt := 14) dX7_told_8 (by decide) (fun c2 => ?_) (fun c2 => ?_)
  · refine z_iload_n dX7_told_14 rfl ?_
    by_cases s3_0 : what = 0
    · refine z_tableIn (tgt := 56) dX7_told_15 (by omega) (by omega) (by rw [s3_0]; rfl) (by decide) ?_
      refine z_aload_nr dX7_told_56 rfl ?_
      refine z_getr (b := 1) fl_X7_10 rfl (by decide) rf_0_0 rfl dX7_told_57 ?_
      refine z_getr (b := 2) fl_X7_135 rfl (by decide) rf_1_0 rfl dX7_told_60 ?_
      refine z_iload_n dX7_told_63 rfl ?_
      refine z_iald rfl (by decide) (by omega) (by omega) dX7_told_64 (fun x4 hx4 bx4 => ?_)
      refine z_iret rfl (by decide) rfl (Nat.sub_self _) dX7_told_65 ?_
      refine ⟨rfl, ?_⟩
      rw [if_neg (by omega)]
      first | (rw [if_pos (by omega)]; first | done | omega) | (rw [if_neg (by omega), if_pos (by omega)]; first | done | omega) | (rw [if_neg (by omega), if_neg (by omega), if_pos (by omega)]; first | done | omega) | (rw [if_neg (by omega), if_neg (by omega), if_neg (by omega), if_pos (by omega)]; first | done | omega) | (rw [if_neg (by omega), if_neg (by omega), if_neg (by omega), if_neg (by omega), if_pos (by omega)]; first | done | omega) | (rw [if_neg (by omega), if_neg (by omega), if_neg (by omega), if_neg (by omega), if_neg (by omega), if_pos (by omega)]; first | done | omega) | (rw [if_neg (by omega), if_neg (by omega), if_neg (by omega), if_neg (by omega), if_neg (by omega), if_neg (by omega), if_pos (by omega)]; first | done | omega) | (rw [if_neg (by omega), if_neg (by omega), if_neg (by omega), if_neg (by omega), if_neg (by omega), if_neg (by omega), if_neg (by omega)]; first | done | omega)
    by_cases s3_1 : what = 1
    · refine z_tableIn (tgt := 66) dX7_told_15 (by omega) (by omega) (by rw [s3_1]; rfl) (by decide) ?_
      refine z_aload_nr dX7_told_66 rfl ?_
      refine z_getr (b := 1) fl_X7_10 rfl (by decide) rf_0_0 rfl dX7_told_67 ?_
      refine z_getr (b := 3) fl_X7_138 rfl (by decide) rf_1_1 rfl dX7_told_70 ?_
      refine z_iload_n dX7_told_73 rfl ?_
      refine z_iald rfl (by decide) (by omega) (by omega) dX7_told_74 (fun x5 hx5 bx5 => ?_)
      refine z_iret rfl (by decide) rfl (Nat.sub_self _) dX7_told_75 ?_
      refine ⟨rfl, ?_⟩
      rw [if_neg (by omega)]
      first | (rw [if_pos (by omega)]; first | done | omega) | (rw [if_neg (by omega), if_pos (by omega)]; first | done | omega) | (rw [if_neg (by omega), if_neg (by omega), if_pos (by omega)]; first | done | omega) | (rw [if_neg (by omega), if_neg (by omega), if_neg (by omega), if_pos (by omega)]; first | done | omega) | (rw [if_neg (by omega), if_neg (by omega), if_neg (by omega), if_neg (by omega), if_pos (by omega)]; first | done | omega) | (rw [if_neg (by omega), if_neg (by omega), if_neg (by omega), if_neg (by omega), if_neg (by omega), if_pos (by omega)]; first | done | omega) | (rw [if_neg (by omega), if_neg (by omega), if_neg (by omega), if_neg (by omega), if_neg (by omega), if_neg (by omega), if_pos (by omega)]; first | done | omega) | (rw [if_neg (by omega), if_neg (by omega), if_neg (by omega), if_neg (by omega), if_neg (by omega), if_neg (by omega), if_neg (by omega)]; first | done | omega)
    by_cases s3_2 : what = 2
    · refine z_tableIn (tgt := 76) dX7_told_15 (by omega) (by omega) (by rw [s3_2]; rfl) (by decide) ?_
      refine z_aload_nr dX7_told_76 rfl ?_
      refine z_getr (b := 1) fl_X7_10 rfl (by decide) rf_0_0 rfl dX7_told_77 ?_
      refine z_getr (b := 4) fl_X7_141 rfl (by decide) rf_1_2 rfl dX7_told_80 ?_
      refine z_iload_n dX7_told_83 rfl ?_
      refine z_iald rfl (by decide) (by omega) (by omega) dX7_told_84 (fun x6 hx6 bx6 => ?_)
      refine z_iret rfl (by decide) rfl (Nat.sub_self _) dX7_told_85 ?_
      refine ⟨rfl, ?_⟩
      rw [if_neg (by omega)]
      first | (rw [if_pos (by omega)]; first | done | omega) | (rw [if_neg (by omega), if_pos (by omega)]; first | done | omega) | (rw [if_neg (by omega), if_neg (by omega), if_pos (by omega)]; first | done | omega) | (rw [if_neg (by omega), if_neg (by omega), if_neg (by omega), if_pos (by omega)]; first | done | omega) | (rw [if_neg (by omega), if_neg (by omega), if_neg (by omega), if_neg (by omega), if_pos (by omega)]; first | done | omega) | (rw [if_neg (by omega), if_neg (by omega), if_neg (by omega), if_neg (by omega), if_neg (by omega), if_pos (by omega)]; first | done | omega) | (rw [if_neg (by omega), if_neg (by omega), if_neg (by omega), if_neg (by omega), if_neg (by omega), if_neg (by omega), if_pos (by omega)]; first | done | omega) | (rw [if_neg (by omega), if_neg (by omega), if_neg (by omega), if_neg (by omega), if_neg (by omega), if_neg (by omega), if_neg (by omega)]; first | done | omega)
    by_cases s3_3 : what = 3
    · refine z_tableIn (tgt := 86) dX7_told_15 (by omega) (by omega) (by rw [s3_3]; rfl) (by decide) ?_
      refine z_aload_nr dX7_told_86 rfl ?_
      refine z_getr (b := 1) fl_X7_10 rfl (by decide) rf_0_0 rfl dX7_told_87 ?_
      refine z_getr (b := 5) fl_X7_144 rfl (by decide) rf_1_3 rfl dX7_told_90 ?_
      refine z_iload_n dX7_told_93 rfl ?_
      refine z_iald rfl (by decide) (by omega) (by omega) dX7_told_94 (fun x7 hx7 bx7 => ?_)
      refine z_iret rfl (by decide) rfl (Nat.sub_self _) dX7_told_95 ?_
      refine ⟨rfl, ?_⟩
      rw [if_neg (by omega)]
      first | (rw [if_pos (by omega)]; first | done | omega) | (rw [if_neg (by omega), if_pos (by omega)]; first | done | omega) | (rw [if_neg (by omega), if_neg (by omega), if_pos (by omega)]; first | done | omega) | (rw [if_neg (by omega), if_neg (by omega), if_neg (by omega), if_pos (by omega)]; first | done | omega) | (rw [if_neg (by omega), if_neg (by omega), if_neg (by omega), if_neg (by omega), if_pos (by omega)]; first | done | omega) | (rw [if_neg (by omega), if_neg (by omega), if_neg (by omega), if_neg (by omega), if_neg (by omega), if_pos (by omega)]; first | done | omega) | (rw [if_neg (by omega), if_neg (by omega), if_neg (by omega), if_neg (by omega), if_neg (by omega), if_neg (by omega), if_pos (by omega)]; first | done | omega) | (rw [if_neg (by omega), if_neg (by omega), if_neg (by omega), if_neg (by omega), if_neg (by omega), if_neg (by omega), if_neg (by omega)]; first | done | omega)
    by_cases s3_4 : what = 4
    · refine z_tableIn (tgt := 96) dX7_told_15 (by omega) (by omega) (by rw [s3_4]; rfl) (by decide) ?_
      refine z_aload_nr dX7_told_96 rfl ?_
      refine z_getr (b := 1) fl_X7_10 rfl (by decide) rf_0_0 rfl dX7_told_97 ?_
      refine z_iload_n dX7_told_100 rfl ?_
      refine z_callVip (n2 := 93) (A_X5_isInNet l g M i (by omega)) cb_X5_isInNet cl_X7_147 (clr0 rfl rfl (by decide) (by decide)) rfl (by decide) ⟨_, rfl, rfl⟩ rfl (by decide) rfl (Nat.le_of_ble_eq_true rfl) rfl dX7_told_101 (fun x8 bx8 hx8 => ?_)
      have i8 := if01 hx8
      refine z_callSip (n2 := 93) (A_X7_asNumber l g M x8 (by omega)) cb_X7_asNumber cl_X7_123 (clr0 rfl rfl (by decide) (by decide)) rfl (by decide) rfl (Nat.le_of_ble_eq_true rfl) rfl dX7_told_104 (fun x9 bx9 hx9 => ?_)
      have has := hx9
      refine z_iret rfl (by decide) rfl (Nat.sub_self _) dX7_told_107 ?_
      refine ⟨rfl, ?_⟩
      rw [if_neg (by omega)]
      first | (rw [if_pos (by omega)]; first | done | omega) | (rw [if_neg (by omega), if_pos (by omega)]; first | done | omega) | (rw [if_neg (by omega), if_neg (by omega), if_pos (by omega)]; first | done | omega) | (rw [if_neg (by omega), if_neg (by omega), if_neg (by omega), if_pos (by omega)]; first | done | omega) | (rw [if_neg (by omega), if_neg (by omega), if_neg (by omega), if_neg (by omega), if_pos (by omega)]; first | done | omega) | (rw [if_neg (by omega), if_neg (by omega), if_neg (by omega), if_neg (by omega), if_neg (by omega), if_pos (by omega)]; first | done | omega) | (rw [if_neg (by omega), if_neg (by omega), if_neg (by omega), if_neg (by omega), if_neg (by omega), if_neg (by omega), if_pos (by omega)]; first | done | omega) | (rw [if_neg (by omega), if_neg (by omega), if_neg (by omega), if_neg (by omega), if_neg (by omega), if_neg (by omega), if_neg (by omega)]; first | done | omega)
    by_cases s3_5 : what = 5
    · refine z_tableIn (tgt := 108) dX7_told_15 (by omega) (by omega) (by rw [s3_5]; rfl) (by decide) ?_
      refine z_aload_nr dX7_told_108 rfl ?_
      refine z_iload_n dX7_told_109 rfl ?_
      refine z_callVip (n2 := 93) (A_X7_lowOf42 l g M i (by omega) (hT.2.1 i (by omega) (by omega)) (hT.2.2.1) (hT.2.2.2.1) (hT.2.2.2.2)) cb_X7_lowOf cl_X7_150 (clr0 rfl rfl (by decide) (by decide)) rfl (by decide) ⟨_, rfl, rfl⟩ rfl (by decide) rfl (Nat.le_of_ble_eq_true rfl) rfl dX7_told_110 (fun x10 bx10 hx10 => ?_)
      have hlo := hx10.1
      refine z_iret rfl (by decide) rfl (Nat.sub_self _) dX7_told_113 ?_
      refine ⟨rfl, ?_⟩
      rw [if_neg (by omega)]
      first | (rw [if_pos (by omega)]; first | done | omega) | (rw [if_neg (by omega), if_pos (by omega)]; first | done | omega) | (rw [if_neg (by omega), if_neg (by omega), if_pos (by omega)]; first | done | omega) | (rw [if_neg (by omega), if_neg (by omega), if_neg (by omega), if_pos (by omega)]; first | done | omega) | (rw [if_neg (by omega), if_neg (by omega), if_neg (by omega), if_neg (by omega), if_pos (by omega)]; first | done | omega) | (rw [if_neg (by omega), if_neg (by omega), if_neg (by omega), if_neg (by omega), if_neg (by omega), if_pos (by omega)]; first | done | omega) | (rw [if_neg (by omega), if_neg (by omega), if_neg (by omega), if_neg (by omega), if_neg (by omega), if_neg (by omega), if_pos (by omega)]; first | done | omega) | (rw [if_neg (by omega), if_neg (by omega), if_neg (by omega), if_neg (by omega), if_neg (by omega), if_neg (by omega), if_neg (by omega)]; first | done | omega)
    by_cases s3_6 : what = 6
    · refine z_tableIn (tgt := 114) dX7_told_15 (by omega) (by omega) (by rw [s3_6]; rfl) (by decide) ?_
      refine z_aload_nr dX7_told_114 rfl ?_
      refine z_iload_n dX7_told_115 rfl ?_
      refine z_callVip (n2 := 93) (A_X7_highOf42 l g M i (by omega) (hT.2.1 i (by omega) (by omega)) (hT.2.2.1) (hT.2.2.2.1) (hT.2.2.2.2)) cb_X7_highOf cl_X7_154 (clr0 rfl rfl (by decide) (by decide)) rfl (by decide) ⟨_, rfl, rfl⟩ rfl (by decide) rfl (Nat.le_of_ble_eq_true rfl) rfl dX7_told_116 (fun x11 bx11 hx11 => ?_)
      have hlo := hx11.1
      refine z_iret rfl (by decide) rfl (Nat.sub_self _) dX7_told_119 ?_
      refine ⟨rfl, ?_⟩
      rw [if_neg (by omega)]
      first | (rw [if_pos (by omega)]; first | done | omega) | (rw [if_neg (by omega), if_pos (by omega)]; first | done | omega) | (rw [if_neg (by omega), if_neg (by omega), if_pos (by omega)]; first | done | omega) | (rw [if_neg (by omega), if_neg (by omega), if_neg (by omega), if_pos (by omega)]; first | done | omega) | (rw [if_neg (by omega), if_neg (by omega), if_neg (by omega), if_neg (by omega), if_pos (by omega)]; first | done | omega) | (rw [if_neg (by omega), if_neg (by omega), if_neg (by omega), if_neg (by omega), if_neg (by omega), if_pos (by omega)]; first | done | omega) | (rw [if_neg (by omega), if_neg (by omega), if_neg (by omega), if_neg (by omega), if_neg (by omega), if_neg (by omega), if_pos (by omega)]; first | done | omega) | (rw [if_neg (by omega), if_neg (by omega), if_neg (by omega), if_neg (by omega), if_neg (by omega), if_neg (by omega), if_neg (by omega)]; first | done | omega)
    refine z_tableOut (tgt := 120) dX7_told_15 (by omega) (by decide) ?_
    refine z_ldc (c := -1000002) cn_X7_87 ⟨by decide, by decide⟩ dX7_told_120 ?_
    refine z_iret rfl (by decide) rfl (Nat.sub_self _) dX7_told_122 ?_
    refine ⟨rfl, ?_⟩
    rw [if_neg (by omega)]
    first | (rw [if_pos (by omega)]; first | done | rfl) | (rw [if_neg (by omega), if_pos (by omega)]; first | done | rfl) | (rw [if_neg (by omega), if_neg (by omega), if_pos (by omega)]; first | done | rfl) | (rw [if_neg (by omega), if_neg (by omega), if_neg (by omega), if_pos (by omega)]; first | done | rfl) | (rw [if_neg (by omega), if_neg (by omega), if_neg (by omega), if_neg (by omega), if_pos (by omega)]; first | done | rfl) | (rw [if_neg (by omega), if_neg (by omega), if_neg (by omega), if_neg (by omega), if_neg (by omega), if_pos (by omega)]; first | done | rfl) | (rw [if_neg (by omega), if_neg (by omega), if_neg (by omega), if_neg (by omega), if_neg (by omega), if_neg (by omega), if_pos (by omega)]; first | done | rfl) | (rw [if_neg (by omega), if_neg (by omega), if_neg (by omega), if_neg (by omega), if_neg (by omega), if_neg (by omega), if_neg (by omega)]; first | done | rfl)
  · refine z_ldc (c := -1000001) cn_X7_82 ⟨by decide, by decide⟩ dX7_told_11 ?_
    refine z_iret rfl (by decide) rfl (Nat.sub_self _) dX7_told_13 ?_
    refine ⟨rfl, ?_⟩
    rw [if_pos (by omega)]
set_option maxHeartbeats 400000 in
theorem A_X7_count42 (l : Launch) (g : Cx) (M : FMem) (what : Int) (hT : XT M 42) : AMi l g true fi_X7_count [fr 0, fi what] 93 M (fun q M2 => OffX M M2 ∧ CntX M 42 (SolT M 42 (M 1 13) (-1) (-1) (-1) 0) what q) := by
  refine AMi_intro [fr 0, fi what] (by decide) (knall rfl) (Nat.le_of_ble_eq_true rfl) rfl ?_
  intro hNV hM0 μ
  have bwhat : N32 what := hNV (fi what) (by simp)
  have hts := hT.1
  unfold CntX
  refine z_iload_n dX7_count_0 rfl ?_
  by_cases s1_0 : what = 0
  · refine z_tableIn (tgt := 52) dX7_count_1 (by omega) (by omega) (by rw [s1_0]; rfl) (by decide) ?_
    refine z_aload_nr dX7_count_52 rfl ?_
    refine z_getr (b := 1) fl_X7_10 rfl (by decide) rf_0_0 rfl dX7_count_53 ?_
    refine z_geti (kz := 13) fl_X7_157 rfl (by decide) rfl dX7_count_56 (fun x2 hx2 bx2 => ?_)
    refine z_iret rfl (by decide) rfl (Nat.sub_self _) dX7_count_59 ?_
    refine ⟨OffX_rfl M, ?_⟩
    first | (rw [if_pos (by omega)]; first | done | omega) | (rw [if_neg (by omega), if_pos (by omega)]; first | done | omega) | (rw [if_neg (by omega), if_neg (by omega), if_pos (by omega)]; first | done | omega) | (rw [if_neg (by omega), if_neg (by omega), if_neg (by omega), if_pos (by omega)]; first | done | omega) | (rw [if_neg (by omega), if_neg (by omega), if_neg (by omega), if_neg (by omega), if_pos (by omega)]; first | done | omega) | (rw [if_neg (by omega), if_neg (by omega), if_neg (by omega), if_neg (by omega), if_neg (by omega), if_pos (by omega)]; first | done | omega) | (rw [if_neg (by omega), if_neg (by omega), if_neg (by omega), if_neg (by omega), if_neg (by omega), if_neg (by omega), if_pos (by omega)]; first | done | omega) | (rw [if_neg (by omega), if_neg (by omega), if_neg (by omega), if_neg (by omega), if_neg (by omega), if_neg (by omega), if_neg (by omega), if_pos (by omega)]; first | done | omega) | (rw [if_neg (by omega), if_neg (by omega), if_neg (by omega), if_neg (by omega), if_neg (by omega), if_neg (by omega), if_neg (by omega), if_neg (by omega), if_pos (by omega)]; first | done | omega) | (rw [if_neg (by omega), if_neg (by omega), if_neg (by omega), if_neg (by omega), if_neg (by omega), if_neg (by omega), if_neg (by omega), if_neg (by omega), if_neg (by omega)]; first | done | omega)
  by_cases s1_1 : what = 1
  · refine z_tableIn (tgt := 60) dX7_count_1 (by omega) (by omega) (by rw [s1_1]; rfl) (by decide) ?_
    refine z_aload_nr dX7_count_60 rfl ?_
    refine z_getr (b := 1) fl_X7_10 rfl (by decide) rf_0_0 rfl dX7_count_61 ?_
    refine z_iconst dX7_count_64 ⟨by decide, by decide⟩ ?_
    refine z_callVip (n2 := 93) (A_X5_howMany l g M 0 (by omega)) cb_X5_howMany cl_X7_160 (clr0 rfl rfl (by decide) (by decide)) rfl (by decide) ⟨_, rfl, rfl⟩ rfl (by decide) rfl (Nat.le_of_ble_eq_true rfl) rfl dX7_count_65 (fun x3 bx3 hx3 => ?_)
    have hq := hx3
    refine z_iret rfl (by decide) rfl (Nat.sub_self _) dX7_count_68 ?_
    refine ⟨OffX_rfl M, ?_⟩
    first | (rw [if_pos (by omega)]; first | done | exact hq) | (rw [if_neg (by omega), if_pos (by omega)]; first | done | exact hq) | (rw [if_neg (by omega), if_neg (by omega), if_pos (by omega)]; first | done | exact hq) | (rw [if_neg (by omega), if_neg (by omega), if_neg (by omega), if_pos (by omega)]; first | done | exact hq) | (rw [if_neg (by omega), if_neg (by omega), if_neg (by omega), if_neg (by omega), if_pos (by omega)]; first | done | exact hq) | (rw [if_neg (by omega), if_neg (by omega), if_neg (by omega), if_neg (by omega), if_neg (by omega), if_pos (by omega)]; first | done | exact hq) | (rw [if_neg (by omega), if_neg (by omega), if_neg (by omega), if_neg (by omega), if_neg (by omega), if_neg (by omega), if_pos (by omega)]; first | done | exact hq) | (rw [if_neg (by omega), if_neg (by omega), if_neg (by omega), if_neg (by omega), if_neg (by omega), if_neg (by omega), if_neg (by omega), if_pos (by omega)]; first | done | exact hq) | (rw [if_neg (by omega), if_neg (by omega), if_neg (by omega), if_neg (by omega), if_neg (by omega), if_neg (by omega), if_neg (by omega), if_neg (by omega), if_pos (by omega)]; first | done | exact hq) | (rw [if_neg (by omega), if_neg (by omega), if_neg (by omega), if_neg (by omega), if_neg (by omega), if_neg (by omega), if_neg (by omega), if_neg (by omega), if_neg (by omega)]; first | done | exact hq)
  by_cases s1_2 : what = 2
  · refine z_tableIn (tgt := 69) dX7_count_1 (by omega) (by omega) (by rw [s1_2]; rfl) (by decide) ?_
    refine z_aload_nr dX7_count_69 rfl ?_
    refine z_getr (b := 1) fl_X7_10 rfl (by decide) rf_0_0 rfl dX7_count_70 ?_
    refine z_iconst dX7_count_73 ⟨by decide, by decide⟩ ?_
    refine z_callVip (n2 := 93) (A_X5_howMany l g M 1 (by omega)) cb_X5_howMany cl_X7_160 (clr0 rfl rfl (by decide) (by decide)) rfl (by decide) ⟨_, rfl, rfl⟩ rfl (by decide) rfl (Nat.le_of_ble_eq_true rfl) rfl dX7_count_74 (fun x4 bx4 hx4 => ?_)
    have hq := hx4
    refine z_iret rfl (by decide) rfl (Nat.sub_self _) dX7_count_77 ?_
    refine ⟨OffX_rfl M, ?_⟩
    first | (rw [if_pos (by omega)]; first | done | exact hq) | (rw [if_neg (by omega), if_pos (by omega)]; first | done | exact hq) | (rw [if_neg (by omega), if_neg (by omega), if_pos (by omega)]; first | done | exact hq) | (rw [if_neg (by omega), if_neg (by omega), if_neg (by omega), if_pos (by omega)]; first | done | exact hq) | (rw [if_neg (by omega), if_neg (by omega), if_neg (by omega), if_neg (by omega), if_pos (by omega)]; first | done | exact hq) | (rw [if_neg (by omega), if_neg (by omega), if_neg (by omega), if_neg (by omega), if_neg (by omega), if_pos (by omega)]; first | done | exact hq) | (rw [if_neg (by omega), if_neg (by omega), if_neg (by omega), if_neg (by omega), if_neg (by omega), if_neg (by omega), if_pos (by omega)]; first | done | exact hq) | (rw [if_neg (by omega), if_neg (by omega), if_neg (by omega), if_neg (by omega), if_neg (by omega), if_neg (by omega), if_neg (by omega), if_pos (by omega)]; first | done | exact hq) | (rw [if_neg (by omega), if_neg (by omega), if_neg (by omega), if_neg (by omega), if_neg (by omega), if_neg (by omega), if_neg (by omega), if_neg (by omega), if_pos (by omega)]; first | done | exact hq) | (rw [if_neg (by omega), if_neg (by omega), if_neg (by omega), if_neg (by omega), if_neg (by omega), if_neg (by omega), if_neg (by omega), if_neg (by omega), if_neg (by omega)]; first | done | exact hq)
  by_cases s1_3 : what = 3
  · refine z_tableIn (tgt := 78) dX7_count_1 (by omega) (by omega) (by rw [s1_3]; rfl) (by decide) ?_
    refine z_aload_nr dX7_count_78 rfl ?_
    refine z_getr (b := 1) fl_X7_10 rfl (by decide) rf_0_0 rfl dX7_count_79 ?_
    refine z_iconst dX7_count_82 ⟨by decide, by decide⟩ ?_
    refine z_callVip (n2 := 93) (A_X5_howMany l g M 2 (by omega)) cb_X5_howMany cl_X7_160 (clr0 rfl rfl (by decide) (by decide)) rfl (by decide) ⟨_, rfl, rfl⟩ rfl (by decide) rfl (Nat.le_of_ble_eq_true rfl) rfl dX7_count_83 (fun x5 bx5 hx5 => ?_)
    have hq := hx5
    refine z_iret rfl (by decide) rfl (Nat.sub_self _) dX7_count_86 ?_
    refine ⟨OffX_rfl M, ?_⟩
    first | (rw [if_pos (by omega)]; first | done | exact hq) | (rw [if_neg (by omega), if_pos (by omega)]; first | done | exact hq) | (rw [if_neg (by omega), if_neg (by omega), if_pos (by omega)]; first | done | exact hq) | (rw [if_neg (by omega), if_neg (by omega), if_neg (by omega), if_pos (by omega)]; first | done | exact hq) | (rw [if_neg (by omega), if_neg (by omega), if_neg (by omega), if_neg (by omega), if_pos (by omega)]; first | done | exact hq) | (rw [if_neg (by omega), if_neg (by omega), if_neg (by omega), if_neg (by omega), if_neg (by omega), if_pos (by omega)]; first | done | exact hq) | (rw [if_neg (by omega), if_neg (by omega), if_neg (by omega), if_neg (by omega), if_neg (by omega), if_neg (by omega), if_pos (by omega)]; first | done | exact hq) | (rw [if_neg (by omega), if_neg (by omega), if_neg (by omega), if_neg (by omega), if_neg (by omega), if_neg (by omega), if_neg (by omega), if_pos (by omega)]; first | done | exact hq) | (rw [if_neg (by omega), if_neg (by omega), if_neg (by omega), if_neg (by omega), if_neg (by omega), if_neg (by omega), if_neg (by omega), if_neg (by omega), if_pos (by omega)]; first | done | exact hq) | (rw [if_neg (by omega), if_neg (by omega), if_neg (by omega), if_neg (by omega), if_neg (by omega), if_neg (by omega), if_neg (by omega), if_neg (by omega), if_neg (by omega)]; first | done | exact hq)
  by_cases s1_4 : what = 4
  · refine z_tableIn (tgt := 87) dX7_count_1 (by omega) (by omega) (by rw [s1_4]; rfl) (by decide) ?_
    refine z_aload_nr dX7_count_87 rfl ?_
    refine z_callVi (n2 := 93) (A_X7_howManyLoose42 l g M (hT)) cb_X7_howManyLoose cl_X7_163 (clr0 rfl rfl (by decide) (by decide)) rfl (by decide) ⟨_, rfl, rfl⟩ rfl (by decide) rfl (Nat.le_of_ble_eq_true rfl) rfl dX7_count_88 (fun x6 Mz6 bx6 kMz6 hc6 => ?_)
    have hq := hc6
    refine z_iret rfl (by decide) rfl (Nat.sub_self _) dX7_count_91 ?_
    refine ⟨hq.1, ?_⟩
    rw [if_neg (by omega), if_neg (by omega), if_neg (by omega), if_neg (by omega), if_pos (by omega)]
    exact hq.2
  by_cases s1_5 : what = 5
  · refine z_tableIn (tgt := 92) dX7_count_1 (by omega) (by omega) (by rw [s1_5]; rfl) (by decide) ?_
    refine z_aload_nr dX7_count_92 rfl ?_
    refine z_getv (b := 42) (kz := 6) fl_X7_54 rfl (by decide) rfl (fun _ => hT.2.2.1) dX7_count_93 ?_
    refine z_geti (kz := 11) fl_X7_166 rfl (by decide) rfl dX7_count_96 (fun x7 hx7 bx7 => ?_)
    refine z_iret rfl (by decide) rfl (Nat.sub_self _) dX7_count_99 ?_
    refine ⟨OffX_rfl M, ?_⟩
    first | (rw [if_pos (by omega)]; first | done | omega) | (rw [if_neg (by omega), if_pos (by omega)]; first | done | omega) | (rw [if_neg (by omega), if_neg (by omega), if_pos (by omega)]; first | done | omega) | (rw [if_neg (by omega), if_neg (by omega), if_neg (by omega), if_pos (by omega)]; first | done | omega) | (rw [if_neg (by omega), if_neg (by omega), if_neg (by omega), if_neg (by omega), if_pos (by omega)]; first | done | omega) | (rw [if_neg (by omega), if_neg (by omega), if_neg (by omega), if_neg (by omega), if_neg (by omega), if_pos (by omega)]; first | done | omega) | (rw [if_neg (by omega), if_neg (by omega), if_neg (by omega), if_neg (by omega), if_neg (by omega), if_neg (by omega), if_pos (by omega)]; first | done | omega) | (rw [if_neg (by omega), if_neg (by omega), if_neg (by omega), if_neg (by omega), if_neg (by omega), if_neg (by omega), if_neg (by omega), if_pos (by omega)]; first | done | omega) | (rw [if_neg (by omega), if_neg (by omega), if_neg (by omega), if_neg (by omega), if_neg (by omega), if_neg (by omega), if_neg (by omega), if_neg (by omega), if_pos (by omega)]; first | done | omega) | (rw [if_neg (by omega), if_neg (by omega), if_neg (by omega), if_neg (by omega), if_neg (by omega), if_neg (by omega), if_neg (by omega), if_neg (by omega), if_neg (by omega)]; first | done | omega)
  by_cases s1_6 : what = 6
  · refine z_tableIn (tgt := 100) dX7_count_1 (by omega) (by omega) (by rw [s1_6]; rfl) (by decide) ?_
    refine z_aload_nr dX7_count_100 rfl ?_
    refine z_getr (b := 17) fl_X7_26 rfl (by decide) rf_0_2 rfl dX7_count_101 ?_
    refine z_geti (kz := 1) fl_X7_169 rfl (by decide) rfl dX7_count_104 (fun x8 hx8 bx8 => ?_)
    refine z_iret rfl (by decide) rfl (Nat.sub_self _) dX7_count_107 ?_
    refine ⟨OffX_rfl M, ?_⟩
    first | (rw [if_pos (by omega)]; first | done | omega) | (rw [if_neg (by omega), if_pos (by omega)]; first | done | omega) | (rw [if_neg (by omega), if_neg (by omega), if_pos (by omega)]; first | done | omega) | (rw [if_neg (by omega), if_neg (by omega), if_neg (by omega), if_pos (by omega)]; first | done | omega) | (rw [if_neg (by omega), if_neg (by omega), if_neg (by omega), if_neg (by omega), if_pos (by omega)]; first | done | omega) | (rw [if_neg (by omega), if_neg (by omega), if_neg (by omega), if_neg (by omega), if_neg (by omega), if_pos (by omega)]; first | done | omega) | (rw [if_neg (by omega), if_neg (by omega), if_neg (by omega), if_neg (by omega), if_neg (by omega), if_neg (by omega), if_pos (by omega)]; first | done | omega) | (rw [if_neg (by omega), if_neg (by omega), if_neg (by omega), if_neg (by omega), if_neg (by omega), if_neg (by omega), if_neg (by omega), if_pos (by omega)]; first | done | omega) | (rw [if_neg (by omega), if_neg (by omega), if_neg (by omega), if_neg (by omega), if_neg (by omega), if_neg (by omega), if_neg (by omega), if_neg (by omega), if_pos (by omega)]; first | done | omega) | (rw [if_neg (by omega), if_neg (by omega), if_neg (by omega), if_neg (by omega), if_neg (by omega), if_neg (by omega), if_neg (by omega), if_neg (by omega), if_neg (by omega)]; first | done | omega)
  by_cases s1_7 : what = 7
  · refine z_tableIn (tgt := 108) dX7_count_1 (by omega) (by omega) (by rw [s1_7]; rfl) (by decide) ?_
    refine z_aload_nr dX7_count_108 rfl ?_
    refine z_getz (kz := 10) fl_X7_69 rfl (by decide) rfl dX7_count_109 (fun x9 hx9 bx9 => ?_)
    refine z_callSip (n2 := 93) (A_X7_asNumber l g M x9 (by omega)) cb_X7_asNumber cl_X7_123 (clr0 rfl rfl (by decide) (by decide)) rfl (by decide) rfl (Nat.le_of_ble_eq_true rfl) rfl dX7_count_112 (fun x10 bx10 hx10 => ?_)
    have hq := hx10
    refine z_iret rfl (by decide) rfl (Nat.sub_self _) dX7_count_115 ?_
    refine ⟨OffX_rfl M, ?_⟩
    first | (rw [if_pos (by omega)]; first | done | omega) | (rw [if_neg (by omega), if_pos (by omega)]; first | done | omega) | (rw [if_neg (by omega), if_neg (by omega), if_pos (by omega)]; first | done | omega) | (rw [if_neg (by omega), if_neg (by omega), if_neg (by omega), if_pos (by omega)]; first | done | omega) | (rw [if_neg (by omega), if_neg (by omega), if_neg (by omega), if_neg (by omega), if_pos (by omega)]; first | done | omega) | (rw [if_neg (by omega), if_neg (by omega), if_neg (by omega), if_neg (by omega), if_neg (by omega), if_pos (by omega)]; first | done | omega) | (rw [if_neg (by omega), if_neg (by omega), if_neg (by omega), if_neg (by omega), if_neg (by omega), if_neg (by omega), if_pos (by omega)]; first | done | omega) | (rw [if_neg (by omega), if_neg (by omega), if_neg (by omega), if_neg (by omega), if_neg (by omega), if_neg (by omega), if_neg (by omega), if_pos (by omega)]; first | done | omega) | (rw [if_neg (by omega), if_neg (by omega), if_neg (by omega), if_neg (by omega), if_neg (by omega), if_neg (by omega), if_neg (by omega), if_neg (by omega), if_pos (by omega)]; first | done | omega) | (rw [if_neg (by omega), if_neg (by omega), if_neg (by omega), if_neg (by omega), if_neg (by omega), if_neg (by omega), if_neg (by omega), if_neg (by omega), if_neg (by omega)]; first | done | omega)
  by_cases s1_8 : what = 8
  · refine z_tableIn (tgt := 116) dX7_count_1 (by omega) (by omega) (by rw [s1_8]; rfl) (by decide) ?_
    refine z_aload_nr dX7_count_116 rfl ?_
    refine z_getr (b := 1) fl_X7_10 rfl (by decide) rf_0_0 rfl dX7_count_117 ?_
    refine z_iconst dX7_count_120 ⟨by decide, by decide⟩ ?_
    refine z_callVip (n2 := 93) (A_X5_howMany l g M 3 (by omega)) cb_X5_howMany cl_X7_160 (clr0 rfl rfl (by decide) (by decide)) rfl (by decide) ⟨_, rfl, rfl⟩ rfl (by decide) rfl (Nat.le_of_ble_eq_true rfl) rfl dX7_count_121 (fun x11 bx11 hx11 => ?_)
    have hq := hx11
    refine z_iret rfl (by decide) rfl (Nat.sub_self _) dX7_count_124 ?_
    refine ⟨OffX_rfl M, ?_⟩
    first | (rw [if_pos (by omega)]; first | done | exact hq) | (rw [if_neg (by omega), if_pos (by omega)]; first | done | exact hq) | (rw [if_neg (by omega), if_neg (by omega), if_pos (by omega)]; first | done | exact hq) | (rw [if_neg (by omega), if_neg (by omega), if_neg (by omega), if_pos (by omega)]; first | done | exact hq) | (rw [if_neg (by omega), if_neg (by omega), if_neg (by omega), if_neg (by omega), if_pos (by omega)]; first | done | exact hq) | (rw [if_neg (by omega), if_neg (by omega), if_neg (by omega), if_neg (by omega), if_neg (by omega), if_pos (by omega)]; first | done | exact hq) | (rw [if_neg (by omega), if_neg (by omega), if_neg (by omega), if_neg (by omega), if_neg (by omega), if_neg (by omega), if_pos (by omega)]; first | done | exact hq) | (rw [if_neg (by omega), if_neg (by omega), if_neg (by omega), if_neg (by omega), if_neg (by omega), if_neg (by omega), if_neg (by omega), if_pos (by omega)]; first | done | exact hq) | (rw [if_neg (by omega), if_neg (by omega), if_neg (by omega), if_neg (by omega), if_neg (by omega), if_neg (by omega), if_neg (by omega), if_neg (by omega), if_pos (by omega)]; first | done | exact hq) | (rw [if_neg (by omega), if_neg (by omega), if_neg (by omega), if_neg (by omega), if_neg (by omega), if_neg (by omega), if_neg (by omega), if_neg (by omega), if_neg (by omega)]; first | done | exact hq)
  refine z_tableOut (tgt := 125) dX7_count_1 (by omega) (by decide) ?_
  refine z_ldc (c := -1000002) cn_X7_87 ⟨by decide, by decide⟩ dX7_count_125 ?_
  refine z_iret rfl (by decide) rfl (Nat.sub_self _) dX7_count_127 ?_
  refine ⟨OffX_rfl M, ?_⟩
  first | (rw [if_pos (by omega)]; first | done | omega) | (rw [if_neg (by omega), if_pos (by omega)]; first | done | omega) | (rw [if_neg (by omega), if_neg (by omega), if_pos (by omega)]; first | done | omega) | (rw [if_neg (by omega), if_neg (by omega), if_neg (by omega), if_pos (by omega)]; first | done | omega) | (rw [if_neg (by omega), if_neg (by omega), if_neg (by omega), if_neg (by omega), if_pos (by omega)]; first | done | omega) | (rw [if_neg (by omega), if_neg (by omega), if_neg (by omega), if_neg (by omega), if_neg (by omega), if_pos (by omega)]; first | done | omega) | (rw [if_neg (by omega), if_neg (by omega), if_neg (by omega), if_neg (by omega), if_neg (by omega), if_neg (by omega), if_pos (by omega)]; first | done | omega) | (rw [if_neg (by omega), if_neg (by omega), if_neg (by omega), if_neg (by omega), if_neg (by omega), if_neg (by omega), if_neg (by omega), if_pos (by omega)]; first | done | omega) | (rw [if_neg (by omega), if_neg (by omega), if_neg (by omega), if_neg (by omega), if_neg (by omega), if_neg (by omega), if_neg (by omega), if_neg (by omega), if_pos (by omega)]; first | done | omega) | (rw [if_neg (by omega), if_neg (by omega), if_neg (by omega), if_neg (by omega), if_neg (by omega), if_neg (by omega), if_neg (by omega), if_neg (by omega), if_neg (by omega)]; first | done | omega)
set_option maxHeartbeats 400000 in
theorem A_X7_claim42 (l : Launch) (g : Cx) (M : FMem) (i what : Int) (hT : XT M 42) : AMi l g true fi_X7_claim [fr 0, fi i, fi what] 93 M (fun q M2 => OffX M M2 ∧ ClmX M 42 (SolT M 42 (M 1 13) (-1) (-1) (-1) 0) i what q) := by
  refine AMi_intro [fr 0, fi i, fi what] (by decide) (knall rfl) (Nat.le_of_ble_eq_true rfl) rfl ?_
  intro hNV hM0 μ
  have bi : N32 i := hNV (fi i) (by simp)
  have bwhat : N32 what := hNV (fi what) (by simp)
  have hcl := hT.2.2.2.2.2.2.2.2.1
  unfold ClmX
  simp only [Nat.reduceAdd]
  refine z_iload_n dX7_claim_0 rfl ?_
  refine z_if_lt (tgt := 15) dX7_claim_1 (by decide) (fun c1 => ?_) (fun c1 => ?_)
  · refine z_ldc (c := -1000001) cn_X7_82 ⟨by decide, by decide⟩ dX7_claim_15 ?_
    refine z_iret rfl (by decide) rfl (Nat.sub_self _) dX7_claim_17 ?_
    refine ⟨OffX_rfl M, ?_⟩
    rw [if_pos (by omega)]
  · refine z_iload_n dX7_claim_4 rfl ?_
    refine z_aload_nr dX7_claim_5 rfl ?_
    refine z_getv (b := 42) (kz := 6) fl_X7_54 rfl (by decide) rfl (fun _ => hT.2.2.1) dX7_claim_6 ?_
    refine z_geti (kz := 11) fl_X7_166 rfl (by decide) rfl dX7_claim_9 (fun x2 hx2 bx2 => ?_)
    refine z_icmp_lt (tgt := 18) dX7_claim_12 (by decide) (fun c3 => ?_) (fun c3 => ?_)
    · refine z_iload_n dX7_claim_18 rfl ?_
      by_cases s4_0 : what = 0
      · refine z_tableIn (tgt := 48) dX7_claim_19 (by omega) (by omega) (by rw [s4_0]; rfl) (by decide) ?_
        refine z_aload_nr dX7_claim_48 rfl ?_
        refine z_iload_n dX7_claim_49 rfl ?_
        refine z_callVi (n2 := 93) (A_X7_standOfClaim42 l g M i (hT) (by omega)) cb_X7_standOfClaim cl_X7_323 (clr0 rfl rfl (by decide) (by decide)) rfl (by decide) ⟨_, rfl, rfl⟩ rfl (by decide) rfl (Nat.le_of_ble_eq_true rfl) rfl dX7_claim_50 (fun x5 Mz5 bx5 kMz5 hc5 => ?_)
        have hq := hc5
        refine z_iret rfl (by decide) rfl (Nat.sub_self _) dX7_claim_53 ?_
        refine ⟨hq.1, ?_⟩
        rw [if_neg (by omega), if_pos (by omega)]
        exact hq.2
      by_cases s4_1 : what = 1
      · refine z_tableIn (tgt := 54) dX7_claim_19 (by omega) (by omega) (by rw [s4_1]; rfl) (by decide) ?_
        refine z_aload_nr dX7_claim_54 rfl ?_
        refine z_getv (b := 42) (kz := 6) fl_X7_54 rfl (by decide) rfl (fun _ => hT.2.2.1) dX7_claim_55 ?_
        refine z_getr (b := 48) fl_X7_326 rfl (by decide) rf_42_8 rfl dX7_claim_58 ?_
        refine z_iload_n dX7_claim_61 rfl ?_
        refine z_iald rfl (by decide) (by omega) (by omega) dX7_claim_62 (fun x6 hx6 bx6 => ?_)
        refine z_iret rfl (by decide) rfl (Nat.sub_self _) dX7_claim_63 ?_
        refine ⟨OffX_rfl M, ?_⟩
        rw [if_neg (by omega)]
        first | (rw [if_pos (by omega)]; first | done | omega) | (rw [if_neg (by omega), if_pos (by omega)]; first | done | omega) | (rw [if_neg (by omega), if_neg (by omega), if_pos (by omega)]; first | done | omega) | (rw [if_neg (by omega), if_neg (by omega), if_neg (by omega), if_pos (by omega)]; first | done | omega) | (rw [if_neg (by omega), if_neg (by omega), if_neg (by omega), if_neg (by omega)]; first | done | omega)
      by_cases s4_2 : what = 2
      · refine z_tableIn (tgt := 64) dX7_claim_19 (by omega) (by omega) (by rw [s4_2]; rfl) (by decide) ?_
        refine z_aload_nr dX7_claim_64 rfl ?_
        refine z_getv (b := 42) (kz := 6) fl_X7_54 rfl (by decide) rfl (fun _ => hT.2.2.1) dX7_claim_65 ?_
        refine z_getr (b := 49) fl_X7_329 rfl (by decide) rf_42_9 rfl dX7_claim_68 ?_
        refine z_iload_n dX7_claim_71 rfl ?_
        refine z_iald rfl (by decide) (by omega) (by omega) dX7_claim_72 (fun x7 hx7 bx7 => ?_)
        refine z_iret rfl (by decide) rfl (Nat.sub_self _) dX7_claim_73 ?_
        refine ⟨OffX_rfl M, ?_⟩
        rw [if_neg (by omega)]
        first | (rw [if_pos (by omega)]; first | done | omega) | (rw [if_neg (by omega), if_pos (by omega)]; first | done | omega) | (rw [if_neg (by omega), if_neg (by omega), if_pos (by omega)]; first | done | omega) | (rw [if_neg (by omega), if_neg (by omega), if_neg (by omega), if_pos (by omega)]; first | done | omega) | (rw [if_neg (by omega), if_neg (by omega), if_neg (by omega), if_neg (by omega)]; first | done | omega)
      by_cases s4_3 : what = 3
      · refine z_tableIn (tgt := 74) dX7_claim_19 (by omega) (by omega) (by rw [s4_3]; rfl) (by decide) ?_
        refine z_aload_nr dX7_claim_74 rfl ?_
        refine z_getv (b := 42) (kz := 6) fl_X7_54 rfl (by decide) rfl (fun _ => hT.2.2.1) dX7_claim_75 ?_
        refine z_getr (b := 50) fl_X7_332 rfl (by decide) rf_42_10 rfl dX7_claim_78 ?_
        refine z_iload_n dX7_claim_81 rfl ?_
        refine z_zald rfl (by decide) (by omega) (by omega) dX7_claim_82 (fun x8 hx8 bx8 => ?_)
        refine z_callSip (n2 := 93) (A_X7_asNumber l g M x8 (by have := mok_z hM0 (a := 50) rfl i; omega)) cb_X7_asNumber cl_X7_123 (clr0 rfl rfl (by decide) (by decide)) rfl (by decide) rfl (Nat.le_of_ble_eq_true rfl) rfl dX7_claim_83 (fun x9 bx9 hx9 => ?_)
        have hq := hx9
        refine z_iret rfl (by decide) rfl (Nat.sub_self _) dX7_claim_86 ?_
        refine ⟨OffX_rfl M, ?_⟩
        rw [if_neg (by omega)]
        first | (rw [if_pos (by omega)]; first | done | omega) | (rw [if_neg (by omega), if_pos (by omega)]; first | done | omega) | (rw [if_neg (by omega), if_neg (by omega), if_pos (by omega)]; first | done | omega) | (rw [if_neg (by omega), if_neg (by omega), if_neg (by omega), if_pos (by omega)]; first | done | omega) | (rw [if_neg (by omega), if_neg (by omega), if_neg (by omega), if_neg (by omega)]; first | done | omega)
      refine z_tableOut (tgt := 87) dX7_claim_19 (by omega) (by decide) ?_
      refine z_ldc (c := -1000002) cn_X7_87 ⟨by decide, by decide⟩ dX7_claim_87 ?_
      refine z_iret rfl (by decide) rfl (Nat.sub_self _) dX7_claim_89 ?_
      refine ⟨OffX_rfl M, ?_⟩
      rw [if_neg (by omega)]
      first | (rw [if_pos (by omega)]; first | done | omega) | (rw [if_neg (by omega), if_pos (by omega)]; first | done | omega) | (rw [if_neg (by omega), if_neg (by omega), if_pos (by omega)]; first | done | omega) | (rw [if_neg (by omega), if_neg (by omega), if_neg (by omega), if_pos (by omega)]; first | done | omega) | (rw [if_neg (by omega), if_neg (by omega), if_neg (by omega), if_neg (by omega)]; first | done | omega)
    · refine z_ldc (c := -1000001) cn_X7_82 ⟨by decide, by decide⟩ dX7_claim_15 ?_
      refine z_iret rfl (by decide) rfl (Nat.sub_self _) dX7_claim_17 ?_
      refine ⟨OffX_rfl M, ?_⟩
      rw [if_pos (by omega)]
set_option maxHeartbeats 400000 in
theorem A_X7_told51 (l : Launch) (g : Cx) (M : FMem) (i what : Int) (hT : XT M 51) : AMi l g true fi_X7_told [fr 0, fi i, fi what] 93 M (fun r M2 => M2 = M ∧ (fun q => q = toldX M 51 i what) r) := by
  refine AMi_intro [fr 0, fi i, fi what] (by decide) (knall rfl) (Nat.le_of_ble_eq_true rfl) rfl ?_
  intro hNV hM0 μ
  have bi : N32 i := hNV (fi i) (by simp)
  have bwhat : N32 what := hNV (fi what) (by simp)
  have hts := hT.1
  unfold toldX
  refine z_aload_nr dX7_told_0 rfl ?_
  refine z_getr (b := 1) fl_X7_10 rfl (by decide) rf_0_0 rfl dX7_told_1 ?_
  refine z_iload_n dX7_told_4 rfl ?_
  refine z_callVip (n2 := 93) (A_X5_has l g M i) cb_X5_has cl_X7_116 (clr0 rfl rfl (by decide) (by decide)) rfl (by decide) ⟨_, rfl, rfl⟩ rfl (by decide) rfl (Nat.le_of_ble_eq_true rfl) rfl dX7_told_5 (fun x1 bx1 hx1 => ?_)
  have i1 := if01 hx1
  refine z_if_ne (tgt := 14) dX7_told_8 (by decide) (fun c2 => ?_) (fun c2 => ?_)
  · refine z_iload_n dX7_told_14 rfl ?_
    by_cases s3_0 : what = 0
    · refine z_tableIn (tgt := 56) dX7_told_15 (by omega) (by omega) (by rw [s3_0]; rfl) (by decide) ?_
      refine z_aload_nr dX7_told_56 rfl ?_
      refine z_getr (b := 1) fl_X7_10 rfl (by decide) rf_0_0 rfl dX7_told_57 ?_
      refine z_getr (b := 2) fl_X7_135 rfl (by decide) rf_1_0 rfl dX7_told_60 ?_
      refine z_iload_n dX7_told_63 rfl ?_
      refine z_iald rfl (by decide) (by omega) (by omega) dX7_told_64 (fun x4 hx4 bx4 => ?_)
      refine z_iret rfl (by decide) rfl (Nat.sub_self _) dX7_told_65 ?_
      refine ⟨rfl, ?_⟩
      rw [if_neg (by omega)]
      first | (rw [if_pos (by omega)]; first | done | omega) | (rw [if_neg (by omega), if_pos (by omega)]; first | done | omega) | (rw [if_neg (by omega), if_neg (by omega), if_pos (by omega)]; first | done | omega) | (rw [if_neg (by omega), if_neg (by omega), if_neg (by omega), if_pos (by omega)]; first | done | omega) | (rw [if_neg (by omega), if_neg (by omega), if_neg (by omega), if_neg (by omega), if_pos (by omega)]; first | done | omega) | (rw [if_neg (by omega), if_neg (by omega), if_neg (by omega), if_neg (by omega), if_neg (by omega), if_pos (by omega)]; first | done | omega) | (rw [if_neg (by omega), if_neg (by omega), if_neg (by omega), if_neg (by omega), if_neg (by omega), if_neg (by omega), if_pos (by omega)]; first | done | omega) | (rw [if_neg (by omega), if_neg (by omega), if_neg (by omega), if_neg (by omega), if_neg (by omega), if_neg (by omega), if_neg (by omega)]; first | done | omega)
    by_cases s3_1 : what = 1
    · refine z_tableIn (tgt := 66) dX7_told_15 (by omega) (by omega) (by rw [s3_1]; rfl) (by decide) ?_
      refine z_aload_nr dX7_told_66 rfl ?_
      refine z_getr (b := 1) fl_X7_10 rfl (by decide) rf_0_0 rfl dX7_told_67 ?_
      refine z_getr (b := 3) fl_X7_138 rfl (by decide) rf_1_1 rfl dX7_told_70 ?_
      refine z_iload_n dX7_told_73 rfl ?_
      refine z_iald rfl (by decide) (by omega) (by omega) dX7_told_74 (fun x5 hx5 bx5 => ?_)
      refine z_iret rfl (by decide) rfl (Nat.sub_self _) dX7_told_75 ?_
      refine ⟨rfl, ?_⟩
      rw [if_neg (by omega)]
      first | (rw [if_pos (by omega)]; first | done | omega) | (rw [if_neg (by omega), if_pos (by omega)]; first | done | omega) | (rw [if_neg (by omega), if_neg (by omega), if_pos (by omega)]; first | done | omega) | (rw [if_neg (by omega), if_neg (by omega), if_neg (by omega), if_pos (by omega)]; first | done | omega) | (rw [if_neg (by omega), if_neg (by omega), if_neg (by omega), if_neg (by omega), if_pos (by omega)]; first | done | omega) | (rw [if_neg (by omega), if_neg (by omega), if_neg (by omega), if_neg (by omega), if_neg (by omega), if_pos (by omega)]; first | done | omega) | (rw [if_neg (by omega), if_neg (by omega), if_neg (by omega), if_neg (by omega), if_neg (by omega), if_neg (by omega), if_pos (by omega)]; first | done | omega) | (rw [if_neg (by omega), if_neg (by omega), if_neg (by omega), if_neg (by omega), if_neg (by omega), if_neg (by omega), if_neg (by omega)]; first | done | omega)
    by_cases s3_2 : what = 2
    · refine z_tableIn (tgt := 76) dX7_told_15 (by omega) (by omega) (by rw [s3_2]; rfl) (by decide) ?_
      refine z_aload_nr dX7_told_76 rfl ?_
      refine z_getr (b := 1) fl_X7_10 rfl (by decide) rf_0_0 rfl dX7_told_77 ?_
      refine z_getr (b := 4) fl_X7_141 rfl (by decide) rf_1_2 rfl dX7_told_80 ?_
      refine z_iload_n dX7_told_83 rfl ?_
      refine z_iald rfl (by decide) (by omega) (by omega) dX7_told_84 (fun x6 hx6 bx6 => ?_)
      refine z_iret rfl (by decide) rfl (Nat.sub_self _) dX7_told_85 ?_
      refine ⟨rfl, ?_⟩
      rw [if_neg (by omega)]
      first | (rw [if_pos (by omega)]; first | done | omega) | (rw [if_neg (by omega), if_pos (by omega)]; first | done | omega) | (rw [if_neg (by omega), if_neg (by omega), if_pos (by omega)]; first | done | omega) | (rw [if_neg (by omega), if_neg (by omega), if_neg (by omega), if_pos (by omega)]; first | done | omega) | (rw [if_neg (by omega), if_neg (by omega), if_neg (by omega), if_neg (by omega), if_pos (by omega)]; first | done | omega) | (rw [if_neg (by omega), if_neg (by omega), if_neg (by omega), if_neg (by omega), if_neg (by omega), if_pos (by omega)]; first | done | omega) | (rw [if_neg (by omega), if_neg (by omega), if_neg (by omega), if_neg (by omega), if_neg (by omega), if_neg (by omega), if_pos (by omega)]; first | done | omega) | (rw [if_neg (by omega), if_neg (by omega), if_neg (by omega), if_neg (by omega), if_neg (by omega), if_neg (by omega), if_neg (by omega)]; first | done | omega)
    by_cases s3_3 : what = 3
    · refine z_tableIn (tgt := 86) dX7_told_15 (by omega) (by omega) (by rw [s3_3]; rfl) (by decide) ?_
      refine z_aload_nr dX7_told_86 rfl ?_
      refine z_getr (b := 1) fl_X7_10 rfl (by decide) rf_0_0 rfl dX7_told_87 ?_
      refine z_getr (b := 5) fl_X7_144 rfl (by decide) rf_1_3 rfl dX7_told_90 ?_
      refine z_iload_n dX7_told_93 rfl ?_
      refine z_iald rfl (by decide) (by omega) (by omega) dX7_told_94 (fun x7 hx7 bx7 => ?_)
      refine z_iret rfl (by decide) rfl (Nat.sub_self _) dX7_told_95 ?_
      refine ⟨rfl, ?_⟩
      rw [if_neg (by omega)]
      first | (rw [if_pos (by omega)]; first | done | omega) | (rw [if_neg (by omega), if_pos (by omega)]; first | done | omega) | (rw [if_neg (by omega), if_neg (by omega), if_pos (by omega)]; first | done | omega) | (rw [if_neg (by omega), if_neg (by omega), if_neg (by omega), if_pos (by omega)]; first | done | omega) | (rw [if_neg (by omega), if_neg (by omega), if_neg (by omega), if_neg (by omega), if_pos (by omega)]; first | done | omega) | (rw [if_neg (by omega), if_neg (by omega), if_neg (by omega), if_neg (by omega), if_neg (by omega), if_pos (by omega)]; first | done | omega) | (rw [if_neg (by omega), if_neg (by omega), if_neg (by omega), if_neg (by omega), if_neg (by omega), if_neg (by omega), if_pos (by omega)]; first | done | omega) | (rw [if_neg (by omega), if_neg (by omega), if_neg (by omega), if_neg (by omega), if_neg (by omega), if_neg (by omega), if_neg (by omega)]; first | done | omega)
    by_cases s3_4 : what = 4
    · refine z_tableIn (tgt := 96) dX7_told_15 (by omega) (by omega) (by rw [s3_4]; rfl) (by decide) ?_
      refine z_aload_nr dX7_told_96 rfl ?_
      refine z_getr (b := 1) fl_X7_10 rfl (by decide) rf_0_0 rfl dX7_told_97 ?_
      refine z_iload_n dX7_told_100 rfl ?_
      refine z_callVip (n2 := 93) (A_X5_isInNet l g M i (by omega)) cb_X5_isInNet cl_X7_147 (clr0 rfl rfl (by decide) (by decide)) rfl (by decide) ⟨_, rfl, rfl⟩ rfl (by decide) rfl (Nat.le_of_ble_eq_true rfl) rfl dX7_told_101 (fun x8 bx8 hx8 => ?_)
      have i8 := if01 hx8
      refine z_callSip (n2 := 93) (A_X7_asNumber l g M x8 (by omega)) cb_X7_asNumber cl_X7_123 (clr0 rfl rfl (by decide) (by decide)) rfl (by decide) rfl (Nat.le_of_ble_eq_true rfl) rfl dX7_told_104 (fun x9 bx9 hx9 => ?_)
      have has := hx9
      refine z_iret rfl (by decide) rfl (Nat.sub_self _) dX7_told_107 ?_
      refine ⟨rfl, ?_⟩
      rw [if_neg (by omega)]
      first | (rw [if_pos (by omega)]; first | done | omega) | (rw [if_neg (by omega), if_pos (by omega)]; first | done | omega) | (rw [if_neg (by omega), if_neg (by omega), if_pos (by omega)]; first | done | omega) | (rw [if_neg (by omega), if_neg (by omega), if_neg (by omega), if_pos (by omega)]; first | done | omega) | (rw [if_neg (by omega), if_neg (by omega), if_neg (by omega), if_neg (by omega), if_pos (by omega)]; first | done | omega) | (rw [if_neg (by omega), if_neg (by omega), if_neg (by omega), if_neg (by omega), if_neg (by omega), if_pos (by omega)]; first | done | omega) | (rw [if_neg (by omega), if_neg (by omega), if_neg (by omega), if_neg (by omega), if_neg (by omega), if_neg (by omega), if_pos (by omega)]; first | done | omega) | (rw [if_neg (by omega), if_neg (by omega), if_neg (by omega), if_neg (by omega), if_neg (by omega), if_neg (by omega), if_neg (by omega)]; first | done | omega)
    by_cases s3_5 : what = 5
    · refine z_tableIn (tgt := 108) dX7_told_15 (by omega) (by omega) (by rw [s3_5]; rfl) (by decide) ?_
      refine z_aload_nr dX7_told_108 rfl ?_
      refine z_iload_n dX7_told_109 rfl ?_
      refine z_callVip (n2 := 93) (A_X7_lowOf51 l g M i (by omega) (hT.2.1 i (by omega) (by omega)) (hT.2.2.1) (hT.2.2.2.1) (hT.2.2.2.2)) cb_X7_lowOf cl_X7_150 (clr0 rfl rfl (by decide) (by decide)) rfl (by decide) ⟨_, rfl, rfl⟩ rfl (by decide) rfl (Nat.le_of_ble_eq_true rfl) rfl dX7_told_110 (fun x10 bx10 hx10 => ?_)
      have hlo := hx10.1
      refine z_iret rfl (by decide) rfl (Nat.sub_self _) dX7_told_113 ?_
      refine ⟨rfl, ?_⟩
      rw [if_neg (by omega)]
      first | (rw [if_pos (by omega)]; first | done | omega) | (rw [if_neg (by omega), if_pos (by omega)]; first | done | omega) | (rw [if_neg (by omega), if_neg (by omega), if_pos (by omega)]; first | done | omega) | (rw [if_neg (by omega), if_neg (by omega), if_neg (by omega), if_pos (by omega)]; first | done | omega) | (rw [if_neg (by omega), if_neg (by omega), if_neg (by omega), if_neg (by omega), if_pos (by omega)]; first | done | omega) | (rw [if_neg (by omega), if_neg (by omega), if_neg (by omega), if_neg (by omega), if_neg (by omega), if_pos (by omega)]; first | done | omega) | (rw [if_neg (by omega), if_neg (by omega), if_neg (by omega), if_neg (by omega), if_neg (by omega), if_neg (by omega), if_pos (by omega)]; first | done | omega) | (rw [if_neg (by omega), if_neg (by omega), if_neg (by omega), if_neg (by omega), if_neg (by omega), if_neg (by omega), if_neg (by omega)]; first | done | omega)
    by_cases s3_6 : what = 6
    · refine z_tableIn (tgt := 114) dX7_told_15 (by omega) (by omega) (by rw [s3_6]; rfl) (by decide) ?_
      refine z_aload_nr dX7_told_114 rfl ?_
      refine z_iload_n dX7_told_115 rfl ?_
      refine z_callVip (n2 := 93) (A_X7_highOf51 l g M i (by omega) (hT.2.1 i (by omega) (by omega)) (hT.2.2.1) (hT.2.2.2.1) (hT.2.2.2.2)) cb_X7_highOf cl_X7_154 (clr0 rfl rfl (by decide) (by decide)) rfl (by decide) ⟨_, rfl, rfl⟩ rfl (by decide) rfl (Nat.le_of_ble_eq_true rfl) rfl dX7_told_116 (fun x11 bx11 hx11 => ?_)
      have hlo := hx11.1
      refine z_iret rfl (by decide) rfl (Nat.sub_self _) dX7_told_119 ?_
      refine ⟨rfl, ?_⟩
      rw [if_neg (by omega)]
      first | (rw [if_pos (by omega)]; first | done | omega) | (rw [if_neg (by omega), if_pos (by omega)]; first | done | omega) | (rw [if_neg (by omega), if_neg (by omega), if_pos (by omega)]; first | done | omega) | (rw [if_neg (by omega), if_neg (by omega), if_neg (by omega), if_pos (by omega)]; first | done | omega) | (rw [if_neg (by omega), if_neg (by omega), if_neg (by omega), if_neg (by omega), if_pos (by omega)]; first | done | omega) | (rw [if_neg (by omega), if_neg (by omega), if_neg (by omega), if_neg (by omega), if_neg (by omega), if_pos (by omega)]; first | done | omega) | (rw [if_neg (by omega), if_neg (by omega), if_neg (by omega), if_neg (by omega), if_neg (by omega), if_neg (by omega), if_pos (by omega)]; first | done | omega) | (rw [if_neg (by omega), if_neg (by omega), if_neg (by omega), if_neg (by omega), if_neg (by omega), if_neg (by omega), if_neg (by omega)]; first | done | omega)
    refine z_tableOut (tgt := 120) dX7_told_15 (by omega) (by decide) ?_
    refine z_ldc (c := -1000002) cn_X7_87 ⟨by decide, by decide⟩ dX7_told_120 ?_
    refine z_iret rfl (by decide) rfl (Nat.sub_self _) dX7_told_122 ?_
    refine ⟨rfl, ?_⟩
    rw [if_neg (by omega)]
    first | (rw [if_pos (by omega)]; first | done | rfl) | (rw [if_neg (by omega), if_pos (by omega)]; first | done | rfl) | (rw [if_neg (by omega), if_neg (by omega), if_pos (by omega)]; first | done | rfl) | (rw [if_neg (by omega), if_neg (by omega), if_neg (by omega), if_pos (by omega)]; first | done | rfl) | (rw [if_neg (by omega), if_neg (by omega), if_neg (by omega), if_neg (by omega), if_pos (by omega)]; first | done | rfl) | (rw [if_neg (by omega), if_neg (by omega), if_neg (by omega), if_neg (by omega), if_neg (by omega), if_pos (by omega)]; first | done | rfl) | (rw [if_neg (by omega), if_neg (by omega), if_neg (by omega), if_neg (by omega), if_neg (by omega), if_neg (by omega), if_pos (by omega)]; first | done | rfl) | (rw [if_neg (by omega), if_neg (by omega), if_neg (by omega), if_neg (by omega), if_neg (by omega), if_neg (by omega), if_neg (by omega)]; first | done | rfl)
  · refine z_ldc (c := -1000001) cn_X7_82 ⟨by decide, by decide⟩ dX7_told_11 ?_
    refine z_iret rfl (by decide) rfl (Nat.sub_self _) dX7_told_13 ?_
    refine ⟨rfl, ?_⟩
    rw [if_pos (by omega)]
set_option maxHeartbeats 400000 in
theorem A_X7_count51 (l : Launch) (g : Cx) (M : FMem) (what : Int) (hT : XT M 51) : AMi l g true fi_X7_count [fr 0, fi what] 93 M (fun q M2 => OffX M M2 ∧ CntX M 51 (SolT M 51 (M 1 13) (-1) (-1) (-1) 0) what q) := by
  refine AMi_intro [fr 0, fi what] (by decide) (knall rfl) (Nat.le_of_ble_eq_true rfl) rfl ?_
  intro hNV hM0 μ
  have bwhat : N32 what := hNV (fi what) (by simp)
  have hts := hT.1
  unfold CntX
  refine z_iload_n dX7_count_0 rfl ?_
  by_cases s1_0 : what = 0
  · refine z_tableIn (tgt := 52) dX7_count_1 (by omega) (by omega) (by rw [s1_0]; rfl) (by decide) ?_
    refine z_aload_nr dX7_count_52 rfl ?_
    refine z_getr (b := 1) fl_X7_10 rfl (by decide) rf_0_0 rfl dX7_count_53 ?_
    refine z_geti (kz := 13) fl_X7_157 rfl (by decide) rfl dX7_count_56 (fun x2 hx2 bx2 => ?_)
    refine z_iret rfl (by decide) rfl (Nat.sub_self _) dX7_count_59 ?_
    refine ⟨OffX_rfl M, ?_⟩
    first | (rw [if_pos (by omega)]; first | done | omega) | (rw [if_neg (by omega), if_pos (by omega)]; first | done | omega) | (rw [if_neg (by omega), if_neg (by omega), if_pos (by omega)]; first | done | omega) | (rw [if_neg (by omega), if_neg (by omega), if_neg (by omega), if_pos (by omega)]; first | done | omega) | (rw [if_neg (by omega), if_neg (by omega), if_neg (by omega), if_neg (by omega), if_pos (by omega)]; first | done | omega) | (rw [if_neg (by omega), if_neg (by omega), if_neg (by omega), if_neg (by omega), if_neg (by omega), if_pos (by omega)]; first | done | omega) | (rw [if_neg (by omega), if_neg (by omega), if_neg (by omega), if_neg (by omega), if_neg (by omega), if_neg (by omega), if_pos (by omega)]; first | done | omega) | (rw [if_neg (by omega), if_neg (by omega), if_neg (by omega), if_neg (by omega), if_neg (by omega), if_neg (by omega), if_neg (by omega), if_pos (by omega)]; first | done | omega) | (rw [if_neg (by omega), if_neg (by omega), if_neg (by omega), if_neg (by omega), if_neg (by omega), if_neg (by omega), if_neg (by omega), if_neg (by omega), if_pos (by omega)]; first | done | omega) | (rw [if_neg (by omega), if_neg (by omega), if_neg (by omega), if_neg (by omega), if_neg (by omega), if_neg (by omega), if_neg (by omega), if_neg (by omega), if_neg (by omega)]; first | done | omega)
  by_cases s1_1 : what = 1
  · refine z_tableIn (tgt := 60) dX7_count_1 (by omega) (by omega) (by rw [s1_1]; rfl) (by decide) ?_
    refine z_aload_nr dX7_count_60 rfl ?_
    refine z_getr (b := 1) fl_X7_10 rfl (by decide) rf_0_0 rfl dX7_count_61 ?_
    refine z_iconst dX7_count_64 ⟨by decide, by decide⟩ ?_
    refine z_callVip (n2 := 93) (A_X5_howMany l g M 0 (by omega)) cb_X5_howMany cl_X7_160 (clr0 rfl rfl (by decide) (by decide)) rfl (by decide) ⟨_, rfl, rfl⟩ rfl (by decide) rfl (Nat.le_of_ble_eq_true rfl) rfl dX7_count_65 (fun x3 bx3 hx3 => ?_)
    have hq := hx3
    refine z_iret rfl (by decide) rfl (Nat.sub_self _) dX7_count_68 ?_
    refine ⟨OffX_rfl M, ?_⟩
    first | (rw [if_pos (by omega)]; first | done | exact hq) | (rw [if_neg (by omega), if_pos (by omega)]; first | done | exact hq) | (rw [if_neg (by omega), if_neg (by omega), if_pos (by omega)]; first | done | exact hq) | (rw [if_neg (by omega), if_neg (by omega), if_neg (by omega), if_pos (by omega)]; first | done | exact hq) | (rw [if_neg (by omega), if_neg (by omega), if_neg (by omega), if_neg (by omega), if_pos (by omega)]; first | done | exact hq) | (rw [if_neg (by omega), if_neg (by omega), if_neg (by omega), if_neg (by omega), if_neg (by omega), if_pos (by omega)]; first | done | exact hq) | (rw [if_neg (by omega), if_neg (by omega), if_neg (by omega), if_neg (by omega), if_neg (by omega), if_neg (by omega), if_pos (by omega)]; first | done | exact hq) | (rw [if_neg (by omega), if_neg (by omega), if_neg (by omega), if_neg (by omega), if_neg (by omega), if_neg (by omega), if_neg (by omega), if_pos (by omega)]; first | done | exact hq) | (rw [if_neg (by omega), if_neg (by omega), if_neg (by omega), if_neg (by omega), if_neg (by omega), if_neg (by omega), if_neg (by omega), if_neg (by omega), if_pos (by omega)]; first | done | exact hq) | (rw [if_neg (by omega), if_neg (by omega), if_neg (by omega), if_neg (by omega), if_neg (by omega), if_neg (by omega), if_neg (by omega), if_neg (by omega), if_neg (by omega)]; first | done | exact hq)
  by_cases s1_2 : what = 2
  · refine z_tableIn (tgt := 69) dX7_count_1 (by omega) (by omega) (by rw [s1_2]; rfl) (by decide) ?_
    refine z_aload_nr dX7_count_69 rfl ?_
    refine z_getr (b := 1) fl_X7_10 rfl (by decide) rf_0_0 rfl dX7_count_70 ?_
    refine z_iconst dX7_count_73 ⟨by decide, by decide⟩ ?_
    refine z_callVip (n2 := 93) (A_X5_howMany l g M 1 (by omega)) cb_X5_howMany cl_X7_160 (clr0 rfl rfl (by decide) (by decide)) rfl (by decide) ⟨_, rfl, rfl⟩ rfl (by decide) rfl (Nat.le_of_ble_eq_true rfl) rfl dX7_count_74 (fun x4 bx4 hx4 => ?_)
    have hq := hx4
    refine z_iret rfl (by decide) rfl (Nat.sub_self _) dX7_count_77 ?_
    refine ⟨OffX_rfl M, ?_⟩
    first | (rw [if_pos (by omega)]; first | done | exact hq) | (rw [if_neg (by omega), if_pos (by omega)]; first | done | exact hq) | (rw [if_neg (by omega), if_neg (by omega), if_pos (by omega)]; first | done | exact hq) | (rw [if_neg (by omega), if_neg (by omega), if_neg (by omega), if_pos (by omega)]; first | done | exact hq) | (rw [if_neg (by omega), if_neg (by omega), if_neg (by omega), if_neg (by omega), if_pos (by omega)]; first | done | exact hq) | (rw [if_neg (by omega), if_neg (by omega), if_neg (by omega), if_neg (by omega), if_neg (by omega), if_pos (by omega)]; first | done | exact hq) | (rw [if_neg (by omega), if_neg (by omega), if_neg (by omega), if_neg (by omega), if_neg (by omega), if_neg (by omega), if_pos (by omega)]; first | done | exact hq) | (rw [if_neg (by omega), if_neg (by omega), if_neg (by omega), if_neg (by omega), if_neg (by omega), if_neg (by omega), if_neg (by omega), if_pos (by omega)]; first | done | exact hq) | (rw [if_neg (by omega), if_neg (by omega), if_neg (by omega), if_neg (by omega), if_neg (by omega), if_neg (by omega), if_neg (by omega), if_neg (by omega), if_pos (by omega)]; first | done | exact hq) | (rw [if_neg (by omega), if_neg (by omega), if_neg (by omega), if_neg (by omega), if_neg (by omega), if_neg (by omega), if_neg (by omega), if_neg (by omega), if_neg (by omega)]; first | done | exact hq)
  by_cases s1_3 : what = 3
  · refine z_tableIn (tgt := 78) dX7_count_1 (by omega) (by omega) (by rw [s1_3]; rfl) (by decide) ?_
    refine z_aload_nr dX7_count_78 rfl ?_
    refine z_getr (b := 1) fl_X7_10 rfl (by decide) rf_0_0 rfl dX7_count_79 ?_
    refine z_iconst dX7_count_82 ⟨by decide, by decide⟩ ?_
    refine z_callVip (n2 := 93) (A_X5_howMany l g M 2 (by omega)) cb_X5_howMany cl_X7_160 (clr0 rfl rfl (by decide) (by decide)) rfl (by decide) ⟨_, rfl, rfl⟩ rfl (by decide) rfl (Nat.le_of_ble_eq_true rfl) rfl dX7_count_83 (fun x5 bx5 hx5 => ?_)
    have hq := hx5
    refine z_iret rfl (by decide) rfl (Nat.sub_self _) dX7_count_86 ?_
    refine ⟨OffX_rfl M, ?_⟩
    first | (rw [if_pos (by omega)]; first | done | exact hq) | (rw [if_neg (by omega), if_pos (by omega)]; first | done | exact hq) | (rw [if_neg (by omega), if_neg (by omega), if_pos (by omega)]; first | done | exact hq) | (rw [if_neg (by omega), if_neg (by omega), if_neg (by omega), if_pos (by omega)]; first | done | exact hq) | (rw [if_neg (by omega), if_neg (by omega), if_neg (by omega), if_neg (by omega), if_pos (by omega)]; first | done | exact hq) | (rw [if_neg (by omega), if_neg (by omega), if_neg (by omega), if_neg (by omega), if_neg (by omega), if_pos (by omega)]; first | done | exact hq) | (rw [if_neg (by omega), if_neg (by omega), if_neg (by omega), if_neg (by omega), if_neg (by omega), if_neg (by omega), if_pos (by omega)]; first | done | exact hq) | (rw [if_neg (by omega), if_neg (by omega), if_neg (by omega), if_neg (by omega), if_neg (by omega), if_neg (by omega), if_neg (by omega), if_pos (by omega)]; first | done | exact hq) | (rw [if_neg (by omega), if_neg (by omega), if_neg (by omega), if_neg (by omega), if_neg (by omega), if_neg (by omega), if_neg (by omega), if_neg (by omega), if_pos (by omega)]; first | done | exact hq) | (rw [if_neg (by omega), if_neg (by omega), if_neg (by omega), if_neg (by omega), if_neg (by omega), if_neg (by omega), if_neg (by omega), if_neg (by omega), if_neg (by omega)]; first | done | exact hq)
  by_cases s1_4 : what = 4
  · refine z_tableIn (tgt := 87) dX7_count_1 (by omega) (by omega) (by rw [s1_4]; rfl) (by decide) ?_
    refine z_aload_nr dX7_count_87 rfl ?_
    refine z_callVi (n2 := 93) (A_X7_howManyLoose51 l g M (hT)) cb_X7_howManyLoose cl_X7_163 (clr0 rfl rfl (by decide) (by decide)) rfl (by decide) ⟨_, rfl, rfl⟩ rfl (by decide) rfl (Nat.le_of_ble_eq_true rfl) rfl dX7_count_88 (fun x6 Mz6 bx6 kMz6 hc6 => ?_)
    have hq := hc6
    refine z_iret rfl (by decide) rfl (Nat.sub_self _) dX7_count_91 ?_
    refine ⟨hq.1, ?_⟩
    rw [if_neg (by omega), if_neg (by omega), if_neg (by omega), if_neg (by omega), if_pos (by omega)]
    exact hq.2
  by_cases s1_5 : what = 5
  · refine z_tableIn (tgt := 92) dX7_count_1 (by omega) (by omega) (by rw [s1_5]; rfl) (by decide) ?_
    refine z_aload_nr dX7_count_92 rfl ?_
    refine z_getv (b := 51) (kz := 6) fl_X7_54 rfl (by decide) rfl (fun _ => hT.2.2.1) dX7_count_93 ?_
    refine z_geti (kz := 11) fl_X7_166 rfl (by decide) rfl dX7_count_96 (fun x7 hx7 bx7 => ?_)
    refine z_iret rfl (by decide) rfl (Nat.sub_self _) dX7_count_99 ?_
    refine ⟨OffX_rfl M, ?_⟩
    first | (rw [if_pos (by omega)]; first | done | omega) | (rw [if_neg (by omega), if_pos (by omega)]; first | done | omega) | (rw [if_neg (by omega), if_neg (by omega), if_pos (by omega)]; first | done | omega) | (rw [if_neg (by omega), if_neg (by omega), if_neg (by omega), if_pos (by omega)]; first | done | omega) | (rw [if_neg (by omega), if_neg (by omega), if_neg (by omega), if_neg (by omega), if_pos (by omega)]; first | done | omega) | (rw [if_neg (by omega), if_neg (by omega), if_neg (by omega), if_neg (by omega), if_neg (by omega), if_pos (by omega)]; first | done | omega) | (rw [if_neg (by omega), if_neg (by omega), if_neg (by omega), if_neg (by omega), if_neg (by omega), if_neg (by omega), if_pos (by omega)]; first | done | omega) | (rw [if_neg (by omega), if_neg (by omega), if_neg (by omega), if_neg (by omega), if_neg (by omega), if_neg (by omega), if_neg (by omega), if_pos (by omega)]; first | done | omega) | (rw [if_neg (by omega), if_neg (by omega), if_neg (by omega), if_neg (by omega), if_neg (by omega), if_neg (by omega), if_neg (by omega), if_neg (by omega), if_pos (by omega)]; first | done | omega) | (rw [if_neg (by omega), if_neg (by omega), if_neg (by omega), if_neg (by omega), if_neg (by omega), if_neg (by omega), if_neg (by omega), if_neg (by omega), if_neg (by omega)]; first | done | omega)
  by_cases s1_6 : what = 6
  · refine z_tableIn (tgt := 100) dX7_count_1 (by omega) (by omega) (by rw [s1_6]; rfl) (by decide) ?_
    refine z_aload_nr dX7_count_100 rfl ?_
    refine z_getr (b := 17) fl_X7_26 rfl (by decide) rf_0_2 rfl dX7_count_101 ?_
    refine z_geti (kz := 1) fl_X7_169 rfl (by decide) rfl dX7_count_104 (fun x8 hx8 bx8 => ?_)
    refine z_iret rfl (by decide) rfl (Nat.sub_self _) dX7_count_107 ?_
    refine ⟨OffX_rfl M, ?_⟩
    first | (rw [if_pos (by omega)]; first | done | omega) | (rw [if_neg (by omega), if_pos (by omega)]; first | done | omega) | (rw [if_neg (by omega), if_neg (by omega), if_pos (by omega)]; first | done | omega) | (rw [if_neg (by omega), if_neg (by omega), if_neg (by omega), if_pos (by omega)]; first | done | omega) | (rw [if_neg (by omega), if_neg (by omega), if_neg (by omega), if_neg (by omega), if_pos (by omega)]; first | done | omega) | (rw [if_neg (by omega), if_neg (by omega), if_neg (by omega), if_neg (by omega), if_neg (by omega), if_pos (by omega)]; first | done | omega) | (rw [if_neg (by omega), if_neg (by omega), if_neg (by omega), if_neg (by omega), if_neg (by omega), if_neg (by omega), if_pos (by omega)]; first | done | omega) | (rw [if_neg (by omega), if_neg (by omega), if_neg (by omega), if_neg (by omega), if_neg (by omega), if_neg (by omega), if_neg (by omega), if_pos (by omega)]; first | done | omega) | (rw [if_neg (by omega), if_neg (by omega), if_neg (by omega), if_neg (by omega), if_neg (by omega), if_neg (by omega), if_neg (by omega), if_neg (by omega), if_pos (by omega)]; first | done | omega) | (rw [if_neg (by omega), if_neg (by omega), if_neg (by omega), if_neg (by omega), if_neg (by omega), if_neg (by omega), if_neg (by omega), if_neg (by omega), if_neg (by omega)]; first | done | omega)
  by_cases s1_7 : what = 7
  · refine z_tableIn (tgt := 108) dX7_count_1 (by omega) (by omega) (by rw [s1_7]; rfl) (by decide) ?_
    refine z_aload_nr dX7_count_108 rfl ?_
    refine z_getz (kz := 10) fl_X7_69 rfl (by decide) rfl dX7_count_109 (fun x9 hx9 bx9 => ?_)
    refine z_callSip (n2 := 93) (A_X7_asNumber l g M x9 (by omega)) cb_X7_asNumber cl_X7_123 (clr0 rfl rfl (by decide) (by decide)) rfl (by decide) rfl (Nat.le_of_ble_eq_true rfl) rfl dX7_count_112 (fun x10 bx10 hx10 => ?_)
    have hq := hx10
    refine z_iret rfl (by decide) rfl (Nat.sub_self _) dX7_count_115 ?_
    refine ⟨OffX_rfl M, ?_⟩
    first | (rw [if_pos (by omega)]; first | done | omega) | (rw [if_neg (by omega), if_pos (by omega)]; first | done | omega) | (rw [if_neg (by omega), if_neg (by omega), if_pos (by omega)]; first | done | omega) | (rw [if_neg (by omega), if_neg (by omega), if_neg (by omega), if_pos (by omega)]; first | done | omega) | (rw [if_neg (by omega), if_neg (by omega), if_neg (by omega), if_neg (by omega), if_pos (by omega)]; first | done | omega) | (rw [if_neg (by omega), if_neg (by omega), if_neg (by omega), if_neg (by omega), if_neg (by omega), if_pos (by omega)]; first | done | omega) | (rw [if_neg (by omega), if_neg (by omega), if_neg (by omega), if_neg (by omega), if_neg (by omega), if_neg (by omega), if_pos (by omega)]; first | done | omega) | (rw [if_neg (by omega), if_neg (by omega), if_neg (by omega), if_neg (by omega), if_neg (by omega), if_neg (by omega), if_neg (by omega), if_pos (by omega)]; first | done | omega) | (rw [if_neg (by omega), if_neg (by omega), if_neg (by omega), if_neg (by omega), if_neg (by omega), if_neg (by omega), if_neg (by omega), if_neg (by omega), if_pos (by omega)]; first | done | omega) | (rw [if_neg (by omega), if_neg (by omega), if_neg (by omega), if_neg (by omega), if_neg (by omega), if_neg (by omega), if_neg (by omega), if_neg (by omega), if_neg (by omega)]; first | done | omega)
  by_cases s1_8 : what = 8
  · refine z_tableIn (tgt := 116) dX7_count_1 (by omega) (by omega) (by rw [s1_8]; rfl) (by decide) ?_
    refine z_aload_nr dX7_count_116 rfl ?_
    refine z_getr (b := 1) fl_X7_10 rfl (by decide) rf_0_0 rfl dX7_count_117 ?_
    refine z_iconst dX7_count_120 ⟨by decide, by decide⟩ ?_
    refine z_callVip (n2 := 93) (A_X5_howMany l g M 3 (by omega)) cb_X5_howMany cl_X7_160 (clr0 rfl rfl (by decide) (by decide)) rfl (by decide) ⟨_, rfl, rfl⟩ rfl (by decide) rfl (Nat.le_of_ble_eq_true rfl) rfl dX7_count_121 (fun x11 bx11 hx11 => ?_)
    have hq := hx11
    refine z_iret rfl (by decide) rfl (Nat.sub_self _) dX7_count_124 ?_
    refine ⟨OffX_rfl M, ?_⟩
    first | (rw [if_pos (by omega)]; first | done | exact hq) | (rw [if_neg (by omega), if_pos (by omega)]; first | done | exact hq) | (rw [if_neg (by omega), if_neg (by omega), if_pos (by omega)]; first | done | exact hq) | (rw [if_neg (by omega), if_neg (by omega), if_neg (by omega), if_pos (by omega)]; first | done | exact hq) | (rw [if_neg (by omega), if_neg (by omega), if_neg (by omega), if_neg (by omega), if_pos (by omega)]; first | done | exact hq) | (rw [if_neg (by omega), if_neg (by omega), if_neg (by omega), if_neg (by omega), if_neg (by omega), if_pos (by omega)]; first | done | exact hq) | (rw [if_neg (by omega), if_neg (by omega), if_neg (by omega), if_neg (by omega), if_neg (by omega), if_neg (by omega), if_pos (by omega)]; first | done | exact hq) | (rw [if_neg (by omega), if_neg (by omega), if_neg (by omega), if_neg (by omega), if_neg (by omega), if_neg (by omega), if_neg (by omega), if_pos (by omega)]; first | done | exact hq) | (rw [if_neg (by omega), if_neg (by omega), if_neg (by omega), if_neg (by omega), if_neg (by omega), if_neg (by omega), if_neg (by omega), if_neg (by omega), if_pos (by omega)]; first | done | exact hq) | (rw [if_neg (by omega), if_neg (by omega), if_neg (by omega), if_neg (by omega), if_neg (by omega), if_neg (by omega), if_neg (by omega), if_neg (by omega), if_neg (by omega)]; first | done | exact hq)
  refine z_tableOut (tgt := 125) dX7_count_1 (by omega) (by decide) ?_
  refine z_ldc (c := -1000002) cn_X7_87 ⟨by decide, by decide⟩ dX7_count_125 ?_
  refine z_iret rfl (by decide) rfl (Nat.sub_self _) dX7_count_127 ?_
  refine ⟨OffX_rfl M, ?_⟩
  first | (rw [if_pos (by omega)]; first | done | omega) | (rw [if_neg (by omega), if_pos (by omega)]; first | done | omega) | (rw [if_neg (by omega), if_neg (by omega), if_pos (by omega)]; first | done | omega) | (rw [if_neg (by omega), if_neg (by omega), if_neg (by omega), if_pos (by omega)]; first | done | omega) | (rw [if_neg (by omega), if_neg (by omega), if_neg (by omega), if_neg (by omega), if_pos (by omega)]; first | done | omega) | (rw [if_neg (by omega), if_neg (by omega), if_neg (by omega), if_neg (by omega), if_neg (by omega), if_pos (by omega)]; first | done | omega) | (rw [if_neg (by omega), if_neg (by omega), if_neg (by omega), if_neg (by omega), if_neg (by omega), if_neg (by omega), if_pos (by omega)]; first | done | omega) | (rw [if_neg (by omega), if_neg (by omega), if_neg (by omega), if_neg (by omega), if_neg (by omega), if_neg (by omega), if_neg (by omega), if_pos (by omega)]; first | done | omega) | (rw [if_neg (by omega), if_neg (by omega), if_neg (by omega), if_neg (by omega), if_neg (by omega), if_neg (by omega), if_neg (by omega), if_neg (by omega), if_pos (by omega)]; first | done | omega) | (rw [if_neg (by omega), if_neg (by omega), if_neg (by omega), if_neg (by omega), if_neg (by omega), if_neg (by omega), if_neg (by omega), if_neg (by omega), if_neg (by omega)]; first | done | omega)
set_option maxHeartbeats 400000 in
theorem A_X7_claim51 (l : Launch) (g : Cx) (M : FMem) (i what : Int) (hT : XT M 51) : AMi l g true fi_X7_claim [fr 0, fi i, fi what] 93 M (fun q M2 => OffX M M2 ∧ ClmX M 51 (SolT M 51 (M 1 13) (-1) (-1) (-1) 0) i what q) := by
  refine AMi_intro [fr 0, fi i, fi what] (by decide) (knall rfl) (Nat.le_of_ble_eq_true rfl) rfl ?_
  intro hNV hM0 μ
  have bi : N32 i := hNV (fi i) (by simp)
  have bwhat : N32 what := hNV (fi what) (by simp)
  have hcl := hT.2.2.2.2.2.2.2.2.1
  unfold ClmX
  simp only [Nat.reduceAdd]
  refine z_iload_n dX7_claim_0 rfl ?_
  refine z_if_lt (tgt := 15) dX7_claim_1 (by decide) (fun c1 => ?_) (fun c1 => ?_)
  · refine z_ldc (c := -1000001) cn_X7_82 ⟨by decide, by decide⟩ dX7_claim_15 ?_
    refine z_iret rfl (by decide) rfl (Nat.sub_self _) dX7_claim_17 ?_
    refine ⟨OffX_rfl M, ?_⟩
    rw [if_pos (by omega)]
  · refine z_iload_n dX7_claim_4 rfl ?_
    refine z_aload_nr dX7_claim_5 rfl ?_
    refine z_getv (b := 51) (kz := 6) fl_X7_54 rfl (by decide) rfl (fun _ => hT.2.2.1) dX7_claim_6 ?_
    refine z_geti (kz := 11) fl_X7_166 rfl (by decide) rfl dX7_claim_9 (fun x2 hx2 bx2 => ?_)
    refine z_icmp_lt (tgt := 18) dX7_claim_12 (by decide) (fun c3 => ?_) (fun c3 => ?_)
    · refine z_iload_n dX7_claim_18 rfl ?_
      by_cases s4_0 : what = 0
      · refine z_tableIn (tgt := 48) dX7_claim_19 (by omega) (by omega) (by rw [s4_0]; rfl) (by decide) ?_
        refine z_aload_nr dX7_claim_48 rfl ?_
        refine z_iload_n dX7_claim_49 rfl ?_
        refine z_callVi (n2 := 93) (A_X7_standOfClaim51 l g M i (hT) (by omega)) cb_X7_standOfClaim cl_X7_323 (clr0 rfl rfl (by decide) (by decide)) rfl (by decide) ⟨_, rfl, rfl⟩ rfl (by decide) rfl (Nat.le_of_ble_eq_true rfl) rfl dX7_claim_50 (fun x5 Mz5 bx5 kMz5 hc5 => ?_)
        have hq := hc5
        refine z_iret rfl (by decide) rfl (Nat.sub_self _) dX7_claim_53 ?_
        refine ⟨hq.1, ?_⟩
        rw [if_neg (by omega), if_pos (by omega)]
        exact hq.2
      by_cases s4_1 : what = 1
      · refine z_tableIn (tgt := 54) dX7_claim_19 (by omega) (by omega) (by rw [s4_1]; rfl) (by decide) ?_
        refine z_aload_nr dX7_claim_54 rfl ?_
        refine z_getv (b := 51) (kz := 6) fl_X7_54 rfl (by decide) rfl (fun _ => hT.2.2.1) dX7_claim_55 ?_
        refine z_getr (b := 57) fl_X7_326 rfl (by decide) rf_51_8 rfl dX7_claim_58 ?_
        refine z_iload_n dX7_claim_61 rfl ?_
        refine z_iald rfl (by decide) (by omega) (by omega) dX7_claim_62 (fun x6 hx6 bx6 => ?_)
        refine z_iret rfl (by decide) rfl (Nat.sub_self _) dX7_claim_63 ?_
        refine ⟨OffX_rfl M, ?_⟩
        rw [if_neg (by omega)]
        first | (rw [if_pos (by omega)]; first | done | omega) | (rw [if_neg (by omega), if_pos (by omega)]; first | done | omega) | (rw [if_neg (by omega), if_neg (by omega), if_pos (by omega)]; first | done | omega) | (rw [if_neg (by omega), if_neg (by omega), if_neg (by omega), if_pos (by omega)]; first | done | omega) | (rw [if_neg (by omega), if_neg (by omega), if_neg (by omega), if_neg (by omega)]; first | done | omega)
      by_cases s4_2 : what = 2
      · refine z_tableIn (tgt := 64) dX7_claim_19 (by omega) (by omega) (by rw [s4_2]; rfl) (by decide) ?_
        refine z_aload_nr dX7_claim_64 rfl ?_
        refine z_getv (b := 51) (kz := 6) fl_X7_54 rfl (by decide) rfl (fun _ => hT.2.2.1) dX7_claim_65 ?_
        refine z_getr (b := 58) fl_X7_329 rfl (by decide) rf_51_9 rfl dX7_claim_68 ?_
        refine z_iload_n dX7_claim_71 rfl ?_
        refine z_iald rfl (by decide) (by omega) (by omega) dX7_claim_72 (fun x7 hx7 bx7 => ?_)
        refine z_iret rfl (by decide) rfl (Nat.sub_self _) dX7_claim_73 ?_
        refine ⟨OffX_rfl M, ?_⟩
        rw [if_neg (by omega)]
        first | (rw [if_pos (by omega)]; first | done | omega) | (rw [if_neg (by omega), if_pos (by omega)]; first | done | omega) | (rw [if_neg (by omega), if_neg (by omega), if_pos (by omega)]; first | done | omega) | (rw [if_neg (by omega), if_neg (by omega), if_neg (by omega), if_pos (by omega)]; first | done | omega) | (rw [if_neg (by omega), if_neg (by omega), if_neg (by omega), if_neg (by omega)]; first | done | omega)
      by_cases s4_3 : what = 3
      · refine z_tableIn (tgt := 74) dX7_claim_19 (by omega) (by omega) (by rw [s4_3]; rfl) (by decide) ?_
        refine z_aload_nr dX7_claim_74 rfl ?_
        refine z_getv (b := 51) (kz := 6) fl_X7_54 rfl (by decide) rfl (fun _ => hT.2.2.1) dX7_claim_75 ?_
        refine z_getr (b := 59) fl_X7_332 rfl (by decide) rf_51_10 rfl dX7_claim_78 ?_
        refine z_iload_n dX7_claim_81 rfl ?_
        refine z_zald rfl (by decide) (by omega) (by omega) dX7_claim_82 (fun x8 hx8 bx8 => ?_)
        refine z_callSip (n2 := 93) (A_X7_asNumber l g M x8 (by have := mok_z hM0 (a := 59) rfl i; omega)) cb_X7_asNumber cl_X7_123 (clr0 rfl rfl (by decide) (by decide)) rfl (by decide) rfl (Nat.le_of_ble_eq_true rfl) rfl dX7_claim_83 (fun x9 bx9 hx9 => ?_)
        have hq := hx9
        refine z_iret rfl (by decide) rfl (Nat.sub_self _) dX7_claim_86 ?_
        refine ⟨OffX_rfl M, ?_⟩
        rw [if_neg (by omega)]
        first | (rw [if_pos (by omega)]; first | done | omega) | (rw [if_neg (by omega), if_pos (by omega)]; first | done | omega) | (rw [if_neg (by omega), if_neg (by omega), if_pos (by omega)]; first | done | omega) | (rw [if_neg (by omega), if_neg (by omega), if_neg (by omega), if_pos (by omega)]; first | done | omega) | (rw [if_neg (by omega), if_neg (by omega), if_neg (by omega), if_neg (by omega)]; first | done | omega)
      refine z_tableOut (tgt := 87) dX7_claim_19 (by omega) (by decide) ?_
      refine z_ldc (c := -1000002) cn_X7_87 ⟨by decide, by decide⟩ dX7_claim_87 ?_
      refine z_iret rfl (by decide) rfl (Nat.sub_self _) dX7_claim_89 ?_
      refine ⟨OffX_rfl M, ?_⟩
      rw [if_neg (by omega)]
      first | (rw [if_pos (by omega)]; first | done | omega) | (rw [if_neg (by omega), if_pos (by omega)]; first | done | omega) | (rw [if_neg (by omega), if_neg (by omega), if_pos (by omega)]; first | done | omega) | (rw [if_neg (by omega), if_neg (by omega), if_neg (by omega), if_pos (by omega)]; first | done | omega) | (rw [if_neg (by omega), if_neg (by omega), if_neg (by omega), if_neg (by omega)]; first | done | omega)
    · refine z_ldc (c := -1000001) cn_X7_82 ⟨by decide, by decide⟩ dX7_claim_15 ?_
      refine z_iret rfl (by decide) rfl (Nat.sub_self _) dX7_claim_17 ?_
      refine ⟨OffX_rfl M, ?_⟩
      rw [if_pos (by omega)]
