set_option maxHeartbeats 400000 in
theorem A_X7_lead42 (l : Launch) (g : Cx) (M : FMem) (home what i : Int) (hT : XT M 42) : AMi l g true fi_X7_lead [fr 0, fi home, fi what, fi i] 93 M (fun q M2 => OffX M M2 ∧ PLead (M 1 13) (inT M) (SolT M 42 (M 1 13) (-1) (-1) (-1) 0) (fun t => SolT M 42 (M 1 13) (-1) t (-1) 0) home what i q) := by
  refine AMi_intro [fr 0, fi home, fi what, fi i] (by decide) (knall rfl) (Nat.le_of_ble_eq_true rfl) rfl ?_
  intro hNV hM0 μ
  have bhome : N32 home := hNV (fi home) (by simp)
  have bwhat : N32 what := hNV (fi what) (by simp)
  have bi : N32 i := hNV (fi i) (by simp)
  have hts := hT.1
  unfold PLead
  refine z_iload_n dX7_lead_0 rfl ?_
  refine z_callSip (n2 := 93) (A_X7_isHome l g M home) cb_X7_isHome cl_X7_79 (clr0 rfl rfl (by decide) (by decide)) rfl (by decide) rfl (Nat.le_of_ble_eq_true rfl) rfl dX7_lead_1 (fun x1 bx1 hx1 => ?_)
  have i1 := if01 hx1
  refine z_if_ne (tgt := 10) dX7_lead_4 (by decide) (fun c2 => ?_) (fun c2 => ?_)
  · refine z_iload_n dX7_lead_10 rfl ?_
    refine z_callSip (n2 := 93) (A_X7_isEnd l g M what) cb_X7_isEnd cl_X7_213 (clr0 rfl rfl (by decide) (by decide)) rfl (by decide) rfl (Nat.le_of_ble_eq_true rfl) rfl dX7_lead_11 (fun x3 bx3 hx3 => ?_)
    have i3 := if01 hx3
    refine z_if_ne (tgt := 20) dX7_lead_14 (by decide) (fun c4 => ?_) (fun c4 => ?_)
    · refine z_aload_nr dX7_lead_20 rfl ?_
      refine z_callVi (n2 := 93) (A_X7_quarrelsNow42 l g M (hT)) cb_X7_quarrelsNow cl_X7_235 (clr0 rfl rfl (by decide) (by decide)) rfl (by decide) ⟨_, rfl, rfl⟩ rfl (by decide) rfl (Nat.le_of_ble_eq_true rfl) rfl dX7_lead_21 (fun x5 Mz5 bx5 kMz5 hc5 => ?_)
      have hRD := hc5.1.1
      have hTR := hc5.1.2
      have hqq := hc5.2
      refine z_if_eq (tgt := 30) dX7_lead_24 (by decide) (fun c6 => ?_) (fun c6 => ?_)
      · have hfe : Feas (SolT M 42 (M 1 13) (-1) (-1) (-1) 0) := by rcases hqq with q | q; exact q.2; omega
        rcases (show what = 1 ∨ what = 0 by omega) with rfl | rfl
        · have hfe : Feas (SolT M 42 (M 1 13) (-1) (-1) (-1) 0) := by rcases hqq with q | q; exact q.2; omega
          refine z_aload_nr dX7_lead_30 rfl ?_
          refine z_getr (b := 20) fl_X7_33 rfl (by decide) rf_0_3 rfl dX7_lead_31 ?_
          refine z_bipush dX7_lead_34 ⟨by decide, by decide⟩ (by decide) ?_
          refine z_iload_n dX7_lead_36 rfl ?_
          refine z_callVv (n2 := 93) (A_X1_reach1 l g Mz5 16 (by omega) (hRD.2.1) (feas1 hRD hfe)) cb_X1_reach cl_X7_223 (clr0 rfl rfl (by decide) (by decide)) rfl (by decide) ⟨_, rfl, rfl⟩ rfl (by decide) rfl (Nat.le_of_ble_eq_true rfl) rfl dX7_lead_37 (fun Mz7 kMz7 hc7 => ?_)
          have hF := hc7
          have hend := by first | exact RF_end hRD hfe (by omega) hF (v := home) (by omega) | exact RF_end0 hRD hfe (by omega) hF (v := home) (by omega)
          have hofx : OffX M Mz7 := fun b j q => (hF.1 b j (by omega) (by omega)).trans (hRD.1.1 b j (by omega))
          refine z_aload_nr dX7_lead_40 rfl ?_
          refine z_getr (b := 20) fl_X7_33 rfl (by decide) rf_0_3 rfl dX7_lead_41 ?_
          refine z_iload_n dX7_lead_44 rfl ?_
          refine z_callVip (n2 := 93) (A_X1_isReached l g Mz7 home (by omega)) cb_X1_isReached cl_X7_227 (clr0 rfl rfl (by decide) (by decide)) rfl (by decide) ⟨_, rfl, rfl⟩ rfl (by decide) rfl (Nat.le_of_ble_eq_true rfl) rfl dX7_lead_45 (fun x8 bx8 hx8 => ?_)
          have i8 := if10 hx8
          refine z_if_eq (tgt := 61) dX7_lead_48 (by decide) (fun c9 => ?_) (fun c9 => ?_)
          · refine z_ldc (c := -1000006) cn_X7_230 ⟨by decide, by decide⟩ dX7_lead_61 ?_
            refine z_iret rfl (by decide) rfl (Nat.sub_self _) dX7_lead_63 ?_
            first
            | (refine ⟨hld.1, ?_⟩
               rw [if_neg (by omega), if_neg (by omega)]
               refine Or.inr (Or.inr ⟨hfe, fun z => ?_, hld.2⟩)
               rcases hend with q | q
               · omega
               · first | exact MaxD_free q.2.1 z | exact MaxD_free q.2.1 (FreeD_sym z))
            | (refine ⟨hofx, ?_⟩
               rw [if_neg (by omega), if_neg (by omega)]
               refine Or.inr (Or.inl ⟨hfe, ?_, rfl⟩)
               rcases hend with q | q
               · exact q.2
               · omega)
          · refine z_aload_nr dX7_lead_51 rfl ?_
            refine z_iload_n dX7_lead_52 rfl ?_
            refine z_iload_n dX7_lead_53 rfl ?_
            refine z_iload_n dX7_lead_54 rfl ?_
            refine z_callVi (n2 := 93) (A_X7_leadOf42_1 l g Mz7 home i _ _ (hT) (by omega) (hRD) (hTR) (hF) (hfe) (by omega)) cb_X7_leadOf cl_X7_274 (clr0 rfl rfl (by decide) (by decide)) rfl (by decide) ⟨_, rfl, rfl⟩ rfl (by decide) rfl (Nat.le_of_ble_eq_true rfl) rfl dX7_lead_55 (fun x10 Mz10 bx10 kMz10 hc10 => ?_)
            have hld := hc10
            refine z_goto (tgt := 63) dX7_lead_58 (by decide) ?_
            refine z_iret rfl (by decide) rfl (Nat.sub_self _) dX7_lead_63 ?_
            first
            | (refine ⟨hld.1, ?_⟩
               rw [if_neg (by omega), if_neg (by omega)]
               refine Or.inr (Or.inr ⟨hfe, fun z => ?_, hld.2⟩)
               rcases hend with q | q
               · omega
               · first | exact MaxD_free q.2.1 z | exact MaxD_free q.2.1 (FreeD_sym z))
            | (refine ⟨hofx, ?_⟩
               rw [if_neg (by omega), if_neg (by omega)]
               refine Or.inr (Or.inl ⟨hfe, ?_, rfl⟩)
               rcases hend with q | q
               · exact q.2
               · omega)
        · have hfe : Feas (SolT M 42 (M 1 13) (-1) (-1) (-1) 0) := by rcases hqq with q | q; exact q.2; omega
          refine z_aload_nr dX7_lead_30 rfl ?_
          refine z_getr (b := 20) fl_X7_33 rfl (by decide) rf_0_3 rfl dX7_lead_31 ?_
          refine z_bipush dX7_lead_34 ⟨by decide, by decide⟩ (by decide) ?_
          refine z_iload_n dX7_lead_36 rfl ?_
          refine z_callVv (n2 := 93) (A_X1_reach0 l g Mz5 16 (by omega) (hRD.2.1) (feas0 hRD hfe)) cb_X1_reach cl_X7_223 (clr0 rfl rfl (by decide) (by decide)) rfl (by decide) ⟨_, rfl, rfl⟩ rfl (by decide) rfl (Nat.le_of_ble_eq_true rfl) rfl dX7_lead_37 (fun Mz11 kMz11 hc11 => ?_)
          have hF := hc11
          have hend := by first | exact RF_end hRD hfe (by omega) hF (v := home) (by omega) | exact RF_end0 hRD hfe (by omega) hF (v := home) (by omega)
          have hofx : OffX M Mz11 := fun b j q => (hF.1 b j (by omega) (by omega)).trans (hRD.1.1 b j (by omega))
          refine z_aload_nr dX7_lead_40 rfl ?_
          refine z_getr (b := 20) fl_X7_33 rfl (by decide) rf_0_3 rfl dX7_lead_41 ?_
          refine z_iload_n dX7_lead_44 rfl ?_
          refine z_callVip (n2 := 93) (A_X1_isReached l g Mz11 home (by omega)) cb_X1_isReached cl_X7_227 (clr0 rfl rfl (by decide) (by decide)) rfl (by decide) ⟨_, rfl, rfl⟩ rfl (by decide) rfl (Nat.le_of_ble_eq_true rfl) rfl dX7_lead_45 (fun x12 bx12 hx12 => ?_)
          have i12 := if10 hx12
          refine z_if_eq (tgt := 61) dX7_lead_48 (by decide) (fun c13 => ?_) (fun c13 => ?_)
          · refine z_ldc (c := -1000006) cn_X7_230 ⟨by decide, by decide⟩ dX7_lead_61 ?_
            refine z_iret rfl (by decide) rfl (Nat.sub_self _) dX7_lead_63 ?_
            first
            | (refine ⟨hld.1, ?_⟩
               rw [if_neg (by omega), if_neg (by omega)]
               refine Or.inr (Or.inr ⟨hfe, fun z => ?_, hld.2⟩)
               rcases hend with q | q
               · omega
               · first | exact MaxD_free q.2.1 z | exact MaxD_free q.2.1 (FreeD_sym z))
            | (refine ⟨hofx, ?_⟩
               rw [if_neg (by omega), if_neg (by omega)]
               refine Or.inr (Or.inl ⟨hfe, ?_, rfl⟩)
               rcases hend with q | q
               · exact q.2
               · omega)
          · refine z_aload_nr dX7_lead_51 rfl ?_
            refine z_iload_n dX7_lead_52 rfl ?_
            refine z_iload_n dX7_lead_53 rfl ?_
            refine z_iload_n dX7_lead_54 rfl ?_
            refine z_callVi (n2 := 93) (A_X7_leadOf42_0 l g Mz11 home i _ _ (hT) (by omega) (hRD) (hTR) (hF) (hfe) (by omega)) cb_X7_leadOf cl_X7_274 (clr0 rfl rfl (by decide) (by decide)) rfl (by decide) ⟨_, rfl, rfl⟩ rfl (by decide) rfl (Nat.le_of_ble_eq_true rfl) rfl dX7_lead_55 (fun x14 Mz14 bx14 kMz14 hc14 => ?_)
            have hld := hc14
            refine z_goto (tgt := 63) dX7_lead_58 (by decide) ?_
            refine z_iret rfl (by decide) rfl (Nat.sub_self _) dX7_lead_63 ?_
            first
            | (refine ⟨hld.1, ?_⟩
               rw [if_neg (by omega), if_neg (by omega)]
               refine Or.inr (Or.inr ⟨hfe, fun z => ?_, hld.2⟩)
               rcases hend with q | q
               · omega
               · first | exact MaxD_free q.2.1 z | exact MaxD_free q.2.1 (FreeD_sym z))
            | (refine ⟨hofx, ?_⟩
               rw [if_neg (by omega), if_neg (by omega)]
               refine Or.inr (Or.inl ⟨hfe, ?_, rfl⟩)
               rcases hend with q | q
               · exact q.2
               · omega)
      · refine z_ldc (c := -1000005) cn_X7_222 ⟨by decide, by decide⟩ dX7_lead_27 ?_
        refine z_iret rfl (by decide) rfl (Nat.sub_self _) dX7_lead_29 ?_
        refine ⟨RD_X hRD, ?_⟩
        rw [if_neg (by omega), if_neg (by omega)]
        refine Or.inl ⟨?_, rfl⟩
        rcases hqq with q | q
        · omega
        · exact q.2
    · refine z_ldc (c := -1000002) cn_X7_87 ⟨by decide, by decide⟩ dX7_lead_17 ?_
      refine z_iret rfl (by decide) rfl (Nat.sub_self _) dX7_lead_19 ?_
      refine ⟨OffX_rfl M, ?_⟩
      rw [if_neg (by omega), if_pos (by omega)]
  · refine z_ldc (c := -1000001) cn_X7_82 ⟨by decide, by decide⟩ dX7_lead_7 ?_
    refine z_iret rfl (by decide) rfl (Nat.sub_self _) dX7_lead_9 ?_
    refine ⟨OffX_rfl M, ?_⟩
    rw [if_pos (by omega)]
set_option maxHeartbeats 400000 in
theorem A_X7_lead51 (l : Launch) (g : Cx) (M : FMem) (home what i : Int) (hT : XT M 51) : AMi l g true fi_X7_lead [fr 0, fi home, fi what, fi i] 93 M (fun q M2 => OffX M M2 ∧ PLead (M 1 13) (inT M) (SolT M 51 (M 1 13) (-1) (-1) (-1) 0) (fun t => SolT M 51 (M 1 13) (-1) t (-1) 0) home what i q) := by
  refine AMi_intro [fr 0, fi home, fi what, fi i] (by decide) (knall rfl) (Nat.le_of_ble_eq_true rfl) rfl ?_
  intro hNV hM0 μ
  have bhome : N32 home := hNV (fi home) (by simp)
  have bwhat : N32 what := hNV (fi what) (by simp)
  have bi : N32 i := hNV (fi i) (by simp)
  have hts := hT.1
  unfold PLead
  refine z_iload_n dX7_lead_0 rfl ?_
  refine z_callSip (n2 := 93) (A_X7_isHome l g M home) cb_X7_isHome cl_X7_79 (clr0 rfl rfl (by decide) (by decide)) rfl (by decide) rfl (Nat.le_of_ble_eq_true rfl) rfl dX7_lead_1 (fun x1 bx1 hx1 => ?_)
  have i1 := if01 hx1
  refine z_if_ne (tgt := 10) dX7_lead_4 (by decide) (fun c2 => ?_) (fun c2 => ?_)
  · refine z_iload_n dX7_lead_10 rfl ?_
    refine z_callSip (n2 := 93) (A_X7_isEnd l g M what) cb_X7_isEnd cl_X7_213 (clr0 rfl rfl (by decide) (by decide)) rfl (by decide) rfl (Nat.le_of_ble_eq_true rfl) rfl dX7_lead_11 (fun x3 bx3 hx3 => ?_)
    have i3 := if01 hx3
    refine z_if_ne (tgt := 20) dX7_lead_14 (by decide) (fun c4 => ?_) (fun c4 => ?_)
    · refine z_aload_nr dX7_lead_20 rfl ?_
      refine z_callVi (n2 := 93) (A_X7_quarrelsNow51 l g M (hT)) cb_X7_quarrelsNow cl_X7_235 (clr0 rfl rfl (by decide) (by decide)) rfl (by decide) ⟨_, rfl, rfl⟩ rfl (by decide) rfl (Nat.le_of_ble_eq_true rfl) rfl dX7_lead_21 (fun x5 Mz5 bx5 kMz5 hc5 => ?_)
      have hRD := hc5.1.1
      have hTR := hc5.1.2
      have hqq := hc5.2
      refine z_if_eq (tgt := 30) dX7_lead_24 (by decide) (fun c6 => ?_) (fun c6 => ?_)
      · have hfe : Feas (SolT M 51 (M 1 13) (-1) (-1) (-1) 0) := by rcases hqq with q | q; exact q.2; omega
        rcases (show what = 1 ∨ what = 0 by omega) with rfl | rfl
        · have hfe : Feas (SolT M 51 (M 1 13) (-1) (-1) (-1) 0) := by rcases hqq with q | q; exact q.2; omega
          refine z_aload_nr dX7_lead_30 rfl ?_
          refine z_getr (b := 20) fl_X7_33 rfl (by decide) rf_0_3 rfl dX7_lead_31 ?_
          refine z_bipush dX7_lead_34 ⟨by decide, by decide⟩ (by decide) ?_
          refine z_iload_n dX7_lead_36 rfl ?_
          refine z_callVv (n2 := 93) (A_X1_reach1 l g Mz5 16 (by omega) (hRD.2.1) (feas1 hRD hfe)) cb_X1_reach cl_X7_223 (clr0 rfl rfl (by decide) (by decide)) rfl (by decide) ⟨_, rfl, rfl⟩ rfl (by decide) rfl (Nat.le_of_ble_eq_true rfl) rfl dX7_lead_37 (fun Mz7 kMz7 hc7 => ?_)
          have hF := hc7
          have hend := by first | exact RF_end hRD hfe (by omega) hF (v := home) (by omega) | exact RF_end0 hRD hfe (by omega) hF (v := home) (by omega)
          have hofx : OffX M Mz7 := fun b j q => (hF.1 b j (by omega) (by omega)).trans (hRD.1.1 b j (by omega))
          refine z_aload_nr dX7_lead_40 rfl ?_
          refine z_getr (b := 20) fl_X7_33 rfl (by decide) rf_0_3 rfl dX7_lead_41 ?_
          refine z_iload_n dX7_lead_44 rfl ?_
          refine z_callVip (n2 := 93) (A_X1_isReached l g Mz7 home (by omega)) cb_X1_isReached cl_X7_227 (clr0 rfl rfl (by decide) (by decide)) rfl (by decide) ⟨_, rfl, rfl⟩ rfl (by decide) rfl (Nat.le_of_ble_eq_true rfl) rfl dX7_lead_45 (fun x8 bx8 hx8 => ?_)
          have i8 := if10 hx8
          refine z_if_eq (tgt := 61) dX7_lead_48 (by decide) (fun c9 => ?_) (fun c9 => ?_)
          · refine z_ldc (c := -1000006) cn_X7_230 ⟨by decide, by decide⟩ dX7_lead_61 ?_
            refine z_iret rfl (by decide) rfl (Nat.sub_self _) dX7_lead_63 ?_
            first
            | (refine ⟨hld.1, ?_⟩
               rw [if_neg (by omega), if_neg (by omega)]
               refine Or.inr (Or.inr ⟨hfe, fun z => ?_, hld.2⟩)
               rcases hend with q | q
               · omega
               · first | exact MaxD_free q.2.1 z | exact MaxD_free q.2.1 (FreeD_sym z))
            | (refine ⟨hofx, ?_⟩
               rw [if_neg (by omega), if_neg (by omega)]
               refine Or.inr (Or.inl ⟨hfe, ?_, rfl⟩)
               rcases hend with q | q
               · exact q.2
               · omega)
          · refine z_aload_nr dX7_lead_51 rfl ?_
            refine z_iload_n dX7_lead_52 rfl ?_
            refine z_iload_n dX7_lead_53 rfl ?_
            refine z_iload_n dX7_lead_54 rfl ?_
            refine z_callVi (n2 := 93) (A_X7_leadOf51_1 l g Mz7 home i _ _ (hT) (by omega) (hRD) (hTR) (hF) (hfe) (by omega)) cb_X7_leadOf cl_X7_274 (clr0 rfl rfl (by decide) (by decide)) rfl (by decide) ⟨_, rfl, rfl⟩ rfl (by decide) rfl (Nat.le_of_ble_eq_true rfl) rfl dX7_lead_55 (fun x10 Mz10 bx10 kMz10 hc10 => ?_)
            have hld := hc10
            refine z_goto (tgt := 63) dX7_lead_58 (by decide) ?_
            refine z_iret rfl (by decide) rfl (Nat.sub_self _) dX7_lead_63 ?_
            first
            | (refine ⟨hld.1, ?_⟩
               rw [if_neg (by omega), if_neg (by omega)]
               refine Or.inr (Or.inr ⟨hfe, fun z => ?_, hld.2⟩)
               rcases hend with q | q
               · omega
               · first | exact MaxD_free q.2.1 z | exact MaxD_free q.2.1 (FreeD_sym z))
            | (refine ⟨hofx, ?_⟩
               rw [if_neg (by omega), if_neg (by omega)]
               refine Or.inr (Or.inl ⟨hfe, ?_, rfl⟩)
               rcases hend with q | q
               · exact q.2
               · omega)
        · have hfe : Feas (SolT M 51 (M 1 13) (-1) (-1) (-1) 0) := by rcases hqq with q | q; exact q.2; omega
          refine z_aload_nr dX7_lead_30 rfl ?_
          refine z_getr (b := 20) fl_X7_33 rfl (by decide) rf_0_3 rfl dX7_lead_31 ?_
          refine z_bipush dX7_lead_34 ⟨by decide, by decide⟩ (by decide) ?_
          refine z_iload_n dX7_lead_36 rfl ?_
          refine z_callVv (n2 := 93) (A_X1_reach0 l g Mz5 16 (by omega) (hRD.2.1) (feas0 hRD hfe)) cb_X1_reach cl_X7_223 (clr0 rfl rfl (by decide) (by decide)) rfl (by decide) ⟨_, rfl, rfl⟩ rfl (by decide) rfl (Nat.le_of_ble_eq_true rfl) rfl dX7_lead_37 (fun Mz11 kMz11 hc11 => ?_)
          have hF := hc11
          have hend := by first | exact RF_end hRD hfe (by omega) hF (v := home) (by omega) | exact RF_end0 hRD hfe (by omega) hF (v := home) (by omega)
          have hofx : OffX M Mz11 := fun b j q => (hF.1 b j (by omega) (by omega)).trans (hRD.1.1 b j (by omega))
          refine z_aload_nr dX7_lead_40 rfl ?_
          refine z_getr (b := 20) fl_X7_33 rfl (by decide) rf_0_3 rfl dX7_lead_41 ?_
          refine z_iload_n dX7_lead_44 rfl ?_
          refine z_callVip (n2 := 93) (A_X1_isReached l g Mz11 home (by omega)) cb_X1_isReached cl_X7_227 (clr0 rfl rfl (by decide) (by decide)) rfl (by decide) ⟨_, rfl, rfl⟩ rfl (by decide) rfl (Nat.le_of_ble_eq_true rfl) rfl dX7_lead_45 (fun x12 bx12 hx12 => ?_)
          have i12 := if10 hx12
          refine z_if_eq (tgt := 61) dX7_lead_48 (by decide) (fun c13 => ?_) (fun c13 => ?_)
          · refine z_ldc (c := -1000006) cn_X7_230 ⟨by decide, by decide⟩ dX7_lead_61 ?_
            refine z_iret rfl (by decide) rfl (Nat.sub_self _) dX7_lead_63 ?_
            first
            | (refine ⟨hld.1, ?_⟩
               rw [if_neg (by omega), if_neg (by omega)]
               refine Or.inr (Or.inr ⟨hfe, fun z => ?_, hld.2⟩)
               rcases hend with q | q
               · omega
               · first | exact MaxD_free q.2.1 z | exact MaxD_free q.2.1 (FreeD_sym z))
            | (refine ⟨hofx, ?_⟩
               rw [if_neg (by omega), if_neg (by omega)]
               refine Or.inr (Or.inl ⟨hfe, ?_, rfl⟩)
               rcases hend with q | q
               · exact q.2
               · omega)
          · refine z_aload_nr dX7_lead_51 rfl ?_
            refine z_iload_n dX7_lead_52 rfl ?_
            refine z_iload_n dX7_lead_53 rfl ?_
            refine z_iload_n dX7_lead_54 rfl ?_
            refine z_callVi (n2 := 93) (A_X7_leadOf51_0 l g Mz11 home i _ _ (hT) (by omega) (hRD) (hTR) (hF) (hfe) (by omega)) cb_X7_leadOf cl_X7_274 (clr0 rfl rfl (by decide) (by decide)) rfl (by decide) ⟨_, rfl, rfl⟩ rfl (by decide) rfl (Nat.le_of_ble_eq_true rfl) rfl dX7_lead_55 (fun x14 Mz14 bx14 kMz14 hc14 => ?_)
            have hld := hc14
            refine z_goto (tgt := 63) dX7_lead_58 (by decide) ?_
            refine z_iret rfl (by decide) rfl (Nat.sub_self _) dX7_lead_63 ?_
            first
            | (refine ⟨hld.1, ?_⟩
               rw [if_neg (by omega), if_neg (by omega)]
               refine Or.inr (Or.inr ⟨hfe, fun z => ?_, hld.2⟩)
               rcases hend with q | q
               · omega
               · first | exact MaxD_free q.2.1 z | exact MaxD_free q.2.1 (FreeD_sym z))
            | (refine ⟨hofx, ?_⟩
               rw [if_neg (by omega), if_neg (by omega)]
               refine Or.inr (Or.inl ⟨hfe, ?_, rfl⟩)
               rcases hend with q | q
               · exact q.2
               · omega)
      · refine z_ldc (c := -1000005) cn_X7_222 ⟨by decide, by decide⟩ dX7_lead_27 ?_
        refine z_iret rfl (by decide) rfl (Nat.sub_self _) dX7_lead_29 ?_
        refine ⟨RD_X hRD, ?_⟩
        rw [if_neg (by omega), if_neg (by omega)]
        refine Or.inl ⟨?_, rfl⟩
        rcases hqq with q | q
        · omega
        · exact q.2
    · refine z_ldc (c := -1000002) cn_X7_87 ⟨by decide, by decide⟩ dX7_lead_17 ?_
      refine z_iret rfl (by decide) rfl (Nat.sub_self _) dX7_lead_19 ?_
      refine ⟨OffX_rfl M, ?_⟩
      rw [if_neg (by omega), if_pos (by omega)]
  · refine z_ldc (c := -1000001) cn_X7_82 ⟨by decide, by decide⟩ dX7_lead_7 ?_
    refine z_iret rfl (by decide) rfl (Nat.sub_self _) dX7_lead_9 ?_
    refine ⟨OffX_rfl M, ?_⟩
    rw [if_pos (by omega)]
/-! ===== the wide ===== -/
def tabV (k : Int) : Int := fTab.getD k.toNat 0
def p10 (f : Int) : Int := 10 ^ (f / 5000).toNat
def farL (f : Int) : Int := tabV (f % 5000 / 100) * p10 f
def farU (f : Int) : Int := if f % 100 = 0 then (if f % 5000 / 100 = 0 then farL f else farL f + p10 f) else (if f % 5000 / 100 + 1 < 50 then (tabV (f % 5000 / 100 + 1) + 1) * p10 f else 10000 * p10 f)
theorem pow10 {n : Int} (h0 : 0 ≤ n) (h1 : n ≤ 8) : 1 ≤ (10 : Int) ^ n.toNat ∧ (10 : Int) ^ n.toNat ≤ 100000000 := by
  have : n = 0 ∨ n = 1 ∨ n = 2 ∨ n = 3 ∨ n = 4 ∨ n = 5 ∨ n = 6 ∨ n = 7 ∨ n = 8 := by omega
  rcases this with rfl | rfl | rfl | rfl | rfl | rfl | rfl | rfl | rfl <;> decide
theorem tabV_b (k : Int) : 0 ≤ tabV k ∧ tabV k ≤ 9549 := by
  have h : fTab.all (fun x => decide (0 ≤ x) && decide (x ≤ 9549)) = true := by decide +kernel
  unfold tabV
  rw [List.getD_eq_getElem?_getD]
  cases hx : fTab[k.toNat]? with
  | none => simp
  | some x =>
    have := List.all_eq_true.mp h x (List.mem_of_getElem? hx)
    simpa using this
theorem mulp {a b A B : Int} (ha : 0 ≤ a ∧ a ≤ A) (hb : 0 ≤ b ∧ b ≤ B) : 0 ≤ a * b ∧ a * b ≤ A * B := by
  have := mulb (A := A) (B := B) (show -A ≤ a ∧ a ≤ A by omega) (show -B ≤ b ∧ b ≤ B by omega)
  have := Int.mul_nonneg ha.1 hb.1
  omega
theorem far_b {f : Int} (h : 0 ≤ f ∧ f ≤ 40000) : (0 ≤ farL f ∧ farL f ≤ 1000000000000) ∧ (0 ≤ farU f ∧ farU f ≤ 1100000000000) := by
  have hp := pow10 (n := f / 5000) (by omega) (by omega)
  have h1 := tabV_b (f % 5000 / 100)
  have h2 := tabV_b (f % 5000 / 100 + 1)
  have m1 := mulp h1 (show 0 ≤ p10 f ∧ p10 f ≤ 100000000 by unfold p10; omega)
  have m2 := mulp (show 0 ≤ tabV (f % 5000 / 100 + 1) + 1 ∧ tabV (f % 5000 / 100 + 1) + 1 ≤ 9550 by omega) (show 0 ≤ p10 f ∧ p10 f ≤ 100000000 by unfold p10; omega)
  have hp' : 1 ≤ p10 f ∧ p10 f ≤ 100000000 := hp
  unfold farU farL
  split <;> split <;> omega
set_option maxHeartbeats 400000 in
theorem A_X6_tenTimes (l : Launch) (g : Cx) (M : FMem) (n : Int) (hn : 0 ≤ n ∧ n ≤ 8) : AMl l g true fi_X6_tenTimes [fi n] 93 M (fun r M2 => M2 = M ∧ (fun r => r = 10 ^ n.toNat) r) := by
  refine AMl_intro [fi n, fu, fu, fu] (by decide) (knall rfl) (Nat.le_of_ble_eq_true rfl) rfl ?_
  intro hNV hM0 μ
  have bn : N32 n := hNV (fi n) (by simp)
  have lp4 : ∀ (kq : Nat) (i t : Int), (n - i).toNat = kq → (0 ≤ i ∧ i ≤ n) → (t = 10 ^ i.toNat) → Wa l g true fi_X6_tenTimes 93 μ (Zl g true fi_X6_tenTimes 93 μ (fun r M2 => M2 = M ∧ (fun r => r = 10 ^ n.toNat) r)) 4 [] [fi n, fl t, fu, fi i] 93 M := by
    intro kq
    induction kq using Nat.strongRecOn with
    | _ kq ih4 =>
    intro i t hk4 h0 h1
    have hp := pow10 h0.1 (show i ≤ 8 by omega)
    refine z_iload_n dX6_tenTimes_4 rfl ?_
    refine z_iload_n dX6_tenTimes_5 rfl ?_
    refine z_icmp_ge (tgt := 21) dX6_tenTimes_6 (by decide) (fun c1 => ?_) (fun c1 => ?_)
    · refine z_lload_n dX6_tenTimes_21 rfl ?_
      refine z_lret rfl (by decide) rfl (Nat.sub_self _) dX6_tenTimes_22 ?_
      exact ⟨rfl, by rw [h1, show i = n by omega]⟩
    · refine z_lload_n dX6_tenTimes_9 rfl ?_
      refine z_ldc2 (c := 10) cn_X6_42 ⟨by decide, by decide⟩ dX6_tenTimes_10 ?_
      first | refine z_lmulN dX6_tenTimes_13 (by omega) (fun x2 hx2 => ?_) | refine z_lmul dX6_tenTimes_13 (fun x2 hx2 => ?_)
      refine z_lstore_n (loc2 := [fi n, fl x2, fu, fi i]) dX6_tenTimes_14 (by decide) rfl ?_
      refine z_iinc (loc2 := fun vq => [fi n, fl x2, fu, fi vq]) dX6_tenTimes_15 rfl (by decide) (by omega) (fun _ => rfl) (fun x3 hx3 => ?_)
      refine z_goto (tgt := 4) dX6_tenTimes_18 (by decide) ?_
      exact ih4 _ (by omega) x3 x2 rfl (by omega) (by rw [hx3, hx2, h1, show (i + 1).toNat = i.toNat + 1 by omega, Int.pow_succ])
  refine z_lconst1 dX6_tenTimes_0 ?_
  refine z_lstore_n (loc2 := [fi n, fl 1, fu, fu]) dX6_tenTimes_1 (by decide) rfl ?_
  refine z_iconst dX6_tenTimes_2 ⟨by decide, by decide⟩ ?_
  refine z_istore_n (loc2 := [fi n, fl 1, fu, fi 0]) dX6_tenTimes_3 (by decide) rfl ?_
  exact lp4 _ 0 1 rfl (by omega) (rfl)
set_option maxHeartbeats 400000 in
theorem A_X6_atLeast (l : Launch) (g : Cx) (M : FMem) (f : Int) (hf : 0 ≤ f ∧ f ≤ 40000) : AMl l g true fi_X6_atLeast [fi f] 93 M (fun r M2 => M2 = M ∧ (fun r => r = farL f) r) := by
  refine AMl_intro [fi f, fu] (by decide) (knall rfl) (Nat.le_of_ble_eq_true rfl) rfl ?_
  intro hNV hM0 μ
  have bf : N32 f := hNV (fi f) (by simp)
  have hp := pow10 (n := f / 5000) (by omega) (by omega)
  have ht := tabV_b (f % 5000 / 100)
  have hpp : 0 ≤ p10 f ∧ p10 f ≤ 100000000 := ⟨by unfold p10; omega, hp.2⟩
  have hmm := mulp ht hpp
  refine z_iload_n dX6_atLeast_0 rfl ?_
  refine z_sipush dX6_atLeast_1 ⟨by decide, by decide⟩ (by decide) ?_
  have hm0 : f.tmod 5000 = f % 5000 := Int.tmod_eq_emod_of_nonneg (by omega)
  refine z_irem dX6_atLeast_4 (by omega) (fun x1 hx1 => ?_)
  refine z_bipush dX6_atLeast_5 ⟨by decide, by decide⟩ (by decide) ?_
  have hd1 := tdiv_cs x1 100 (by decide)
  refine z_idiv dX6_atLeast_7 (by omega) (by omega) (fun x2 hx2 => ?_)
  refine z_istore_n (loc2 := [fi f, fi x2]) dX6_atLeast_8 (by decide) rfl ?_
  refine z_iload_n dX6_atLeast_9 rfl ?_
  refine z_if_lt (tgt := 39) dX6_atLeast_10 (by decide) (fun c3 => ?_) (fun c3 => ?_)
  · exfalso; omega
  · refine z_iload_n dX6_atLeast_13 rfl ?_
    refine z_gets ft_X6_30 dX6_atLeast_14 ?_
    refine z_tlen dX6_atLeast_17 ?_
    refine z_icmp_ge (tgt := 39) dX6_atLeast_18 (by decide) (fun c4 => ?_) (fun c4 => ?_)
    · exfalso; omega
    · refine z_gets ft_X6_30 dX6_atLeast_21 ?_
      refine z_iload_n dX6_atLeast_24 rfl ?_
      refine z_tld (by omega) (by omega) dX6_atLeast_25 (fun x5 hx5 bx5 => ?_)
      refine z_i2l dX6_atLeast_26 ?_
      refine z_iload_n dX6_atLeast_27 rfl ?_
      refine z_sipush dX6_atLeast_28 ⟨by decide, by decide⟩ (by decide) ?_
      have hd2 := tdiv_cs f 5000 (by decide)
      refine z_idiv dX6_atLeast_31 (by omega) (by omega) (fun x6 hx6 => ?_)
      have h5 : x6 = f / 5000 := by omega
      refine z_callSlp (n2 := 93) (A_X6_tenTimes l g M x6 (by omega)) cb_X6_tenTimes cl_X6_33 (clr0 rfl rfl (by decide) (by decide)) rfl (by decide) rfl (Nat.le_of_ble_eq_true rfl) rfl dX6_atLeast_32 (fun x7 bx7 hx7 => ?_)
      have ha : x5 = tabV (f % 5000 / 100) := by rw [hx5]; unfold tabV; rw [show x2 = f % 5000 / 100 by omega]
      have hb : x7 = p10 f := by rw [hx7, h5]; rfl
      have hx : x5 * x7 = farL f := by rw [ha, hb]; rfl
      refine z_lmulN dX6_atLeast_35 (by rw [hx]; unfold farL; omega) (fun x8 hx8 => ?_)
      refine z_goto (tgt := 40) dX6_atLeast_36 (by decide) ?_
      refine z_lret rfl (by decide) rfl (Nat.sub_self _) dX6_atLeast_40 ?_
      refine ⟨rfl, ?_⟩
      omega
set_option maxHeartbeats 400000 in
theorem A_X6_atMost (l : Launch) (g : Cx) (M : FMem) (f : Int) (hf : 0 ≤ f ∧ f ≤ 40000) : AMl l g true fi_X6_atMost [fi f] 93 M (fun r M2 => M2 = M ∧ (fun r => r = farU f) r) := by
  refine AMl_intro [fi f, fu, fu, fu] (by decide) (knall rfl) (Nat.le_of_ble_eq_true rfl) rfl ?_
  intro hNV hM0 μ
  have bf : N32 f := hNV (fi f) (by simp)
  have hp := pow10 (n := f / 5000) (by omega) (by omega)
  have ht := tabV_b (f % 5000 / 100 + 1)
  have hpp : 0 ≤ p10 f ∧ p10 f ≤ 100000000 := ⟨by unfold p10; omega, hp.2⟩
  have hfb := far_b hf
  have hmm := mulp (show 0 ≤ tabV (f % 5000 / 100 + 1) + 1 ∧ tabV (f % 5000 / 100 + 1) + 1 ≤ 9550 by omega) hpp
  refine z_iload_n dX6_atMost_0 rfl ?_
  refine z_sipush dX6_atMost_1 ⟨by decide, by decide⟩ (by decide) ?_
  have hm0 : f.tmod 5000 = f % 5000 := Int.tmod_eq_emod_of_nonneg (by omega)
  refine z_irem dX6_atMost_4 (by omega) (fun x1 hx1 => ?_)
  refine z_bipush dX6_atMost_5 ⟨by decide, by decide⟩ (by decide) ?_
  have hd1 := tdiv_cs x1 100 (by decide)
  refine z_idiv dX6_atMost_7 (by omega) (by omega) (fun x2 hx2 => ?_)
  refine z_istore_n (loc2 := [fi f, fi x2, fu, fu]) dX6_atMost_8 (by decide) rfl ?_
  refine z_iload_n dX6_atMost_9 rfl ?_
  refine z_sipush dX6_atMost_10 ⟨by decide, by decide⟩ (by decide) ?_
  have hd2 := tdiv_cs f 5000 (by decide)
  refine z_idiv dX6_atMost_13 (by omega) (by omega) (fun x3 hx3 => ?_)
  have h5 : x3 = f / 5000 := by omega
  refine z_callSlp (n2 := 93) (A_X6_tenTimes l g M x3 (by omega)) cb_X6_tenTimes cl_X6_33 (clr0 rfl rfl (by decide) (by decide)) rfl (by decide) rfl (Nat.le_of_ble_eq_true rfl) rfl dX6_atMost_14 (fun x4 bx4 hx4 => ?_)
  refine z_lstore_n (loc2 := [fi f, fi x2, fl x4, fu]) dX6_atMost_17 (by decide) rfl ?_
  have hten : x4 = p10 f := by rw [hx4, h5]; rfl
  refine z_iload_n dX6_atMost_18 rfl ?_
  refine z_bipush dX6_atMost_19 ⟨by decide, by decide⟩ (by decide) ?_
  have hm1 : f.tmod 100 = f % 100 := Int.tmod_eq_emod_of_nonneg (by omega)
  refine z_irem dX6_atMost_21 (by omega) (fun x5 hx5 => ?_)
  refine z_if_ne (tgt := 43) dX6_atMost_22 (by decide) (fun c6 => ?_) (fun c6 => ?_)
  · refine z_iload_n dX6_atMost_43 rfl ?_
    refine z_if_lt (tgt := 72) dX6_atMost_44 (by decide) (fun c7 => ?_) (fun c7 => ?_)
    · exfalso; omega
    · refine z_iload_n dX6_atMost_47 rfl ?_
      refine z_iconst dX6_atMost_48 ⟨by decide, by decide⟩ ?_
      first | refine z_iaddN dX6_atMost_49 (by omega) (fun x8 hx8 => ?_) | refine z_iadd dX6_atMost_49 (fun x8 hx8 => ?_)
      refine z_gets ft_X6_30 dX6_atMost_50 ?_
      refine z_tlen dX6_atMost_53 ?_
      refine z_icmp_ge (tgt := 72) dX6_atMost_54 (by decide) (fun c9 => ?_) (fun c9 => ?_)
      · refine z_ldc2 (c := 10000) cn_X6_40 ⟨by decide, by decide⟩ dX6_atMost_72 ?_
        refine z_lload_n dX6_atMost_75 rfl ?_
        have hx : 10000 * x4 = 10000 * p10 f := by rw [hten]
        refine z_lmulN dX6_atMost_76 (by rw [hx]; omega) (fun x10 hx10 => ?_)
        refine z_lret rfl (by decide) rfl (Nat.sub_self _) dX6_atMost_77 ?_
        refine ⟨rfl, ?_⟩
        unfold farU
        first | (rw [if_neg (by omega), if_pos (by omega)]; omega) | (rw [if_neg (by omega), if_neg (by omega)]; omega)
      · refine z_gets ft_X6_30 dX6_atMost_57 ?_
        refine z_iload_n dX6_atMost_60 rfl ?_
        refine z_iconst dX6_atMost_61 ⟨by decide, by decide⟩ ?_
        first | refine z_iaddN dX6_atMost_62 (by omega) (fun x11 hx11 => ?_) | refine z_iadd dX6_atMost_62 (fun x11 hx11 => ?_)
        have hix : x11 = f % 5000 / 100 + 1 := by omega
        refine z_tld (by omega) (by omega) dX6_atMost_63 (fun x12 hx12 bx12 => ?_)
        have hq : x12 = tabV (f % 5000 / 100 + 1) := by rw [hx12, hix]; rfl
        refine z_iconst dX6_atMost_64 ⟨by decide, by decide⟩ ?_
        first | refine z_iaddN dX6_atMost_65 (by omega) (fun x13 hx13 => ?_) | refine z_iadd dX6_atMost_65 (fun x13 hx13 => ?_)
        refine z_i2l dX6_atMost_66 ?_
        refine z_lload_n dX6_atMost_67 rfl ?_
        have ha : x13 = tabV (f % 5000 / 100 + 1) + 1 := by omega
        have hx : x13 * x4 = (tabV (f % 5000 / 100 + 1) + 1) * p10 f := by rw [ha, hten]
        refine z_lmulN dX6_atMost_68 (by rw [hx]; omega) (fun x14 hx14 => ?_)
        refine z_goto (tgt := 77) dX6_atMost_69 (by decide) ?_
        refine z_lret rfl (by decide) rfl (Nat.sub_self _) dX6_atMost_77 ?_
        refine ⟨rfl, ?_⟩
        unfold farU
        first | (rw [if_neg (by omega), if_pos (by omega)]; omega) | (rw [if_neg (by omega), if_neg (by omega)]; omega)
  · refine z_iload_n dX6_atMost_25 rfl ?_
    refine z_if_ne (tgt := 36) dX6_atMost_26 (by decide) (fun c15 => ?_) (fun c15 => ?_)
    · refine z_iload_n dX6_atMost_36 rfl ?_
      refine z_callSlp (n2 := 93) (A_X6_atLeast l g M f (by omega)) cb_X6_atLeast cl_X6_37 (clr0 rfl rfl (by decide) (by decide)) rfl (by decide) rfl (Nat.le_of_ble_eq_true rfl) rfl dX6_atMost_37 (fun x16 bx16 hx16 => ?_)
      refine z_lload_n dX6_atMost_40 rfl ?_
      first | refine z_laddN dX6_atMost_41 (by omega) (fun x17 hx17 => ?_) | refine z_ladd dX6_atMost_41 (fun x17 hx17 => ?_)
      refine z_lret rfl (by decide) rfl (Nat.sub_self _) dX6_atMost_42 ?_
      refine ⟨rfl, ?_⟩
      unfold farU
      first | (rw [if_pos (by omega), if_pos (by omega)]; omega) | (rw [if_pos (by omega), if_neg (by omega)]; omega)
    · refine z_iload_n dX6_atMost_29 rfl ?_
      refine z_callSlp (n2 := 93) (A_X6_atLeast l g M f (by omega)) cb_X6_atLeast cl_X6_37 (clr0 rfl rfl (by decide) (by decide)) rfl (by decide) rfl (Nat.le_of_ble_eq_true rfl) rfl dX6_atMost_30 (fun x18 bx18 hx18 => ?_)
      refine z_goto (tgt := 42) dX6_atMost_33 (by decide) ?_
      refine z_lret rfl (by decide) rfl (Nat.sub_self _) dX6_atMost_42 ?_
      refine ⟨rfl, ?_⟩
      unfold farU
      first | (rw [if_pos (by omega), if_pos (by omega)]; omega) | (rw [if_pos (by omega), if_neg (by omega)]; omega)
set_option maxHeartbeats 400000 in
theorem A_X7_far (l : Launch) (g : Cx) (M : FMem) (f what : Int) : AMl l g true fi_X7_far [fr 0, fi f, fi what] 93 M (fun r M2 => M2 = M ∧ (fun r => r = if ¬ ((0 ≤ f ∧ f ≤ 40000) ∧ (what = 0 ∨ what = 1)) then -1000002 else if what = 0 then farL f else farU f) r) := by
  refine AMl_intro [fr 0, fi f, fi what] (by decide) (knall rfl) (Nat.le_of_ble_eq_true rfl) rfl ?_
  intro hNV hM0 μ
  have bf : N32 f := hNV (fi f) (by simp)
  have bwhat : N32 what := hNV (fi what) (by simp)
  refine z_iload_n dX7_far_0 rfl ?_
  refine z_callSip (n2 := 93) (A_X7_isFarness l g M f) cb_X7_isFarness cl_X7_281 (clr0 rfl rfl (by decide) (by decide)) rfl (by decide) rfl (Nat.le_of_ble_eq_true rfl) rfl dX7_far_1 (fun x1 bx1 hx1 => ?_)
  have i1 := if01 hx1
  refine z_if_eq (tgt := 14) dX7_far_4 (by decide) (fun c2 => ?_) (fun c2 => ?_)
  · refine z_ldc2 (c := -1000002) cn_X7_284 ⟨by decide, by decide⟩ dX7_far_14 ?_
    refine z_lret rfl (by decide) rfl (Nat.sub_self _) dX7_far_17 ?_
    refine ⟨rfl, ?_⟩
    rw [if_pos (by omega)]
  · refine z_iload_n dX7_far_7 rfl ?_
    refine z_callSip (n2 := 93) (A_X7_isEnd l g M what) cb_X7_isEnd cl_X7_213 (clr0 rfl rfl (by decide) (by decide)) rfl (by decide) rfl (Nat.le_of_ble_eq_true rfl) rfl dX7_far_8 (fun x3 bx3 hx3 => ?_)
    have i3 := if01 hx3
    refine z_if_ne (tgt := 18) dX7_far_11 (by decide) (fun c4 => ?_) (fun c4 => ?_)
    · refine z_iload_n dX7_far_18 rfl ?_
      refine z_if_ne (tgt := 29) dX7_far_19 (by decide) (fun c5 => ?_) (fun c5 => ?_)
      · refine z_iload_n dX7_far_29 rfl ?_
        refine z_callSlp (n2 := 93) (A_X6_atMost l g M f (by omega)) cb_X6_atMost cl_X7_290 (clr0 rfl rfl (by decide) (by decide)) rfl (by decide) rfl (Nat.le_of_ble_eq_true rfl) rfl dX7_far_30 (fun x6 bx6 hx6 => ?_)
        refine z_lret rfl (by decide) rfl (Nat.sub_self _) dX7_far_33 ?_
        refine ⟨rfl, ?_⟩
        rw [if_neg (by omega)]
        first | (rw [if_pos (by omega)]; omega) | (rw [if_neg (by omega)]; omega)
      · refine z_iload_n dX7_far_22 rfl ?_
        refine z_callSlp (n2 := 93) (A_X6_atLeast l g M f (by omega)) cb_X6_atLeast cl_X7_286 (clr0 rfl rfl (by decide) (by decide)) rfl (by decide) rfl (Nat.le_of_ble_eq_true rfl) rfl dX7_far_23 (fun x7 bx7 hx7 => ?_)
        refine z_goto (tgt := 33) dX7_far_26 (by decide) ?_
        refine z_lret rfl (by decide) rfl (Nat.sub_self _) dX7_far_33 ?_
        refine ⟨rfl, ?_⟩
        rw [if_neg (by omega)]
        first | (rw [if_pos (by omega)]; omega) | (rw [if_neg (by omega)]; omega)
    · refine z_ldc2 (c := -1000002) cn_X7_284 ⟨by decide, by decide⟩ dX7_far_14 ?_
      refine z_lret rfl (by decide) rfl (Nat.sub_self _) dX7_far_17 ?_
      refine ⟨rfl, ?_⟩
      rw [if_pos (by omega)]
/-- a home that speaks, with its ends -/
def SpkE (S : (Int → Int) → Prop) (red : Int → Int) (h lo up : Int) : Prop := red h ≠ -1 ∧ Ends2 S h lo up ∧ 0 ≤ lo ∧ up ≤ 40000
def Spk (S : (Int → Int) → Prop) (red : Int → Int) (h : Int) : Prop := ∃ lo up, SpkE S red h lo up
/-- a home that cannot have box b -/
def BoxNo (S : (Int → Int) → Prop) (red : Int → Int) (own b h : Int) : Prop := ∃ lo up, SpkE S red h lo up ∧ ¬ (b * farL lo / 1000 - own ≤ red h ∧ red h ≤ -((-(b * farU up)) / 1000) + own)
/-- what hear leaves behind -/
def HearS (S : (Int → Int) → Prop) (red : Int → Int) (own : Int) (M : FMem) : Prop := M 37 4 = own ∧ ∀ h, 0 ≤ h → h < 10 → (M 39 h = 0 ∧ ¬ Spk S red h) ∨ (M 39 h = 1 ∧ ∃ lo up, SpkE S red h lo up ∧ lo ≤ up ∧ M 40 h = farL lo ∧ M 41 h = farU up)
set_option maxHeartbeats 400000 in
theorem A_X6_hear (l : Launch) (g : Cx) (M : FMem) (ow : Int) (S : (Int → Int) → Prop) (hf : Feas S) (hE : FES S M) : AMv l g true fi_X6_hear [fr 37, fr 20, fi ow] 93 M (fun M2 => (∀ b j, (b < 37 ∨ 41 < b ∨ b = 38) → M2 b j = M b j) ∧ HearS S (fun h => M 38 h) ow M2) := by
  refine AMv_intro [fr 37, fr 20, fi ow, fu] (by decide) (knall rfl) (Nat.le_of_ble_eq_true rfl) rfl ?_
  intro hNV hM0 μ
  have bow : N32 ow := hNV (fi ow) (by simp)
  have lp7 : ∀ (kq : Nat) (h : Int) (M1 : FMem), (10 - h).toNat = kq → (0 ≤ h ∧ h ≤ 10) → (∀ b j, (b < 37 ∨ 41 < b ∨ b = 38) → M1 b j = M b j) → (M1 37 4 = ow) → (∀ v, 0 ≤ v → v < h → (M1 39 v = 0 ∧ ¬ Spk S (fun h => M 38 h) v) ∨ (M1 39 v = 1 ∧ ∃ lo up, SpkE S (fun h => M 38 h) v lo up ∧ lo ≤ up ∧ M1 40 v = farL lo ∧ M1 41 v = farU up)) → Wa l g true fi_X6_hear 93 μ (Zv g true fi_X6_hear 93 μ (fun M2 => (∀ b j, (b < 37 ∨ 41 < b ∨ b = 38) → M2 b j = M b j) ∧ HearS S (fun h => M 38 h) ow M2)) 7 [] [fr 37, fr 20, fi ow, fi h] 93 M1 := by
    intro kq
    induction kq using Nat.strongRecOn with
    | _ kq ih7 =>
    intro h M1 hk7 h0 h1 h2 h3
    have e38 := h1 38 h (by omega)
    have e33 := h1 33 h (by omega)
    have e31 := h1 31 h (by omega)
    have e32 := h1 32 h (by omega)
    refine z_iload_n dX6_hear_7 rfl ?_
    refine z_bipush dX6_hear_8 ⟨by decide, by decide⟩ (by decide) ?_
    refine z_icmp_ge (tgt := 87) dX6_hear_10 (by decide) (fun c1 => ?_) (fun c1 => ?_)
    · refine z_vret rfl (by decide) rfl (Nat.sub_self _) dX6_hear_87 ?_
      exact ⟨h1, h2, fun v v0 v1 => h3 v v0 (by omega)⟩
    · refine z_aload_nr dX6_hear_13 rfl ?_
      refine z_getr (b := 39) fl_X6_15 rfl (by decide) rf_37_1 rfl dX6_hear_14 ?_
      refine z_iload_n dX6_hear_17 rfl ?_
      refine z_aload_nr dX6_hear_18 rfl ?_
      refine z_getr (b := 38) fl_X6_9 rfl (by decide) rf_37_0 rfl dX6_hear_19 ?_
      refine z_iload_n dX6_hear_22 rfl ?_
      refine z_iald rfl (by decide) (by omega) (by omega) dX6_hear_23 (fun x2 hx2 bx2 => ?_)
      refine z_iconst dX6_hear_24 ⟨by decide, by decide⟩ ?_
      have J3 : ∀ b3 : Int, (b3 = 1 ∧ (M 38 h ≠ -1 ∧ (M 33 h = 1 ∧ 0 ≤ M 31 h ∧ M 32 h ≤ 40000))) ∨ (b3 = 0 ∧ ¬ (M 38 h ≠ -1 ∧ (M 33 h = 1 ∧ 0 ≤ M 31 h ∧ M 32 h ≤ 40000))) → Wa l g true fi_X6_hear 93 μ (Zv g true fi_X6_hear 93 μ (fun M2 => (∀ b j, (b < 37 ∨ 41 < b ∨ b = 38) → M2 b j = M b j) ∧ HearS S (fun h => M 38 h) ow M2)) 41 ([fi b3, fi h, fr 39]) [fr 37, fr 20, fi ow, fi h] 93 M1 := by
        intro b3 j3
        refine z_zast rfl (by decide) (by omega) (by omega) (by omega) dX6_hear_41 (fun Mz4 hMz4 => ?_)
        refine z_aload_nr dX6_hear_42 rfl ?_
        refine z_getr (b := 39) fl_X6_15 rfl (by decide) rf_37_1 rfl dX6_hear_43 ?_
        refine z_iload_n dX6_hear_46 rfl ?_
        refine z_zald rfl (by decide) (by omega) (by omega) dX6_hear_47 (fun x5 hx5 bx5 => ?_)
        rw [hMz4, st_same] at hx5
        refine z_if_eq (tgt := 81) dX6_hear_48 (by decide) (fun c6 => ?_) (fun c6 => ?_)
        · refine z_iinc (loc2 := fun vq => [fr 37, fr 20, fi ow, fi vq]) dX6_hear_81 rfl (by decide) (by omega) (fun _ => rfl) (fun x7 hx7 => ?_)
          refine z_goto (tgt := 7) dX6_hear_84 (by decide) ?_
          have hoff : ∀ b j, (b < 37 ∨ 41 < b ∨ b = 38) → Mz4 b j = M b j := by
            intro b j q
            first
            | (rw [hMz4, st_cell (by omega), st_cell (by omega), st_cell (by omega)]; exact h1 b j q)
            | (rw [hMz4, st_cell (by omega)]; exact h1 b j q)
          have hown : Mz4 37 4 = ow := by
            first
            | (rw [hMz4, st_cell (by omega), st_cell (by omega), st_cell (by omega)]; exact h2)
            | (rw [hMz4, st_cell (by omega)]; exact h2)
          have hnew : ∀ v, 0 ≤ v → v < h + 1 → (Mz4 39 v = 0 ∧ ¬ Spk S (fun h => M 38 h) v) ∨ (Mz4 39 v = 1 ∧ ∃ lo up, SpkE S (fun h => M 38 h) v lo up ∧ lo ≤ up ∧ Mz4 40 v = farL lo ∧ Mz4 41 v = farU up) := by
            intro v v0 v1
            by_cases e : v = h
            · rw [e]
              have hes := hE h h0.1 (by omega)
              first
              | (left
                 refine ⟨by rw [hMz4]; simp [st] <;> omega, ?_⟩
                 rintro ⟨lo, up, s1, s2, s3, s4⟩
                 have s1' : M 38 h ≠ -1 := s1
                 rcases hes with q | q
                 · exact Ends2_free s2 q.2
                 · have := Ends2_eq s2 q.2.1; omega)
              | (right
                 have hz := hes.resolve_left (fun z => by omega)
                 refine ⟨by rw [hMz4]; simp [st]; omega, _, _, ⟨by show M 38 h ≠ -1; omega, hz.2.1, by omega, by omega⟩, Ends2_le hf hz.2.1, ?_, ?_⟩
                 · rw [hMz4]; simp [st]; rw [hfl]; congr 1; omega
                 · rw [hMz4]; simp [st]; rw [hfu]; congr 1; omega)
            · have hz := h3 v v0 (by omega)
              first
              | (rw [hMz4]; simp only [st, e, and_false, if_false]; exact hz)
              | (rw [hMz4]; simp [st, e]; simpa using hz)
          exact ih7 _ (by omega) x7 Mz4 rfl (by omega) (hoff) (hown) (by rw [hx7]; exact hnew)
        · refine z_aload_nr dX6_hear_51 rfl ?_
          have hes2 := (hE h h0.1 (by omega)).resolve_left (fun z => by omega)
          have hle2 := Ends2_le hf hes2.2.1
          refine z_getr (b := 40) fl_X6_19 rfl (by decide) rf_37_2 rfl dX6_hear_52 ?_
          refine z_iload_n dX6_hear_55 rfl ?_
          refine z_aload_nr dX6_hear_56 rfl ?_
          refine z_getr (b := 31) fl_X6_50 rfl (by decide) rf_20_12 rfl dX6_hear_57 ?_
          refine z_iload_n dX6_hear_60 rfl ?_
          refine z_iald rfl (by decide) (by omega) (by omega) dX6_hear_61 (fun x8 hx8 bx8 => ?_)
          rw [hMz4, st_cell (by decide)] at hx8
          refine z_callSlp (n2 := 93) (A_X6_atLeast l g Mz4 x8 (by omega)) cb_X6_atLeast cl_X6_37 (clr0 rfl rfl (by decide) (by decide)) rfl (by decide) rfl (Nat.le_of_ble_eq_true rfl) rfl dX6_hear_62 (fun x9 bx9 hx9 => ?_)
          have hfl := hx9
          refine z_last rfl (by decide) (by omega) (by omega) dX6_hear_65 (fun Mz10 hMz10 => ?_)
          refine z_aload_nr dX6_hear_66 rfl ?_
          refine z_getr (b := 41) fl_X6_23 rfl (by decide) rf_37_3 rfl dX6_hear_67 ?_
          refine z_iload_n dX6_hear_70 rfl ?_
          refine z_aload_nr dX6_hear_71 rfl ?_
          refine z_getr (b := 32) fl_X6_53 rfl (by decide) rf_20_13 rfl dX6_hear_72 ?_
          refine z_iload_n dX6_hear_75 rfl ?_
          refine z_iald rfl (by decide) (by omega) (by omega) dX6_hear_76 (fun x11 hx11 bx11 => ?_)
          rw [hMz10, st_cell (by decide), hMz4, st_cell (by decide)] at hx11
          refine z_callSlp (n2 := 93) (A_X6_atMost l g Mz10 x11 (by omega)) cb_X6_atMost cl_X6_56 (clr0 rfl rfl (by decide) (by decide)) rfl (by decide) rfl (Nat.le_of_ble_eq_true rfl) rfl dX6_hear_77 (fun x12 bx12 hx12 => ?_)
          have hfu := hx12
          refine z_last rfl (by decide) (by omega) (by omega) dX6_hear_80 (fun Mz13 hMz13 => ?_)
          refine z_iinc (loc2 := fun vq => [fr 37, fr 20, fi ow, fi vq]) dX6_hear_81 rfl (by decide) (by omega) (fun _ => rfl) (fun x14 hx14 => ?_)
          refine z_goto (tgt := 7) dX6_hear_84 (by decide) ?_
          have hoff : ∀ b j, (b < 37 ∨ 41 < b ∨ b = 38) → Mz13 b j = M b j := by
            intro b j q
            first
            | (rw [hMz13, hMz10, hMz4, st_cell (by omega), st_cell (by omega), st_cell (by omega)]; exact h1 b j q)
            | (rw [hMz13, hMz10, hMz4, st_cell (by omega)]; exact h1 b j q)
          have hown : Mz13 37 4 = ow := by
            first
            | (rw [hMz13, hMz10, hMz4, st_cell (by omega), st_cell (by omega), st_cell (by omega)]; exact h2)
            | (rw [hMz13, hMz10, hMz4, st_cell (by omega)]; exact h2)
          have hnew : ∀ v, 0 ≤ v → v < h + 1 → (Mz13 39 v = 0 ∧ ¬ Spk S (fun h => M 38 h) v) ∨ (Mz13 39 v = 1 ∧ ∃ lo up, SpkE S (fun h => M 38 h) v lo up ∧ lo ≤ up ∧ Mz13 40 v = farL lo ∧ Mz13 41 v = farU up) := by
            intro v v0 v1
            by_cases e : v = h
            · rw [e]
              have hes := hE h h0.1 (by omega)
              first
              | (left
                 refine ⟨by rw [hMz13, hMz10, hMz4]; simp [st] <;> omega, ?_⟩
                 rintro ⟨lo, up, s1, s2, s3, s4⟩
                 have s1' : M 38 h ≠ -1 := s1
                 rcases hes with q | q
                 · exact Ends2_free s2 q.2
                 · have := Ends2_eq s2 q.2.1; omega)
              | (right
                 have hz := hes.resolve_left (fun z => by omega)
                 refine ⟨by rw [hMz13, hMz10, hMz4]; simp [st]; omega, _, _, ⟨by show M 38 h ≠ -1; omega, hz.2.1, by omega, by omega⟩, Ends2_le hf hz.2.1, ?_, ?_⟩
                 · rw [hMz13, hMz10, hMz4]; simp [st]; rw [hfl]; congr 1; omega
                 · rw [hMz13, hMz10, hMz4]; simp [st]; rw [hfu]; congr 1; omega)
            · have hz := h3 v v0 (by omega)
              first
              | (rw [hMz13, hMz10, hMz4]; simp only [st, e, and_false, if_false]; exact hz)
              | (rw [hMz13, hMz10, hMz4]; simp [st, e]; simpa using hz)
          exact ih7 _ (by omega) x14 Mz13 rfl (by omega) (hoff) (hown) (by rw [hx14]; exact hnew)
      refine z_icmp_eq (tgt := 40) dX6_hear_25 (by decide) (fun c15 => ?_) (fun c15 => ?_)
      · refine z_iconst dX6_hear_40 ⟨by decide, by decide⟩ ?_
        first | exact J3 _ (Or.inl ⟨rfl, by omega⟩) | exact J3 _ (Or.inr ⟨rfl, by omega⟩)
      · refine z_aload_nr dX6_hear_28 rfl ?_
        refine z_iload_n dX6_hear_29 rfl ?_
        refine z_callVip (n2 := 93) (A_X1_liesWithinFar l g M1 h (by omega)) cb_X1_liesWithinFar cl_X6_44 (clr0 rfl rfl (by decide) (by decide)) rfl (by decide) ⟨_, rfl, rfl⟩ rfl (by decide) rfl (Nat.le_of_ble_eq_true rfl) rfl dX6_hear_30 (fun x16 bx16 hx16 => ?_)
        have hw01 := if01 hx16
        refine z_if_eq (tgt := 40) dX6_hear_33 (by decide) (fun c17 => ?_) (fun c17 => ?_)
        · refine z_iconst dX6_hear_40 ⟨by decide, by decide⟩ ?_
          first | exact J3 _ (Or.inl ⟨rfl, by omega⟩) | exact J3 _ (Or.inr ⟨rfl, by omega⟩)
        · refine z_iconst dX6_hear_36 ⟨by decide, by decide⟩ ?_
          refine z_goto (tgt := 41) dX6_hear_37 (by decide) ?_
          first | exact J3 _ (Or.inl ⟨rfl, by omega⟩) | exact J3 _ (Or.inr ⟨rfl, by omega⟩)
  refine z_aload_nr dX6_hear_0 rfl ?_
  refine z_iload_n dX6_hear_1 rfl ?_
  refine z_puti (kz := 4) fl_X6_26 rfl (by decide) rfl nr_37_4 dX6_hear_2 (fun Mz18 hMz18 => ?_)
  refine z_iconst dX6_hear_5 ⟨by decide, by decide⟩ ?_
  refine z_istore_n (loc2 := [fr 37, fr 20, fi ow, fi 0]) dX6_hear_6 (by decide) rfl ?_
  exact lp7 _ 0 Mz18 rfl (by omega) (fun b j q => by rw [hMz18, st_cell (by omega)]) (by rw [hMz18, st_same]) (fun v _ z => by omega)
set_option maxHeartbeats 400000 in
theorem A_X6_howManySpeak (l : Launch) (g : Cx) (M : FMem) (S : (Int → Int) → Prop) (red : Int → Int) (ow : Int) (hH : HearS S red ow M) : AMi l g true fi_X6_howManySpeak [fr 37] 93 M (fun r M2 => M2 = M ∧ (fun r => r = sumI (fun h => c01 (Spk S red h)) 10) r) := by
  refine AMi_intro [fr 37, fu, fu] (by decide) (knall rfl) (Nat.le_of_ble_eq_true rfl) rfl ?_
  intro hNV hM0 μ
  have lp4 : ∀ (kq : Nat) (c h : Int), (10 - h).toNat = kq → (0 ≤ h ∧ h ≤ 10) → (c = sumI (fun h => c01 (Spk S red h)) h) → (0 ≤ c ∧ c ≤ h) → Wa l g true fi_X6_howManySpeak 93 μ (Zi g true fi_X6_howManySpeak 93 μ (fun r M2 => M2 = M ∧ (fun r => r = sumI (fun h => c01 (Spk S red h)) 10) r)) 4 [] [fr 37, fi c, fi h] 93 M := by
    intro kq
    induction kq using Nat.strongRecOn with
    | _ kq ih4 =>
    intro c h hk4 h0 h1 h2
    refine z_iload_n dX6_howManySpeak_4 rfl ?_
    refine z_bipush dX6_howManySpeak_5 ⟨by decide, by decide⟩ (by decide) ?_
    refine z_icmp_ge (tgt := 28) dX6_howManySpeak_7 (by decide) (fun c1 => ?_) (fun c1 => ?_)
    · refine z_iload_n dX6_howManySpeak_28 rfl ?_
      refine z_iret rfl (by decide) rfl (Nat.sub_self _) dX6_howManySpeak_29 ?_
      refine ⟨rfl, ?_⟩
      rw [h1, show h = 10 by omega]
    · refine z_iload_n dX6_howManySpeak_10 rfl ?_
      refine z_aload_nr dX6_howManySpeak_11 rfl ?_
      refine z_getr (b := 39) fl_X6_15 rfl (by decide) rf_37_1 rfl dX6_howManySpeak_12 ?_
      refine z_iload_n dX6_howManySpeak_15 rfl ?_
      refine z_zald rfl (by decide) (by omega) (by omega) dX6_howManySpeak_16 (fun x2 hx2 bx2 => ?_)
      refine z_callSip (n2 := 93) (A_X7_asNumber l g M x2 (by omega)) cb_X7_asNumber cl_X6_59 (clr0 rfl rfl (by decide) (by decide)) rfl (by decide) rfl (Nat.le_of_ble_eq_true rfl) rfl dX6_howManySpeak_17 (fun x3 bx3 hx3 => ?_)
      first | refine z_iaddN dX6_howManySpeak_20 (by omega) (fun x4 hx4 => ?_) | refine z_iadd dX6_howManySpeak_20 (fun x4 hx4 => ?_)
      refine z_istore_n (loc2 := [fr 37, fi x4, fi h]) dX6_howManySpeak_21 (by decide) rfl ?_
      refine z_iinc (loc2 := fun vq => [fr 37, fi x4, fi vq]) dX6_howManySpeak_22 rfl (by decide) (by omega) (fun _ => rfl) (fun x5 hx5 => ?_)
      refine z_goto (tgt := 4) dX6_howManySpeak_25 (by decide) ?_
      have hcc : c01 (Spk S red h) = x4 - c := by
        rcases hH.2 h h0.1 (by omega) with q | ⟨q, lo, up, q2, -⟩
        · rw [c01_f q.2]; omega
        · rw [c01_t ⟨lo, up, q2⟩]; omega
      exact ih4 _ (by omega) x4 x5 rfl (by omega) (by rw [hx5, sumI_succ h0.1, ← h1, hcc]; omega) (by have := c01_r (Spk S red h); omega)
  refine z_iconst dX6_howManySpeak_0 ⟨by decide, by decide⟩ ?_
  refine z_istore_n (loc2 := [fr 37, fi 0, fu]) dX6_howManySpeak_1 (by decide) rfl ?_
  refine z_iconst dX6_howManySpeak_2 ⟨by decide, by decide⟩ ?_
  refine z_istore_n (loc2 := [fr 37, fi 0, fi 0]) dX6_howManySpeak_3 (by decide) rfl ?_
  exact lp4 _ 0 0 rfl (by omega) ((sumI_0 _).symm) (by omega)
set_option maxHeartbeats 400000 in
theorem A_X6_couldHave (l : Launch) (g : Cx) (M : FMem) (h b : Int) (S : (Int → Int) → Prop) (ow : Int) (lo up : Int) (hh : 0 ≤ h ∧ h < 10) (hb : 1 ≤ b ∧ b ≤ 200) (hl : 0 ≤ lo ∧ lo ≤ 40000) (hu : 0 ≤ up ∧ up ≤ 40000) (e1 : M 40 h = farL lo) (e2 : M 41 h = farU up) (e3 : M 37 4 = ow) (e4 : 0 ≤ ow ∧ ow ≤ 9999) : AMi l g true fi_X6_couldHave [fr 37, fi h, fi b] 93 M (fun r M2 => M2 = M ∧ (fun r => r = if b * farL lo / 1000 - ow ≤ M 38 h ∧ M 38 h ≤ -((-(b * farU up)) / 1000) + ow then 1 else 0) r) := by
  refine AMi_intro [fr 37, fi h, fi b, fu, fu, fu, fu] (by decide) (knall rfl) (Nat.le_of_ble_eq_true rfl) rfl ?_
  intro hNV hM0 μ
  have bh : N32 h := hNV (fi h) (by simp)
  have bb : N32 b := hNV (fi b) (by simp)
  have f1 := (far_b hl).1
  have f2 := (far_b hu).2
  have m1 := mulp (show 0 ≤ b ∧ b ≤ 200 by omega) f1
  have m2 := mulp (show 0 ≤ b ∧ b ≤ 200 by omega) f2
  have m3 : -b * farU up = -(b * farU up) := by rw [Int.neg_mul]
  refine z_iload_n dX6_couldHave_0 rfl ?_
  refine z_i2l dX6_couldHave_1 ?_
  refine z_aload_nr dX6_couldHave_2 rfl ?_
  refine z_getr (b := 40) fl_X6_19 rfl (by decide) rf_37_2 rfl dX6_couldHave_3 ?_
  refine z_iload_n dX6_couldHave_6 rfl ?_
  refine z_lald rfl (by decide) (by omega) (by omega) dX6_couldHave_7 (fun x1 hx1 bx1 => ?_)
  have hp1 : b * x1 = b * farL lo := by rw [hx1, e1]
  refine z_lmulN dX6_couldHave_8 (by rw [hp1]; omega) (fun x2 hx2 => ?_)
  refine z_ldc2 (c := 1000) cn_X6_71 ⟨by decide, by decide⟩ dX6_couldHave_9 ?_
  refine z_callSlp (n2 := 93) (A_J9_floorDiv_f86c9 l g M x2 (by omega)) cb_J9_floorDiv_f86c9 cl_X6_73 (clr0 rfl rfl (by decide) (by decide)) rfl (by decide) rfl (Nat.le_of_ble_eq_true rfl) rfl dX6_couldHave_12 (fun x3 bx3 hx3 => ?_)
  have hfd1 : x3 = b * farL lo / 1000 := by omega
  refine z_lstore_n (loc2 := [fr 37, fi h, fi b, fl x3, fu, fu, fu]) dX6_couldHave_15 (by decide) rfl ?_
  refine z_iload_n dX6_couldHave_16 rfl ?_
  refine z_inegN dX6_couldHave_17 (by omega) (fun x4 hx4 => ?_)
  refine z_i2l dX6_couldHave_18 ?_
  refine z_aload_nr dX6_couldHave_19 rfl ?_
  refine z_getr (b := 41) fl_X6_23 rfl (by decide) rf_37_3 rfl dX6_couldHave_20 ?_
  refine z_iload_n dX6_couldHave_23 rfl ?_
  refine z_lald rfl (by decide) (by omega) (by omega) dX6_couldHave_24 (fun x5 hx5 bx5 => ?_)
  have hp2 : x4 * x5 = -(b * farU up) := by rw [hx5, e2, hx4, m3]
  refine z_lmulN dX6_couldHave_25 (by rw [hp2]; omega) (fun x6 hx6 => ?_)
  refine z_ldc2 (c := 1000) cn_X6_71 ⟨by decide, by decide⟩ dX6_couldHave_26 ?_
  refine z_callSlp (n2 := 93) (A_J9_floorDiv_f86c9 l g M x6 (by omega)) cb_J9_floorDiv_f86c9 cl_X6_73 (clr0 rfl rfl (by decide) (by decide)) rfl (by decide) rfl (Nat.le_of_ble_eq_true rfl) rfl dX6_couldHave_29 (fun x7 bx7 hx7 => ?_)
  have hfd2 : x7 = (-(b * farU up)) / 1000 := by omega
  refine z_lnegN dX6_couldHave_32 (by omega) (fun x8 hx8 => ?_)
  refine z_lstore (loc2 := [fr 37, fi h, fi b, fl x3, fu, fl x8, fu]) dX6_couldHave_33 (by decide) rfl ?_
  refine z_aload_nr dX6_couldHave_35 rfl ?_
  refine z_getr (b := 38) fl_X6_9 rfl (by decide) rf_37_0 rfl dX6_couldHave_36 ?_
  refine z_iload_n dX6_couldHave_39 rfl ?_
  refine z_iald rfl (by decide) (by omega) (by omega) dX6_couldHave_40 (fun x9 hx9 bx9 => ?_)
  refine z_i2l dX6_couldHave_41 ?_
  refine z_lload_n dX6_couldHave_42 rfl ?_
  refine z_aload_nr dX6_couldHave_43 rfl ?_
  refine z_geti (kz := 4) fl_X6_26 rfl (by decide) rfl dX6_couldHave_44 (fun x10 hx10 bx10 => ?_)
  refine z_i2l dX6_couldHave_47 ?_
  first | refine z_lsubN dX6_couldHave_48 (by omega) (fun x11 hx11 => ?_) | refine z_lsub dX6_couldHave_48 (fun x11 hx11 => ?_)
  refine z_lcmp_lt (tgt := 76) dX6_couldHave_49 dX6_couldHave_50 (by decide) (fun c12 => ?_) (fun c12 => ?_)
  · refine z_iconst dX6_couldHave_76 ⟨by decide, by decide⟩ ?_
    refine z_zret rfl (by omega) (by decide) rfl (Nat.sub_self _) dX6_couldHave_77 ?_
    refine ⟨rfl, ?_⟩
    first | (rw [if_pos (by omega)]) | (rw [if_neg (by omega)])
  · refine z_aload_nr dX6_couldHave_53 rfl ?_
    refine z_getr (b := 38) fl_X6_9 rfl (by decide) rf_37_0 rfl dX6_couldHave_54 ?_
    refine z_iload_n dX6_couldHave_57 rfl ?_
    refine z_iald rfl (by decide) (by omega) (by omega) dX6_couldHave_58 (fun x13 hx13 bx13 => ?_)
    refine z_i2l dX6_couldHave_59 ?_
    refine z_lload dX6_couldHave_60 rfl ?_
    refine z_aload_nr dX6_couldHave_62 rfl ?_
    refine z_geti (kz := 4) fl_X6_26 rfl (by decide) rfl dX6_couldHave_63 (fun x14 hx14 bx14 => ?_)
    refine z_i2l dX6_couldHave_66 ?_
    first | refine z_laddN dX6_couldHave_67 (by omega) (fun x15 hx15 => ?_) | refine z_ladd dX6_couldHave_67 (fun x15 hx15 => ?_)
    refine z_lcmp_gt (tgt := 76) dX6_couldHave_68 dX6_couldHave_69 (by decide) (fun c16 => ?_) (fun c16 => ?_)
    · refine z_iconst dX6_couldHave_76 ⟨by decide, by decide⟩ ?_
      refine z_zret rfl (by omega) (by decide) rfl (Nat.sub_self _) dX6_couldHave_77 ?_
      refine ⟨rfl, ?_⟩
      first | (rw [if_pos (by omega)]) | (rw [if_neg (by omega)])
    · refine z_iconst dX6_couldHave_72 ⟨by decide, by decide⟩ ?_
      refine z_goto (tgt := 77) dX6_couldHave_73 (by decide) ?_
      refine z_zret rfl (by omega) (by decide) rfl (Nat.sub_self _) dX6_couldHave_77 ?_
      refine ⟨rfl, ?_⟩
      first | (rw [if_pos (by omega)]) | (rw [if_neg (by omega)])
