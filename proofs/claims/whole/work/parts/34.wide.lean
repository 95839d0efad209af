set_option maxHeartbeats 400000 in
theorem A_X7_lead42 (l : Launch) (g : Cx) (M : FMem) (home what i : Int) (hT : XT M 42) : AMi l g true fi_X7_lead [fr 0, fi home, fi what, fi i] 93 M (fun q M2 => OffX M M2 ∧ PLead (M 1 13) (inT M) (SolT M 42 (M 1 13) (-1) (-1) (-1) 0) (fun t => SolT M 42 (M 1 13) (-1) t (-1) 0) home what i q) := by
  refine AMi_intro [fr 0, fi home, fi what, fi i] (by decide) (knall rfl) (Nat.le_of_ble_eq_true rfl) rfl ?_
  intro hNV hM0 μ
  have bhome : N32 home := hNV (fi home) (by simp)
  have bwhat : N32 what := hNV (fi what) (by simp)
  have bi : N32 i := hNV (fi i) (by simp)
  have hts := hT.1
  unfold PLead
  refine z_iload_n dX7_lead_0 rfl ?_
  refine z_callSip (n2 := 93) (A_X7_isHome l g M home) cb_X7_isHome cl_X7_79 (clr0 rfl rfl (by decide) (by decide)) rfl (by decide) rfl (Nat.le_of_ble_eq_true rfl) rfl dX7_lead_1 (fun x1 bx1 hx1 => ?_)
  have i1 := if01 hx1
  refine z_if_ne (tgt := 10) dX7_lead_4 (by decide) (fun c2 => ?_) (fun c2 => ?_)
  · refine z_iload_n dX7_lead_10 rfl ?_
    refine z_callSip (n2 := 93) (A_X7_isEnd l g M what) cb_X7_isEnd cl_X7_213 (clr0 rfl rfl (by decide) (by decide)) rfl (by decide) rfl (Nat.le_of_ble_eq_true rfl) rfl dX7_lead_11 (fun x3 bx3 hx3 => ?_)
    have i3 := if01 hx3
    refine z_if_ne (tgt := 20) dX7_lead_14 (by decide) (fun c4 => ?_) (fun c4 => ?_)
    · refine z_aload_nr dX7_lead_20 rfl ?_
      refine z_callVi (n2 := 93) (A_X7_quarrelsNow42 l g M (hT)) cb_X7_quarrelsNow cl_X7_235 (clr0 rfl rfl (by decide) (by decide)) rfl (by decide) ⟨_, rfl, rfl⟩ rfl (by decide) rfl (Nat.le_of_ble_eq_true rfl) rfl dX7_lead_21 (fun x5 Mz5 bx5 kMz5 hc5 => ?_)
      have hRD := hc5.1.1
      have hTR := hc5.1.2
      have hqq := hc5.2
      refine z_if_eq (tgt := 30) dX7_lead_24 (by decide) (fun c6 => ?_) (fun c6 => ?_)
      · have hfe : Feas (SolT M 42 (M 1 13) (-1) (-1) (-1) 0) := by rcases hqq with q | q; exact q.2; omega
        rcases (show what = 1 ∨ what = 0 by omega) with rfl | rfl
        · have hfe : Feas (SolT M 42 (M 1 13) (-1) (-1) (-1) 0) := by rcases hqq with q | q; exact q.2; omega
          refine z_aload_nr dX7_lead_30 rfl ?_
          refine z_getr (b := 20) fl_X7_33 rfl (by decide) rf_0_3 rfl dX7_lead_31 ?_
          refine z_bipush dX7_lead_34 ⟨by decide, by decide⟩ (by decide) ?_
          refine z_iload_n dX7_lead_36 rfl ?_
          refine z_callVv (n2 := 93) (A_X1_reach1 l g Mz5 16 (by omega) (hRD.2.1) (feas1 hRD hfe)) cb_X1_reach cl_X7_223 (clr0 rfl rfl (by decide) (by decide)) rfl (by decide) ⟨_, rfl, rfl⟩ rfl (by decide) rfl (Nat.le_of_ble_eq_true rfl) rfl dX7_lead_37 (fun Mz7 kMz7 hc7 => ?_)
          have hF := hc7
          have hend := by first | exact RF_end hRD hfe (by omega) hF (v := home) (by omega) | exact RF_end0 hRD hfe (by omega) hF (v := home) (by omega)
          have hofx : OffX M Mz7 := fun b j q => (hF.1 b j (by omega) (by omega)).trans (hRD.1.1 b j (by omega))
          refine z_aload_nr dX7_lead_40 rfl ?_
          refine z_getr (b := 20) fl_X7_33 rfl (by decide) rf_0_3 rfl dX7_lead_41 ?_
          refine z_iload_n dX7_lead_44 rfl ?_
          refine z_callVip (n2 := 93) (A_X1_isReached l g Mz7 home (by omega)) cb_X1_isReached cl_X7_227 (clr0 rfl rfl (by decide) (by decide)) rfl (by decide) ⟨_, rfl, rfl⟩ rfl (by decide) rfl (Nat.le_of_ble_eq_true rfl) rfl dX7_lead_45 (fun x8 bx8 hx8 => ?_)
          have i8 := if10 hx8
          refine z_if_eq (tgt := 61) dX7_lead_48 (by decide) (fun c9 => ?_) (fun c9 => ?_)
          · refine z_ldc (c := -1000006) cn_X7_230 ⟨by decide, by decide⟩ dX7_lead_61 ?_
            refine z_iret rfl (by decide) rfl (Nat.sub_self _) dX7_lead_63 ?_
            first
            | (refine ⟨hld.1, ?_⟩
               rw [if_neg (by omega), if_neg (by omega)]
               refine Or.inr (Or.inr ⟨hfe, fun z => ?_, hld.2⟩)
               rcases hend with q | q
               · omega
               · first | exact MaxD_free q.2.1 z | exact MaxD_free q.2.1 (FreeD_sym z))
            | (refine ⟨hofx, ?_⟩
               rw [if_neg (by omega), if_neg (by omega)]
               refine Or.inr (Or.inl ⟨hfe, ?_, rfl⟩)
               rcases hend with q | q
               · exact q.2
               · omega)
          · refine z_aload_nr dX7_lead_51 rfl ?_
            refine z_iload_n dX7_lead_52 rfl ?_
            refine z_iload_n dX7_lead_53 rfl ?_
            refine z_iload_n dX7_lead_54 rfl ?_
            refine z_callVi (n2 := 93) (A_X7_leadOf42_1 l g Mz7 home i _ _ (hT) (by omega) (hRD) (hTR) (hF) (hfe) (by omega)) cb_X7_leadOf cl_X7_274 (clr0 rfl rfl (by decide) (by decide)) rfl (by decide) ⟨_, rfl, rfl⟩ rfl (by decide) rfl (Nat.le_of_ble_eq_true rfl) rfl dX7_lead_55 (fun x10 Mz10 bx10 kMz10 hc10 => ?_)
            have hld := hc10
            refine z_goto (tgt := 63) dX7_lead_58 (by decide) ?_
            refine z_iret rfl (by decide) rfl (Nat.sub_self _) dX7_lead_63 ?_
            first
            | (refine ⟨hld.1, ?_⟩
               rw [if_neg (by omega), if_neg (by omega)]
               refine Or.inr (Or.inr ⟨hfe, fun z => ?_, hld.2⟩)
               rcases hend with q | q
               · omega
               · first | exact MaxD_free q.2.1 z | exact MaxD_free q.2.1 (FreeD_sym z))
            | (refine ⟨hofx, ?_⟩
               rw [if_neg (by omega), if_neg (by omega)]
               refine Or.inr (Or.inl ⟨hfe, ?_, rfl⟩)
               rcases hend with q | q
               · exact q.2
               · omega)
        · have hfe : Feas (SolT M 42 (M 1 13) (-1) (-1) (-1) 0) := by rcases hqq with q | q; exact q.2; omega
          refine z_aload_nr dX7_lead_30 rfl ?_
          refine z_getr (b := 20) fl_X7_33 rfl (by decide) rf_0_3 rfl dX7_lead_31 ?_
          refine z_bipush dX7_lead_34 ⟨by decide, by decide⟩ (by decide) ?_
          refine z_iload_n dX7_lead_36 rfl ?_
          refine z_callVv (n2 := 93) (A_X1_reach0 l g Mz5 16 (by omega) (hRD.2.1) (feas0 hRD hfe)) cb_X1_reach cl_X7_223 (clr0 rfl rfl (by decide) (by decide)) rfl (by decide) ⟨_, rfl, rfl⟩ rfl (by decide) rfl (Nat.le_of_ble_eq_true rfl) rfl dX7_lead_37 (fun Mz11 kMz11 hc11 => ?_)
          have hF := hc11
          have hend := by first | exact RF_end hRD hfe (by omega) hF (v := home) (by omega) | exact RF_end0 hRD hfe (by omega) hF (v := home) (by omega)
          have hofx : OffX M Mz11 := fun b j q => (hF.1 b j (by omega) (by omega)).trans (hRD.1.1 b j (by omega))
          refine z_aload_nr dX7_lead_40 rfl ?_
          refine z_getr (b := 20) fl_X7_33 rfl (by decide) rf_0_3 rfl dX7_lead_41 ?_
          refine z_iload_n dX7_lead_44 rfl ?_
          refine z_callVip (n2 := 93) (A_X1_isReached l g Mz11 home (by omega)) cb_X1_isReached cl_X7_227 (clr0 rfl rfl (by decide) (by decide)) rfl (by decide) ⟨_, rfl, rfl⟩ rfl (by decide) rfl (Nat.le_of_ble_eq_true rfl) rfl dX7_lead_45 (fun x12 bx12 hx12 => ?_)
          have i12 := if10 hx12
          refine z_if_eq (tgt := 61) dX7_lead_48 (by decide) (fun c13 => ?_) (fun c13 => ?_)
          · refine z_ldc (c := -1000006) cn_X7_230 ⟨by decide, by decide⟩ dX7_lead_61 ?_
            refine z_iret rfl (by decide) rfl (Nat.sub_self _) dX7_lead_63 ?_
            first
            | (refine ⟨hld.1, ?_⟩
               rw [if_neg (by omega), if_neg (by omega)]
               refine Or.inr (Or.inr ⟨hfe, fun z => ?_, hld.2⟩)
               rcases hend with q | q
               · omega
               · first | exact MaxD_free q.2.1 z | exact MaxD_free q.2.1 (FreeD_sym z))
            | (refine ⟨hofx, ?_⟩
               rw [if_neg (by omega), if_neg (by omega)]
               refine Or.inr (Or.inl ⟨hfe, ?_, rfl⟩)
               rcases hend with q | q
               · exact q.2
               · omega)
          · refine z_aload_nr dX7_lead_51 rfl ?_
            refine z_iload_n dX7_lead_52 rfl ?_
            refine z_iload_n dX7_lead_53 rfl ?_
            refine z_iload_n dX7_lead_54 rfl ?_
            refine z_callVi (n2 := 93) (A_X7_leadOf42_0 l g Mz11 home i _ _ (hT) (by omega) (hRD) (hTR) (hF) (hfe) (by omega)) cb_X7_leadOf cl_X7_274 (clr0 rfl rfl (by decide) (by decide)) rfl (by decide) ⟨_, rfl, rfl⟩ rfl (by decide) rfl (Nat.le_of_ble_eq_true rfl) rfl dX7_lead_55 (fun x14 Mz14 bx14 kMz14 hc14 => ?_)
            have hld := hc14
            refine z_goto (tgt := 63) dX7_lead_58 (by decide) ?_
            refine z_iret rfl (by decide) rfl (Nat.sub_self _) dX7_lead_63 ?_
            first
            | (refine ⟨hld.1, ?_⟩
               rw [if_neg (by omega), if_neg (by omega)]
               refine Or.inr (Or.inr ⟨hfe, fun z => ?_, hld.2⟩)
               rcases hend with q | q
               · omega
               · first | exact MaxD_free q.2.1 z | exact MaxD_free q.2.1 (FreeD_sym z))
            | (refine ⟨hofx, ?_⟩
               rw [if_neg (by omega), if_neg (by omega)]
               refine Or.inr (Or.inl ⟨hfe, ?_, rfl⟩)
               rcases hend with q | q
               · exact q.2
               · omega)
      · refine z_ldc (c := -1000005) cn_X7_222 ⟨by decide, by decide⟩ dX7_lead_27 ?_
        refine z_iret rfl (by decide) rfl (Nat.sub_self _) dX7_lead_29 ?_
        refine ⟨RD_X hRD, ?_⟩
        rw [if_neg (by omega), if_neg (by omega)]
        refine Or.inl ⟨?_, rfl⟩
        rcases hqq with q | q
        · omega
        · exact q.2
    · refine z_ldc (c := -1000002) cn_X7_87 ⟨by decide, by decide⟩ dX7_lead_17 ?_
      refine z_iret rfl (by decide) rfl (Nat.sub_self _) dX7_lead_19 ?_
      refine ⟨OffX_rfl M, ?_⟩
      rw [if_neg (by omega), if_pos (by omega)]
  · refine z_ldc (c := -1000001) cn_X7_82 ⟨by decide, by decide⟩ dX7_lead_7 ?_
    refine z_iret rfl (by decide) rfl (Nat.sub_self _) dX7_lead_9 ?_
    refine ⟨OffX_rfl M, ?_⟩
    rw [if_pos (by omega)]
set_option maxHeartbeats 400000 in
theorem A_X7_lead51 (l : Launch) (g : Cx) (M : FMem) (home what i : Int) (hT : XT M 51) : AMi l g true fi_X7_lead [fr 0, fi home, fi what, fi i] 93 M (fun q M2 => OffX M M2 ∧ PLead (M 1 13) (inT M) (SolT M 51 (M 1 13) (-1) (-1) (-1) 0) (fun t => SolT M 51 (M 1 13) (-1) t (-1) 0) home what i q) := by
  refine AMi_intro [fr 0, fi home, fi what, fi i] (by decide) (knall rfl) (Nat.le_of_ble_eq_true rfl) rfl ?_
  intro hNV hM0 μ
  have bhome : N32 home := hNV (fi home) (by simp)
  have bwhat : N32 what := hNV (fi what) (by simp)
  have bi : N32 i := hNV (fi i) (by simp)
  have hts := hT.1
  unfold PLead
  refine z_iload_n dX7_lead_0 rfl ?_
  refine z_callSip (n2 := 93) (A_X7_isHome l g M home) cb_X7_isHome cl_X7_79 (clr0 rfl rfl (by decide) (by decide)) rfl (by decide) rfl (Nat.le_of_ble_eq_true rfl) rfl dX7_lead_1 (fun x1 bx1 hx1 => ?_)
  have i1 := if01 hx1
  refine z_if_ne (tgt := 10) dX7_lead_4 (by decide) (fun c2 => ?_) (fun c2 => ?_)
  · refine z_iload_n dX7_lead_10 rfl ?_
    refine z_callSip (n2 := 93) (A_X7_isEnd l g M what) cb_X7_isEnd cl_X7_213 (clr0 rfl rfl (by decide) (by decide)) rfl (by decide) rfl (Nat.le_of_ble_eq_true rfl) rfl dX7_lead_11 (fun x3 bx3 hx3 => ?_)
    have i3 := if01 hx3
    refine z_if_ne (tgt := 20) dX7_lead_14 (by decide) (fun c4 => ?_) (fun c4 => ?_)
    · refine z_aload_nr dX7_lead_20 rfl ?_
      refine z_callVi (n2 := 93) (A_X7_quarrelsNow51 l g M (hT)) cb_X7_quarrelsNow cl_X7_235 (clr0 rfl rfl (by decide) (by decide)) rfl (by decide) ⟨_, rfl, rfl⟩ rfl (by decide) rfl (Nat.le_of_ble_eq_true rfl) rfl dX7_lead_21 (fun x5 Mz5 bx5 kMz5 hc5 => ?_)
      have hRD := hc5.1.1
      have hTR := hc5.1.2
      have hqq := hc5.2
      refine z_if_eq (tgt := 30) dX7_lead_24 (by decide) (fun c6 => ?_) (fun c6 => ?_)
      · have hfe : Feas (SolT M 51 (M 1 13) (-1) (-1) (-1) 0) := by rcases hqq with q | q; exact q.2; omega
        rcases (show what = 1 ∨ what = 0 by omega) with rfl | rfl
        · have hfe : Feas (SolT M 51 (M 1 13) (-1) (-1) (-1) 0) := by rcases hqq with q | q; exact q.2; omega
          refine z_aload_nr dX7_lead_30 rfl ?_
          refine z_getr (b := 20) fl_X7_33 rfl (by decide) rf_0_3 rfl dX7_lead_31 ?_
          refine z_bipush dX7_lead_34 ⟨by decide, by decide⟩ (by decide) ?_
          refine z_iload_n dX7_lead_36 rfl ?_
          refine z_callVv (n2 := 93) (A_X1_reach1 l g Mz5 16 (by omega) (hRD.2.1) (feas1 hRD hfe)) cb_X1_reach cl_X7_223 (clr0 rfl rfl (by decide) (by decide)) rfl (by decide) ⟨_, rfl, rfl⟩ rfl (by decide) rfl (Nat.le_of_ble_eq_true rfl) rfl dX7_lead_37 (fun Mz7 kMz7 hc7 => ?_)
          have hF := hc7
          have hend := by first | exact RF_end hRD hfe (by omega) hF (v := home) (by omega) | exact RF_end0 hRD hfe (by omega) hF (v := home) (by omega)
          have hofx : OffX M Mz7 := fun b j q => (hF.1 b j (by omega) (by omega)).trans (hRD.1.1 b j (by omega))
          refine z_aload_nr dX7_lead_40 rfl ?_
          refine z_getr (b := 20) fl_X7_33 rfl (by decide) rf_0_3 rfl dX7_lead_41 ?_
          refine z_iload_n dX7_lead_44 rfl ?_
          refine z_callVip (n2 := 93) (A_X1_isReached l g Mz7 home (by omega)) cb_X1_isReached cl_X7_227 (clr0 rfl rfl (by decide) (by decide)) rfl (by decide) ⟨_, rfl, rfl⟩ rfl (by decide) rfl (Nat.le_of_ble_eq_true rfl) rfl dX7_lead_45 (fun x8 bx8 hx8 => ?_)
          have i8 := if10 hx8
          refine z_if_eq (tgt := 61) dX7_lead_48 (by decide) (fun c9 => ?_) (fun c9 => ?_)
          · refine z_ldc (c := -1000006) cn_X7_230 ⟨by decide, by decide⟩ dX7_lead_61 ?_
            refine z_iret rfl (by decide) rfl (Nat.sub_self _) dX7_lead_63 ?_
            first
            | (refine ⟨hld.1, ?_⟩
               rw [if_neg (by omega), if_neg (by omega)]
               refine Or.inr (Or.inr ⟨hfe, fun z => ?_, hld.2⟩)
               rcases hend with q | q
               · omega
               · first | exact MaxD_free q.2.1 z | exact MaxD_free q.2.1 (FreeD_sym z))
            | (refine ⟨hofx, ?_⟩
               rw [if_neg (by omega), if_neg (by omega)]
               refine Or.inr (Or.inl ⟨hfe, ?_, rfl⟩)
               rcases hend with q | q
               · exact q.2
               · omega)
          · refine z_aload_nr dX7_lead_51 rfl ?_
            refine z_iload_n dX7_lead_52 rfl ?_
            refine z_iload_n dX7_lead_53 rfl ?_
            refine z_iload_n dX7_lead_54 rfl ?_
            refine z_callVi (n2 := 93) (A_X7_leadOf51_1 l g Mz7 home i _ _ (hT) (by omega) (hRD) (hTR) (hF) (hfe) (by omega)) cb_X7_leadOf cl_X7_274 (clr0 rfl rfl (by decide) (by decide)) rfl (by decide) ⟨_, rfl, rfl⟩ rfl (by decide) rfl (Nat.le_of_ble_eq_true rfl) rfl dX7_lead_55 (fun x10 Mz10 bx10 kMz10 hc10 => ?_)
            have hld := hc10
            refine z_goto (tgt := 63) dX7_lead_58 (by decide) ?_
            refine z_iret rfl (by decide) rfl (Nat.sub_self _) dX7_lead_63 ?_
            first
            | (refine ⟨hld.1, ?_⟩
               rw [if_neg (by omega), if_neg (by omega)]
               refine Or.inr (Or.inr ⟨hfe, fun z => ?_, hld.2⟩)
               rcases hend with q | q
               · omega
               · first | exact MaxD_free q.2.1 z | exact MaxD_free q.2.1 (FreeD_sym z))
            | (refine ⟨hofx, ?_⟩
               rw [if_neg (by omega), if_neg (by omega)]
               refine Or.inr (Or.inl ⟨hfe, ?_, rfl⟩)
               rcases hend with q | q
               · exact q.2
               · omega)
        · have hfe : Feas (SolT M 51 (M 1 13) (-1) (-1) (-1) 0) := by rcases hqq with q | q; exact q.2; omega
          refine z_aload_nr dX7_lead_30 rfl ?_
          refine z_getr (b := 20) fl_X7_33 rfl (by decide) rf_0_3 rfl dX7_lead_31 ?_
          refine z_bipush dX7_lead_34 ⟨by decide, by decide⟩ (by decide) ?_
          refine z_iload_n dX7_lead_36 rfl ?_
          refine z_callVv (n2 := 93) (A_X1_reach0 l g Mz5 16 (by omega) (hRD.2.1) (feas0 hRD hfe)) cb_X1_reach cl_X7_223 (clr0 rfl rfl (by decide) (by decide)) rfl (by decide) ⟨_, rfl, rfl⟩ rfl (by decide) rfl (Nat.le_of_ble_eq_true rfl) rfl dX7_lead_37 (fun Mz11 kMz11 hc11 => ?_)
          have hF := hc11
          have hend := by first | exact RF_end hRD hfe (by omega) hF (v := home) (by omega) | exact RF_end0 hRD hfe (by omega) hF (v := home) (by omega)
          have hofx : OffX M Mz11 := fun b j q => (hF.1 b j (by omega) (by omega)).trans (hRD.1.1 b j (by omega))
          refine z_aload_nr dX7_lead_40 rfl ?_
          refine z_getr (b := 20) fl_X7_33 rfl (by decide) rf_0_3 rfl dX7_lead_41 ?_
          refine z_iload_n dX7_lead_44 rfl ?_
          refine z_callVip (n2 := 93) (A_X1_isReached l g Mz11 home (by omega)) cb_X1_isReached cl_X7_227 (clr0 rfl rfl (by decide) (by decide)) rfl (by decide) ⟨_, rfl, rfl⟩ rfl (by decide) rfl (Nat.le_of_ble_eq_true rfl) rfl dX7_lead_45 (fun x12 bx12 hx12 => ?_)
          have i12 := if10 hx12
          refine z_if_eq (tgt := 61) dX7_lead_48 (by decide) (fun c13 => ?_) (fun c13 => ?_)
          · refine z_ldc (c := -1000006) cn_X7_230 ⟨by decide, by decide⟩ dX7_lead_61 ?_
            refine z_iret rfl (by decide) rfl (Nat.sub_self _) dX7_lead_63 ?_
            first
            | (refine ⟨hld.1, ?_⟩
               rw [if_neg (by omega), if_neg (by omega)]
               refine Or.inr (Or.inr ⟨hfe, fun z => ?_, hld.2⟩)
               rcases hend with q | q
               · omega
               · first | exact MaxD_free q.2.1 z | exact MaxD_free q.2.1 (FreeD_sym z))
            | (refine ⟨hofx, ?_⟩
               rw [if_neg (by omega), if_neg (by omega)]
               refine Or.inr (Or.inl ⟨hfe, ?_, rfl⟩)
               rcases hend with q | q
               · exact q.2
               · omega)
          · refine z_aload_nr dX7_lead_51 rfl ?_
            refine z_iload_n dX7_lead_52 rfl ?_
            refine z_iload_n dX7_lead_53 rfl ?_
            refine z_iload_n dX7_lead_54 rfl ?_
            refine z_callVi (n2 := 93) (A_X7_leadOf51_0 l g Mz11 home i _ _ (hT) (by omega) (hRD) (hTR) (hF) (hfe) (by omega)) cb_X7_leadOf cl_X7_274 (clr0 rfl rfl (by decide) (by decide)) rfl (by decide) ⟨_, rfl, rfl⟩ rfl (by decide) rfl (Nat.le_of_ble_eq_true rfl) rfl dX7_lead_55 (fun x14 Mz14 bx14 kMz14 hc14 => ?_)
            have hld := hc14
            refine z_goto (tgt := 63) dX7_lead_58 (by decide) ?_
            refine z_iret rfl (by decide) rfl (Nat.sub_self _) dX7_lead_63 ?_
            first
            | (refine ⟨hld.1, ?_⟩
               rw [if_neg (by omega), if_neg (by omega)]
               refine Or.inr (Or.inr ⟨hfe, fun z => ?_, hld.2⟩)
               rcases hend with q | q
               · omega
               · first | exact MaxD_free q.2.1 z | exact MaxD_free q.2.1 (FreeD_sym z))
            | (refine ⟨hofx, ?_⟩
               rw [if_neg (by omega), if_neg (by omega)]
               refine Or.inr (Or.inl ⟨hfe, ?_, rfl⟩)
               rcases hend with q | q
               · exact q.2
               · omega)
      · refine z_ldc (c := -1000005) cn_X7_222 ⟨by decide, by decide⟩ dX7_lead_27 ?_
        refine z_iret rfl (by decide) rfl (Nat.sub_self _) dX7_lead_29 ?_
        refine ⟨RD_X hRD, ?_⟩
        rw [if_neg (by omega), if_neg (by omega)]
        refine Or.inl ⟨?_, rfl⟩
        rcases hqq with q | q
        · omega
        · exact q.2
    · refine z_ldc (c := -1000002) cn_X7_87 ⟨by decide, by decide⟩ dX7_lead_17 ?_
      refine z_iret rfl (by decide) rfl (Nat.sub_self _) dX7_lead_19 ?_
      refine ⟨OffX_rfl M, ?_⟩
      rw [if_neg (by omega), if_pos (by omega)]
  · refine z_ldc (c := -1000001) cn_X7_82 ⟨by decide, by decide⟩ dX7_lead_7 ?_
    refine z_iret rfl (by decide) rfl (Nat.sub_self _) dX7_lead_9 ?_
    refine ⟨OffX_rfl M, ?_⟩
    rw [if_pos (by omega)]
/-! ===== the wide ===== -/
def tabV (k : Int) : Int := fTab.getD k.toNat 0
def p10 (f : Int) : Int := 10 ^ (f / 5000).toNat
def farL (f : Int) : Int := tabV (f % 5000 / 100) * p10 f
def farU (f : Int) : Int := if f % 100 = 0 then (if f % 5000 / 100 = 0 then farL f else farL f + p10 f) else (if f % 5000 / 100 + 1 < 50 then (tabV (f % 5000 / 100 + 1) + 1) * p10 f else 10000 * p10 f)
theorem pow10 {n : Int} (h0 : 0 ≤ n) (h1 : n ≤ 8) : 1 ≤ (10 : Int) ^ n.toNat ∧ (10 : Int) ^ n.toNat ≤ 100000000 := by
  have : n = 0 ∨ n = 1 ∨ n = 2 ∨ n = 3 ∨ n = 4 ∨ n = 5 ∨ n = 6 ∨ n = 7 ∨ n = 8 := by omega
  rcases this with rfl | rfl | rfl | rfl | rfl | rfl | rfl | rfl | rfl <;> decide
theorem tabV_b (k : Int) : 0 ≤ tabV k ∧ tabV k ≤ 9549 := by
  have h : fTab.all (fun x => decide (0 ≤ x) && decide (x ≤ 9549)) = true := by decide +kernel
  unfold tabV
  rw [List.getD_eq_getElem?_getD]
  cases hx : fTab[k.toNat]? with
  | none => simp
  | some x =>
    have := List.all_eq_true.mp h x (List.mem_of_getElem? hx)
    simpa using this
theorem mulp {a b A B : Int} (ha : 0 ≤ a ∧ a ≤ A) (hb : 0 ≤ b ∧ b ≤ B) : 0 ≤ a * b ∧ a * b ≤ A * B := by
  have := mulb (A := A) (B := B) (show -A ≤ a ∧ a ≤ A by omega) (show -B ≤ b ∧ b ≤ B by omega)
  have := Int.mul_nonneg ha.1 hb.1
  omega
theorem far_b {f : Int} (h : 0 ≤ f ∧ f ≤ 40000) : (0 ≤ farL f ∧ farL f ≤ 1000000000000) ∧ (0 ≤ farU f ∧ farU f ≤ 1100000000000) := by
  have hp := pow10 (n := f / 5000) (by omega) (by omega)
  have h1 := tabV_b (f % 5000 / 100)
  have h2 := tabV_b (f % 5000 / 100 + 1)
  have m1 := mulp h1 (show 0 ≤ p10 f ∧ p10 f ≤ 100000000 by unfold p10; omega)
  have m2 := mulp (show 0 ≤ tabV (f % 5000 / 100 + 1) + 1 ∧ tabV (f % 5000 / 100 + 1) + 1 ≤ 9550 by omega) (show 0 ≤ p10 f ∧ p10 f ≤ 100000000 by unfold p10; omega)
  have hp' : 1 ≤ p10 f ∧ p10 f ≤ 100000000 := hp
  unfold farU farL
  split <;> split <;> omega
set_option maxHeartbeats 400000 in
theorem A_X6_tenTimes (l : Launch) (g : Cx) (M : FMem) (n : Int) (hn : 0 ≤ n ∧ n ≤ 8) : AMl l g true fi_X6_tenTimes [fi n] 93 M (fun r M2 => M2 = M ∧ (fun r => r = 10 ^ n.toNat) r) := by
  refine AMl_intro [fi n, fu, fu, fu] (by decide) (knall rfl) (Nat.le_of_ble_eq_true rfl) rfl ?_
  intro hNV hM0 μ
  have bn : N32 n := hNV (fi n) (by simp)
  have lp4 : ∀ (kq : Nat) (i t : Int), (n - i).toNat = kq → (0 ≤ i ∧ i ≤ n) → (t = 10 ^ i.toNat) → Wa l g true fi_X6_tenTimes 93 μ (Zl g true fi_X6_tenTimes 93 μ (fun r M2 => M2 = M ∧ (fun r => r = 10 ^ n.toNat) r)) 4 [] [fi n, fl t, fu, fi i] 93 M := by
    intro kq
    induction kq using Nat.strongRecOn with
    | _ kq ih4 =>
    intro i t hk4 h0 h1
    have hp := pow10 h0.1 (show i ≤ 8 by omega)
    refine z_iload_n dX6_tenTimes_4 rfl ?_
    refine z_iload_n dX6_tenTimes_5 rfl ?_
    refine z_icmp_ge (tgt := 21) dX6_tenTimes_6 (by decide) (fun c1 => ?_) (fun c1 => ?_)
    · refine z_lload_n dX6_tenTimes_21 rfl ?_
      refine z_lret rfl (by decide) rfl (Nat.sub_self _) dX6_tenTimes_22 ?_
      exact ⟨rfl, by rw [h1, show i = n by omega]⟩
    · refine z_lload_n dX6_tenTimes_9 rfl ?_
      refine z_ldc2 (c := 10) cn_X6_42 ⟨by decide, by decide⟩ dX6_tenTimes_10 ?_
      first | refine z_lmulN dX6_tenTimes_13 (by omega) (fun x2 hx2 => ?_) | refine z_lmul dX6_tenTimes_13 (fun x2 hx2 => ?_)
      refine z_lstore_n (loc2 := [fi n, fl x2, fu, fi i]) dX6_tenTimes_14 (by decide) rfl ?_
      refine z_iinc (loc2 := fun vq => [fi n, fl x2, fu, fi vq]) dX6_tenTimes_15 rfl (by decide) (by omega) (fun _ => rfl) (fun x3 hx3 => ?_)
      refine z_goto (tgt := 4) dX6_tenTimes_18 (by decide) ?_
      exact ih4 _ (by omega) x3 x2 rfl (by omega) (by rw [hx3, hx2, h1, show (i + 1).toNat = i.toNat + 1 by omega, Int.pow_succ])
  refine z_lconst1 dX6_tenTimes_0 ?_
  refine z_lstore_n (loc2 := [fi n, fl 1, fu, fu]) dX6_tenTimes_1 (by decide) rfl ?_
  refine z_iconst dX6_tenTimes_2 ⟨by decide, by decide⟩ ?_
  refine z_istore_n (loc2 := [fi n, fl 1, fu, fi 0]) dX6_tenTimes_3 (by decide) rfl ?_
  exact lp4 _ 0 1 rfl (by omega) (rfl)
set_option maxHeartbeats 400000 in
theorem A_X6_atLeast (l : Launch) (g : Cx) (M : FMem) (f : Int) (hf : 0 ≤ f ∧ f ≤ 40000) : AMl l g true fi_X6_atLeast [fi f] 93 M (fun r M2 => M2 = M ∧ (fun r => r = farL f) r) := by
  refine AMl_intro [fi f, fu] (by decide) (knall rfl) (Nat.le_of_ble_eq_true rfl) rfl ?_
  intro hNV hM0 μ
  have bf : N32 f := hNV (fi f) (by simp)
  have hp := pow10 (n := f / 5000) (by omega) (by omega)
  have ht := tabV_b (f % 5000 / 100)
  have hpp : 0 ≤ p10 f ∧ p10 f ≤ 100000000 := ⟨by unfold p10; omega, hp.2⟩
  have hmm := mulp ht hpp
  refine z_iload_n dX6_atLeast_0 rfl ?_
  refine z_sipush dX6_atLeast_1 ⟨by decide, by decide⟩ (by decide) ?_
  have hm0 : f.tmod 5000 = f % 5000 := Int.tmod_eq_emod_of_nonneg (by omega)
  refine z_irem dX6_atLeast_4 (by omega) (fun x1 hx1 => ?_)
  refine z_bipush dX6_atLeast_5 ⟨by decide, by decide⟩ (by decide) ?_
  have hd1 := tdiv_cs x1 100 (by decide)
  refine z_idiv dX6_atLeast_7 (by omega) (by omega) (fun x2 hx2 => ?_)
  refine z_istore_n (loc2 := [fi f, fi x2]) dX6_atLeast_8 (by decide) rfl ?_
  refine z_iload_n dX6_atLeast_9 rfl ?_
  refine z_if_lt (tgt := 39) dX6_atLeast_10 (by decide) (fun c3 => ?_) (fun c3 => ?_)
  · exfalso; omega
  · refine z_iload_n dX6_atLeast_13 rfl ?_
    refine z_gets ft_X6_30 dX6_atLeast_14 ?_
    refine z_tlen dX6_atLeast_17 ?_
    refine z_icmp_ge (tgt := 39) dX6_atLeast_18 (by decide) (fun c4 => ?_) (fun c4 => ?_)
    · exfalso; omega
    · refine z_gets ft_X6_30 dX6_atLeast_21 ?_
      refine z_iload_n dX6_atLeast_24 rfl ?_
      refine z_tld (by omega) (by omega) dX6_atLeast_25 (fun x5 hx5 bx5 => ?_)
      refine z_i2l dX6_atLeast_26 ?_
      refine z_iload_n dX6_atLeast_27 rfl ?_
      refine z_sipush dX6_atLeast_28 ⟨by decide, by decide⟩ (by decide) ?_
      have hd2 := tdiv_cs f 5000 (by decide)
      refine z_idiv dX6_atLeast_31 (by omega) (by omega) (fun x6 hx6 => ?_)
      have h5 : x6 = f / 5000 := by omega
      refine z_callSlp (n2 := 93) (A_X6_tenTimes l g M x6 (by omega)) cb_X6_tenTimes cl_X6_33 (clr0 rfl rfl (by decide) (by decide)) rfl (by decide) rfl (Nat.le_of_ble_eq_true rfl) rfl dX6_atLeast_32 (fun x7 bx7 hx7 => ?_)
      have ha : x5 = tabV (f % 5000 / 100) := by rw [hx5]; unfold tabV; rw [show x2 = f % 5000 / 100 by omega]
      have hb : x7 = p10 f := by rw [hx7, h5]; rfl
      have hx : x5 * x7 = farL f := by rw [ha, hb]; rfl
      refine z_lmulN dX6_atLeast_35 (by rw [hx]; unfold farL; omega) (fun x8 hx8 => ?_)
      refine z_goto (tgt := 40) dX6_atLeast_36 (by decide) ?_
      refine z_lret rfl (by decide) rfl (Nat.sub_self _) dX6_atLeast_40 ?_
      refine ⟨rfl, ?_⟩
      omega
