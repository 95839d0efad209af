/-! ===== FarCandles: what the calls share ===== -/
theorem if01 {p : Prop} [Decidable p] {r : Int} (h : r = if p then 1 else 0) : (r = 1 ∧ p) ∨ (r = 0 ∧ ¬ p) := by
  split at h
  · exact Or.inl ⟨h, by assumption⟩
  · exact Or.inr ⟨h, by assumption⟩
theorem if10 {p : Prop} [Decidable p] {r : Int} (h : r = if p then 0 else 1) : (r = 0 ∧ p) ∨ (r = 1 ∧ ¬ p) := by
  split at h
  · exact Or.inl ⟨h, by assumption⟩
  · exact Or.inr ⟨h, by assumption⟩
set_option maxHeartbeats 400000 in
theorem A_X7_isFrom (l : Launch) (g : Cx) (M : FMem) (a lo hi : Int) : AMi l g true fi_X7_isFrom [fi a, fi lo, fi hi] 93 M (fun r M2 => M2 = M ∧ (fun r => r = if lo ≤ a ∧ a ≤ hi then 1 else 0) r) := by
  refine AMi_intro [fi a, fi lo, fi hi] (by decide) (knall rfl) (Nat.le_of_ble_eq_true rfl) rfl ?_
  intro hNV hM0 μ
  have ba : N32 a := hNV (fi a) (by simp)
  have blo : N32 lo := hNV (fi lo) (by simp)
  have bhi : N32 hi := hNV (fi hi) (by simp)
  refine z_iload_n dX7_isFrom_0 rfl ?_
  refine z_iload_n dX7_isFrom_1 rfl ?_
  refine z_icmp_lt (tgt := 14) dX7_isFrom_2 (by decide) (fun c1 => ?_) (fun c1 => ?_)
  · refine z_iconst dX7_isFrom_14 ⟨by decide, by decide⟩ ?_
    refine z_zret rfl (by omega) (by decide) rfl (Nat.sub_self _) dX7_isFrom_15 ?_
    refine ⟨rfl, ?_⟩
    simp; try omega
  · refine z_iload_n dX7_isFrom_5 rfl ?_
    refine z_iload_n dX7_isFrom_6 rfl ?_
    refine z_icmp_gt (tgt := 14) dX7_isFrom_7 (by decide) (fun c2 => ?_) (fun c2 => ?_)
    · refine z_iconst dX7_isFrom_14 ⟨by decide, by decide⟩ ?_
      refine z_zret rfl (by omega) (by decide) rfl (Nat.sub_self _) dX7_isFrom_15 ?_
      refine ⟨rfl, ?_⟩
      simp; try omega
    · refine z_iconst dX7_isFrom_10 ⟨by decide, by decide⟩ ?_
      refine z_goto (tgt := 15) dX7_isFrom_11 (by decide) ?_
      refine z_zret rfl (by omega) (by decide) rfl (Nat.sub_self _) dX7_isFrom_15 ?_
      refine ⟨rfl, ?_⟩
      simp; try omega
set_option maxHeartbeats 400000 in
theorem A_X7_asNumber (l : Launch) (g : Cx) (M : FMem) (b : Int) (hb : b = 0 ∨ b = 1) : AMi l g true fi_X7_asNumber [fi b] 93 M (fun r M2 => M2 = M ∧ (fun r => r = b) r) := by
  refine AMi_intro [fi b] (by decide) (knall rfl) (Nat.le_of_ble_eq_true rfl) rfl ?_
  intro hNV hM0 μ
  have bb : N32 b := hNV (fi b) (by simp)
  refine z_iload_n dX7_asNumber_0 rfl ?_
  refine z_if_eq (tgt := 8) dX7_asNumber_1 (by decide) (fun c1 => ?_) (fun c1 => ?_)
  · refine z_iconst dX7_asNumber_8 ⟨by decide, by decide⟩ ?_
    refine z_iret rfl (by decide) rfl (Nat.sub_self _) dX7_asNumber_9 ?_
    refine ⟨rfl, ?_⟩
    try simp
    try omega
  · refine z_iconst dX7_asNumber_4 ⟨by decide, by decide⟩ ?_
    refine z_goto (tgt := 9) dX7_asNumber_5 (by decide) ?_
    refine z_iret rfl (by decide) rfl (Nat.sub_self _) dX7_asNumber_9 ?_
    refine ⟨rfl, ?_⟩
    try simp
    try omega
set_option maxHeartbeats 400000 in
theorem A_X7_isList (l : Launch) (g : Cx) (M : FMem) (a : Int) : AMi l g true fi_X7_isList [fi a] 93 M (fun r M2 => M2 = M ∧ (fun r => r = if 0 ≤ a ∧ a ≤ 5 then 1 else 0) r) := by
  refine AMi_intro [fi a] (by decide) (knall rfl) (Nat.le_of_ble_eq_true rfl) rfl ?_
  intro hNV hM0 μ
  have ba : N32 a := hNV (fi a) (by simp)
  refine z_iload_n dX7_isList_0 rfl ?_
  refine z_iconst dX7_isList_1 ⟨by decide, by decide⟩ ?_
  refine z_iconst dX7_isList_2 ⟨by decide, by decide⟩ ?_
  refine z_callSip (n2 := 93) (A_X7_isFrom l g M a 0 5) cb_X7_isFrom cl_X7_83 (clr0 rfl rfl (by decide) (by decide)) rfl (by decide) rfl (Nat.le_of_ble_eq_true rfl) rfl dX7_isList_3 (fun x1 bx1 hx1 => ?_)
  have i1 := if01 hx1
  refine z_zret rfl (by split at * <;> simp_all) (by decide) rfl (Nat.sub_self _) dX7_isList_6 ?_
  exact ⟨rfl, by assumption⟩
set_option maxHeartbeats 400000 in
theorem A_X7_isSort (l : Launch) (g : Cx) (M : FMem) (a : Int) : AMi l g true fi_X7_isSort [fi a] 93 M (fun r M2 => M2 = M ∧ (fun r => r = if 0 ≤ a ∧ a ≤ 5 then 1 else 0) r) := by
  refine AMi_intro [fi a] (by decide) (knall rfl) (Nat.le_of_ble_eq_true rfl) rfl ?_
  intro hNV hM0 μ
  have ba : N32 a := hNV (fi a) (by simp)
  refine z_iload_n dX7_isSort_0 rfl ?_
  refine z_iconst dX7_isSort_1 ⟨by decide, by decide⟩ ?_
  refine z_iconst dX7_isSort_2 ⟨by decide, by decide⟩ ?_
  refine z_callSip (n2 := 93) (A_X7_isFrom l g M a 0 5) cb_X7_isFrom cl_X7_83 (clr0 rfl rfl (by decide) (by decide)) rfl (by decide) rfl (Nat.le_of_ble_eq_true rfl) rfl dX7_isSort_3 (fun x1 bx1 hx1 => ?_)
  have i1 := if01 hx1
  refine z_zret rfl (by split at * <;> simp_all) (by decide) rfl (Nat.sub_self _) dX7_isSort_6 ?_
  exact ⟨rfl, by assumption⟩
set_option maxHeartbeats 400000 in
theorem A_X7_isHome (l : Launch) (g : Cx) (M : FMem) (a : Int) : AMi l g true fi_X7_isHome [fi a] 93 M (fun r M2 => M2 = M ∧ (fun r => r = if 0 ≤ a ∧ a ≤ 9 then 1 else 0) r) := by
  refine AMi_intro [fi a] (by decide) (knall rfl) (Nat.le_of_ble_eq_true rfl) rfl ?_
  intro hNV hM0 μ
  have ba : N32 a := hNV (fi a) (by simp)
  refine z_iload_n dX7_isHome_0 rfl ?_
  refine z_iconst dX7_isHome_1 ⟨by decide, by decide⟩ ?_
  refine z_bipush dX7_isHome_2 ⟨by decide, by decide⟩ (by decide) ?_
  refine z_callSip (n2 := 93) (A_X7_isFrom l g M a 0 9) cb_X7_isFrom cl_X7_83 (clr0 rfl rfl (by decide) (by decide)) rfl (by decide) rfl (Nat.le_of_ble_eq_true rfl) rfl dX7_isHome_4 (fun x1 bx1 hx1 => ?_)
  have i1 := if01 hx1
  refine z_zret rfl (by split at * <;> simp_all) (by decide) rfl (Nat.sub_self _) dX7_isHome_7 ?_
  exact ⟨rfl, by assumption⟩
set_option maxHeartbeats 400000 in
theorem A_X7_isEnd (l : Launch) (g : Cx) (M : FMem) (a : Int) : AMi l g true fi_X7_isEnd [fi a] 93 M (fun r M2 => M2 = M ∧ (fun r => r = if a = 0 ∨ a = 1 then 1 else 0) r) := by
  refine AMi_intro [fi a] (by decide) (knall rfl) (Nat.le_of_ble_eq_true rfl) rfl ?_
  intro hNV hM0 μ
  have ba : N32 a := hNV (fi a) (by simp)
  refine z_iload_n dX7_isEnd_0 rfl ?_
  refine z_if_eq (tgt := 9) dX7_isEnd_1 (by decide) (fun c1 => ?_) (fun c1 => ?_)
  · refine z_iconst dX7_isEnd_9 ⟨by decide, by decide⟩ ?_
    refine z_goto (tgt := 14) dX7_isEnd_10 (by decide) ?_
    refine z_zret rfl (by omega) (by decide) rfl (Nat.sub_self _) dX7_isEnd_14 ?_
    refine ⟨rfl, ?_⟩
    simp; try omega
  · refine z_iload_n dX7_isEnd_4 rfl ?_
    refine z_iconst dX7_isEnd_5 ⟨by decide, by decide⟩ ?_
    refine z_icmp_ne (tgt := 13) dX7_isEnd_6 (by decide) (fun c2 => ?_) (fun c2 => ?_)
    · refine z_iconst dX7_isEnd_13 ⟨by decide, by decide⟩ ?_
      refine z_zret rfl (by omega) (by decide) rfl (Nat.sub_self _) dX7_isEnd_14 ?_
      refine ⟨rfl, ?_⟩
      simp; try omega
    · refine z_iconst dX7_isEnd_9 ⟨by decide, by decide⟩ ?_
      refine z_goto (tgt := 14) dX7_isEnd_10 (by decide) ?_
      refine z_zret rfl (by omega) (by decide) rfl (Nat.sub_self _) dX7_isEnd_14 ?_
      refine ⟨rfl, ?_⟩
      simp; try omega
set_option maxHeartbeats 400000 in
theorem A_X7_isFarness (l : Launch) (g : Cx) (M : FMem) (a : Int) : AMi l g true fi_X7_isFarness [fi a] 93 M (fun r M2 => M2 = M ∧ (fun r => r = if 0 ≤ a ∧ a ≤ 40000 then 1 else 0) r) := by
  refine AMi_intro [fi a] (by decide) (knall rfl) (Nat.le_of_ble_eq_true rfl) rfl ?_
  intro hNV hM0 μ
  have ba : N32 a := hNV (fi a) (by simp)
  refine z_iload_n dX7_isFarness_0 rfl ?_
  refine z_iconst dX7_isFarness_1 ⟨by decide, by decide⟩ ?_
  refine z_ldc_w (c := 40000) cn_X7_335 ⟨by decide, by decide⟩ dX7_isFarness_2 ?_
  refine z_callSip (n2 := 93) (A_X7_isFrom l g M a 0 40000) cb_X7_isFrom cl_X7_83 (clr0 rfl rfl (by decide) (by decide)) rfl (by decide) rfl (Nat.le_of_ble_eq_true rfl) rfl dX7_isFarness_5 (fun x1 bx1 hx1 => ?_)
  have i1 := if01 hx1
  refine z_zret rfl (by split at * <;> simp_all) (by decide) rfl (Nat.sub_self _) dX7_isFarness_8 ?_
  exact ⟨rfl, by assumption⟩
set_option maxHeartbeats 400000 in
theorem A_X7_isSpan (l : Launch) (g : Cx) (M : FMem) (u v : Int) : AMi l g true fi_X7_isSpan [fi u, fi v] 93 M (fun r M2 => M2 = M ∧ (fun r => r = if -40000 ≤ u ∧ u ≤ v ∧ v ≤ 40000 then 1 else 0) r) := by
  refine AMi_intro [fi u, fi v] (by decide) (knall rfl) (Nat.le_of_ble_eq_true rfl) rfl ?_
  intro hNV hM0 μ
  have bu : N32 u := hNV (fi u) (by simp)
  have bv : N32 v := hNV (fi v) (by simp)
  refine z_iload_n dX7_isSpan_0 rfl ?_
  refine z_ldc_w (c := -40000) cn_X7_336 ⟨by decide, by decide⟩ dX7_isSpan_1 ?_
  refine z_icmp_lt (tgt := 23) dX7_isSpan_4 (by decide) (fun c1 => ?_) (fun c1 => ?_)
  · refine z_iconst dX7_isSpan_23 ⟨by decide, by decide⟩ ?_
    refine z_zret rfl (by omega) (by decide) rfl (Nat.sub_self _) dX7_isSpan_24 ?_
    refine ⟨rfl, ?_⟩
    simp; try omega
  · refine z_iload_n dX7_isSpan_7 rfl ?_
    refine z_iload_n dX7_isSpan_8 rfl ?_
    refine z_icmp_lt (tgt := 23) dX7_isSpan_9 (by decide) (fun c2 => ?_) (fun c2 => ?_)
    · refine z_iconst dX7_isSpan_23 ⟨by decide, by decide⟩ ?_
      refine z_zret rfl (by omega) (by decide) rfl (Nat.sub_self _) dX7_isSpan_24 ?_
      refine ⟨rfl, ?_⟩
      simp; try omega
    · refine z_iload_n dX7_isSpan_12 rfl ?_
      refine z_ldc_w (c := 40000) cn_X7_335 ⟨by decide, by decide⟩ dX7_isSpan_13 ?_
      refine z_icmp_gt (tgt := 23) dX7_isSpan_16 (by decide) (fun c3 => ?_) (fun c3 => ?_)
      · refine z_iconst dX7_isSpan_23 ⟨by decide, by decide⟩ ?_
        refine z_zret rfl (by omega) (by decide) rfl (Nat.sub_self _) dX7_isSpan_24 ?_
        refine ⟨rfl, ?_⟩
        simp; try omega
      · refine z_iconst dX7_isSpan_19 ⟨by decide, by decide⟩ ?_
        refine z_goto (tgt := 24) dX7_isSpan_20 (by decide) ?_
        refine z_zret rfl (by omega) (by decide) rfl (Nat.sub_self _) dX7_isSpan_24 ?_
        refine ⟨rfl, ?_⟩
        simp; try omega
/-! ===== Tellings ===== -/
set_option maxHeartbeats 400000 in
theorem A_X5_isFull (l : Launch) (g : Cx) (M : FMem)  : AMi l g true fi_X5_isFull [fr 1] 93 M (fun r M2 => M2 = M ∧ (fun r => r = if 80 ≤ M 1 13 then 1 else 0) r) := by
  refine AMi_intro [fr 1] (by decide) (knall rfl) (Nat.le_of_ble_eq_true rfl) rfl ?_
  intro hNV hM0 μ
  refine z_aload_nr dX5_isFull_0 rfl ?_
  refine z_geti (kz := 13) fl_X5_53 rfl (by decide) rfl dX5_isFull_1 (fun x1 hx1 bx1 => ?_)
  refine z_bipush dX5_isFull_4 ⟨by decide, by decide⟩ (by decide) ?_
  refine z_icmp_lt (tgt := 13) dX5_isFull_6 (by decide) (fun c2 => ?_) (fun c2 => ?_)
  · refine z_iconst dX5_isFull_13 ⟨by decide, by decide⟩ ?_
    refine z_zret rfl (by omega) (by decide) rfl (Nat.sub_self _) dX5_isFull_14 ?_
    refine ⟨rfl, ?_⟩
    simp; try omega
  · refine z_iconst dX5_isFull_9 ⟨by decide, by decide⟩ ?_
    refine z_goto (tgt := 14) dX5_isFull_10 (by decide) ?_
    refine z_zret rfl (by omega) (by decide) rfl (Nat.sub_self _) dX5_isFull_14 ?_
    refine ⟨rfl, ?_⟩
    simp; try omega
set_option maxHeartbeats 400000 in
theorem A_X5_has (l : Launch) (g : Cx) (M : FMem) (i : Int) : AMi l g true fi_X5_has [fr 1, fi i] 93 M (fun r M2 => M2 = M ∧ (fun r => r = if 0 ≤ i ∧ i < M 1 13 then 1 else 0) r) := by
  refine AMi_intro [fr 1, fi i] (by decide) (knall rfl) (Nat.le_of_ble_eq_true rfl) rfl ?_
  intro hNV hM0 μ
  have bi : N32 i := hNV (fi i) (by simp)
  refine z_iload_n dX5_has_0 rfl ?_
  refine z_if_lt (tgt := 16) dX5_has_1 (by decide) (fun c1 => ?_) (fun c1 => ?_)
  · refine z_iconst dX5_has_16 ⟨by decide, by decide⟩ ?_
    refine z_zret rfl (by omega) (by decide) rfl (Nat.sub_self _) dX5_has_17 ?_
    refine ⟨rfl, ?_⟩
    simp; try omega
  · refine z_iload_n dX5_has_4 rfl ?_
    refine z_aload_nr dX5_has_5 rfl ?_
    refine z_geti (kz := 13) fl_X5_53 rfl (by decide) rfl dX5_has_6 (fun x2 hx2 bx2 => ?_)
    refine z_icmp_ge (tgt := 16) dX5_has_9 (by decide) (fun c3 => ?_) (fun c3 => ?_)
    · refine z_iconst dX5_has_16 ⟨by decide, by decide⟩ ?_
      refine z_zret rfl (by omega) (by decide) rfl (Nat.sub_self _) dX5_has_17 ?_
      refine ⟨rfl, ?_⟩
      simp; try omega
    · refine z_iconst dX5_has_12 ⟨by decide, by decide⟩ ?_
      refine z_goto (tgt := 17) dX5_has_13 (by decide) ?_
      refine z_zret rfl (by omega) (by decide) rfl (Nat.sub_self _) dX5_has_17 ?_
      refine ⟨rfl, ?_⟩
      simp; try omega
set_option maxHeartbeats 400000 in
theorem A_X5_isInNet (l : Launch) (g : Cx) (M : FMem) (i : Int) (hi : 0 ≤ i ∧ i < 80) : AMi l g true fi_X5_isInNet [fr 1, fi i] 93 M (fun r M2 => M2 = M ∧ (fun r => r = if M 11 i = 0 ∧ M 10 i = 0 then 1 else 0) r) := by
  refine AMi_intro [fr 1, fi i] (by decide) (knall rfl) (Nat.le_of_ble_eq_true rfl) rfl ?_
  intro hNV hM0 μ
  have bi : N32 i := hNV (fi i) (by simp)
  refine z_aload_nr dX5_isInNet_0 rfl ?_
  refine z_getr (b := 11) fl_X5_40 rfl (by decide) rf_1_9 rfl dX5_isInNet_1 ?_
  refine z_iload_n dX5_isInNet_4 rfl ?_
  refine z_zald rfl (by decide) (by omega) (by omega) dX5_isInNet_5 (fun x1 hx1 bx1 => ?_)
  refine z_if_ne (tgt := 22) dX5_isInNet_6 (by decide) (fun c2 => ?_) (fun c2 => ?_)
  · refine z_iconst dX5_isInNet_22 ⟨by decide, by decide⟩ ?_
    refine z_zret rfl (by omega) (by decide) rfl (Nat.sub_self _) dX5_isInNet_23 ?_
    refine ⟨rfl, ?_⟩
    simp_all; try omega
  · refine z_aload_nr dX5_isInNet_9 rfl ?_
    refine z_getr (b := 10) fl_X5_36 rfl (by decide) rf_1_8 rfl dX5_isInNet_10 ?_
    refine z_iload_n dX5_isInNet_13 rfl ?_
    refine z_zald rfl (by decide) (by omega) (by omega) dX5_isInNet_14 (fun x3 hx3 bx3 => ?_)
    refine z_if_ne (tgt := 22) dX5_isInNet_15 (by decide) (fun c4 => ?_) (fun c4 => ?_)
    · refine z_iconst dX5_isInNet_22 ⟨by decide, by decide⟩ ?_
      refine z_zret rfl (by omega) (by decide) rfl (Nat.sub_self _) dX5_isInNet_23 ?_
      refine ⟨rfl, ?_⟩
      simp_all; try omega
    · refine z_iconst dX5_isInNet_18 ⟨by decide, by decide⟩ ?_
      refine z_goto (tgt := 23) dX5_isInNet_19 (by decide) ?_
      refine z_zret rfl (by omega) (by decide) rfl (Nat.sub_self _) dX5_isInNet_23 ?_
      refine ⟨rfl, ?_⟩
      simp_all; try omega
set_option maxHeartbeats 400000 in
theorem A_X5_add (l : Launch) (g : Cx) (M : FMem) (k li so ho fs se : Int) (hs : 0 ≤ M 1 13 ∧ M 1 13 < 80) : AMi l g true fi_X5_add [fr 1, fi k, fi li, fi so, fi ho, fi fs, fi se] 93 M (fun r M2 => r = M 1 13 ∧ M2 = st (st (st (st (st (st (st (st M 2 (M 1 13) k) 3 (M 1 13) li) 4 (M 1 13) so) 5 (M 1 13) ho) 6 (M 1 13) fs) 7 (M 1 13) se) 1 13 (M 1 13 + 1)) 1 11 0) := by
  refine AMi_intro [fr 1, fi k, fi li, fi so, fi ho, fi fs, fi se, fu] (by decide) (knall rfl) (Nat.le_of_ble_eq_true rfl) rfl ?_
  intro hNV hM0 μ
  have bk : N32 k := hNV (fi k) (by simp)
  have bli : N32 li := hNV (fi li) (by simp)
  have bso : N32 so := hNV (fi so) (by simp)
  have bho : N32 ho := hNV (fi ho) (by simp)
  have bfs : N32 fs := hNV (fi fs) (by simp)
  have bse : N32 se := hNV (fi se) (by simp)
  refine z_aload_nr dX5_add_0 rfl ?_
  refine z_geti (kz := 13) fl_X5_53 rfl (by decide) rfl dX5_add_1 (fun x1 hx1 bx1 => ?_)
  refine z_istore (loc2 := [fr 1, fi k, fi li, fi so, fi ho, fi fs, fi se, fi x1]) dX5_add_4 (by decide) rfl ?_
  refine z_iload dX5_add_6 rfl ?_
  refine z_bipush dX5_add_8 ⟨by decide, by decide⟩ (by decide) ?_
  refine z_icmp_lt (tgt := 16) dX5_add_10 (by decide) (fun c2 => ?_) (fun c2 => ?_)
  · refine z_aload_nr dX5_add_16 rfl ?_
    refine z_getr (b := 2) fl_X5_9 rfl (by decide) rf_1_0 rfl dX5_add_17 ?_
    refine z_iload dX5_add_20 rfl ?_
    refine z_iload_n dX5_add_22 rfl ?_
    refine z_iast rfl (by decide) (by omega) (by omega) dX5_add_23 (fun Mz3 hMz3 => ?_)
    refine z_aload_nr dX5_add_24 rfl ?_
    refine z_getr (b := 3) fl_X5_15 rfl (by decide) rf_1_1 rfl dX5_add_25 ?_
    refine z_iload dX5_add_28 rfl ?_
    refine z_iload_n dX5_add_30 rfl ?_
    refine z_iast rfl (by decide) (by omega) (by omega) dX5_add_31 (fun Mz4 hMz4 => ?_)
    refine z_aload_nr dX5_add_32 rfl ?_
    refine z_getr (b := 4) fl_X5_18 rfl (by decide) rf_1_2 rfl dX5_add_33 ?_
    refine z_iload dX5_add_36 rfl ?_
    refine z_iload_n dX5_add_38 rfl ?_
    refine z_iast rfl (by decide) (by omega) (by omega) dX5_add_39 (fun Mz5 hMz5 => ?_)
    refine z_aload_nr dX5_add_40 rfl ?_
    refine z_getr (b := 5) fl_X5_21 rfl (by decide) rf_1_3 rfl dX5_add_41 ?_
    refine z_iload dX5_add_44 rfl ?_
    refine z_iload dX5_add_46 rfl ?_
    refine z_iast rfl (by decide) (by omega) (by omega) dX5_add_48 (fun Mz6 hMz6 => ?_)
    refine z_aload_nr dX5_add_49 rfl ?_
    refine z_getr (b := 6) fl_X5_24 rfl (by decide) rf_1_4 rfl dX5_add_50 ?_
    refine z_iload dX5_add_53 rfl ?_
    refine z_iload dX5_add_55 rfl ?_
    refine z_iast rfl (by decide) (by omega) (by omega) dX5_add_57 (fun Mz7 hMz7 => ?_)
    refine z_aload_nr dX5_add_58 rfl ?_
    refine z_getr (b := 7) fl_X5_27 rfl (by decide) rf_1_5 rfl dX5_add_59 ?_
    refine z_iload dX5_add_62 rfl ?_
    refine z_iload dX5_add_64 rfl ?_
    refine z_iast rfl (by decide) (by omega) (by omega) dX5_add_66 (fun Mz8 hMz8 => ?_)
    refine z_aload_nr dX5_add_67 rfl ?_
    refine z_dup rfl dX5_add_68 ?_
    refine z_geti (kz := 13) fl_X5_53 rfl (by decide) rfl dX5_add_69 (fun x9 hx9 bx9 => ?_)
    rw [hMz8, st_cell (by decide), hMz7, st_cell (by decide), hMz6, st_cell (by decide), hMz5, st_cell (by decide), hMz4, st_cell (by decide), hMz3, st_cell (by decide)] at hx9
    refine z_iconst dX5_add_72 ⟨by decide, by decide⟩ ?_
    first | refine z_iaddN dX5_add_73 (by omega) (fun x10 hx10 => ?_) | refine z_iadd dX5_add_73 (fun x10 hx10 => ?_)
    refine z_puti (kz := 13) fl_X5_53 rfl (by decide) rfl nr_1_13 dX5_add_74 (fun Mz11 hMz11 => ?_)
    refine z_aload_nr dX5_add_77 rfl ?_
    refine z_iconst dX5_add_78 ⟨by decide, by decide⟩ ?_
    refine z_puti (kz := 11) fl_X5_46 rfl (by decide) rfl nr_1_11 dX5_add_79 (fun Mz12 hMz12 => ?_)
    refine z_iload dX5_add_82 rfl ?_
    refine z_iret rfl (by decide) rfl (Nat.sub_self _) dX5_add_84 ?_
    subst_vars
    exact ⟨rfl, rfl⟩
  · exfalso; omega
set_option maxHeartbeats 400000 in
theorem A_X5_dress (l : Launch) (g : Cx) (M : FMem) (i t c : Int) (hi : 0 ≤ i ∧ i < M 1 13 ∧ M 1 13 ≤ 80) : AMv l g true fi_X5_dress [fr 1, fi i, fi t, fi c] 93 M (fun M2 => M2 = st (st M 8 i t) 9 i c) := by
  refine AMv_intro [fr 1, fi i, fi t, fi c] (by decide) (knall rfl) (Nat.le_of_ble_eq_true rfl) rfl ?_
  intro hNV hM0 μ
  have bi : N32 i := hNV (fi i) (by simp)
  have bt : N32 t := hNV (fi t) (by simp)
  have bc : N32 c := hNV (fi c) (by simp)
  refine z_aload_nr dX5_dress_0 rfl ?_
  refine z_iload_n dX5_dress_1 rfl ?_
  refine z_callVip (n2 := 93) (A_X5_has l g M i) cb_X5_has cl_X5_57 (clr0 rfl rfl (by decide) (by decide)) rfl (by decide) ⟨_, rfl, rfl⟩ rfl (by decide) rfl (Nat.le_of_ble_eq_true rfl) rfl dX5_dress_2 (fun x1 bx1 hx1 => ?_)
  have i1 := if01 hx1
  refine z_if_eq (tgt := 22) dX5_dress_5 (by decide) (fun c2 => ?_) (fun c2 => ?_)
  · refine z_vret rfl (by decide) rfl (Nat.sub_self _) dX5_dress_22 ?_
    first | (subst_vars; rfl) | (exfalso; rw [if_pos (by omega)] at *; omega)
  · refine z_aload_nr dX5_dress_8 rfl ?_
    refine z_getr (b := 8) fl_X5_30 rfl (by decide) rf_1_6 rfl dX5_dress_9 ?_
    refine z_iload_n dX5_dress_12 rfl ?_
    refine z_iload_n dX5_dress_13 rfl ?_
    refine z_iast rfl (by decide) (by omega) (by omega) dX5_dress_14 (fun Mz3 hMz3 => ?_)
    refine z_aload_nr dX5_dress_15 rfl ?_
    refine z_getr (b := 9) fl_X5_33 rfl (by decide) rf_1_7 rfl dX5_dress_16 ?_
    refine z_iload_n dX5_dress_19 rfl ?_
    refine z_iload_n dX5_dress_20 rfl ?_
    refine z_iast rfl (by decide) (by omega) (by omega) dX5_dress_21 (fun Mz4 hMz4 => ?_)
    refine z_vret rfl (by decide) rfl (Nat.sub_self _) dX5_dress_22 ?_
    first | (subst_vars; rfl) | (exfalso; rw [if_pos (by omega)] at *; omega)
