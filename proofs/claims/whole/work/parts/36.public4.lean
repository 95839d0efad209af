/-! ===== boxes, box, delay ===== -/
def PBox (S : (Int → Int) → Prop) (red : Int → Int) (own b q : Int) : Prop := if ¬ (1 ≤ b ∧ b ≤ 200) then q = -1000002 else (¬ Feas S ∧ q = -1000005) ∨ (Feas S ∧ FstH (BoxNo S red own b) 10 q)
theorem PBox_eq {S : (Int → Int) → Prop} {red : Int → Int} {own b q q' : Int} (a : PBox S red own b q) (b' : PBox S red own b q') : q = q' := by
  unfold PBox at a b'
  split at a
  · rename_i h; rw [if_pos h] at b'; omega
  · rename_i h
    rw [if_neg h] at b'
    rcases a with ⟨a1, a2⟩ | ⟨a1, a2⟩ <;> rcases b' with ⟨b1, b2⟩ | ⟨b1, b2⟩
    · omega
    · exact absurd b1 a1
    · exact absurd a1 b1
    · exact FstH_eq a2 b2
def PBoxes (S : (Int → Int) → Prop) (red : Int → Int) (own what q : Int) : Prop := if ¬ (0 ≤ what ∧ what ≤ 3) then q = -1000002 else (¬ Feas S ∧ q = -1000005) ∨ (Feas S ∧ what = 3 ∧ q = sumI (fun h => c01 (Spk S red h)) 10) ∨ (Feas S ∧ what ≠ 3 ∧ ∃ c lo hi, KeptB (fun b => ∀ h, 0 ≤ h → h < 10 → ¬ BoxNo S red own b h) 201 c lo hi ∧ q = if what = 0 then c else if what = 1 then lo else hi)
theorem PBoxes_eq {S : (Int → Int) → Prop} {red : Int → Int} {own what q q' : Int} (a : PBoxes S red own what q) (b : PBoxes S red own what q') : q = q' := by
  unfold PBoxes at a b
  split at a
  · rename_i h; rw [if_pos h] at b; omega
  · rename_i h
    rw [if_neg h] at b
    rcases a with ⟨a1, a2⟩ | ⟨a1, a2, a3⟩ | ⟨a1, a2, c, lo, hi, a3, a4⟩ <;> rcases b with ⟨b1, b2⟩ | ⟨b1, b2, b3⟩ | ⟨b1, b2, c', lo', hi', b3, b4⟩ <;> first | omega | exact absurd a1 b1 | exact absurd b1 a1 | skip
    have e1 : c = c' := a3.1.trans b3.1.symm
    have e2 := FstK_eq a3.2.1 b3.2.1
    have e3 := LstK_eq a3.2.2 b3.2.2
    rw [a4, b4, e1, e2, e3]
def PDelay (S : (Int → Int) → Prop) (home u v q : Int) : Prop := if ¬ (0 ≤ home ∧ home ≤ 9) then q = -1000001 else if u < 1 ∨ v < u ∨ 2000000000 < v then q = -1000002 else (¬ Feas S ∧ q = -1000005) ∨ (Feas S ∧ (∀ lo up, Ends2 S home lo up → ¬ (0 ≤ lo ∧ up ≤ 40000)) ∧ q = -1000003) ∨ (Feas S ∧ ∃ lo up, Ends2 S home lo up ∧ (0 ≤ lo ∧ up ≤ 40000) ∧ ((q = 0 ∨ q = farL lo - v ∨ q = u - farU up) ∧ 0 ≤ q ∧ farL lo - v ≤ q ∧ u - farU up ≤ q))
theorem PDelay_eq {S : (Int → Int) → Prop} {home u v q q' : Int} (a : PDelay S home u v q) (b : PDelay S home u v q') : q = q' := by
  unfold PDelay at a b
  split at a
  · rename_i h; rw [if_pos h] at b; omega
  · rename_i h
    rw [if_neg h] at b
    split at a
    · rename_i h; rw [if_pos h] at b; omega
    · rename_i h
      rw [if_neg h] at b
      rcases a with ⟨a1, a2⟩ | ⟨a1, a2, a3⟩ | ⟨a1, lo, up, a2, a3, a4⟩ <;> rcases b with ⟨b1, b2⟩ | ⟨b1, b2, b3⟩ | ⟨b1, lo', up', b2, b3, b4⟩ <;> first | omega | exact absurd a1 b1 | exact absurd b1 a1 | exact absurd a3 (b2 _ _ a2) | exact absurd b3 (a2 _ _ b2) | skip
      obtain ⟨rfl, rfl⟩ := Ends2_eq a2 b2
      omega
set_option maxHeartbeats 400000 in
theorem A_X7_box42 (l : Launch) (g : Cx) (M : FMem) (b : Int) (hT : XT M 42) : AMi l g true fi_X7_box [fr 0, fi b] 93 M (fun q M2 => OffX M M2 ∧ PBox (SolT M 42 (M 1 13) (-1) (-1) (-1) 0) (fun h => M 38 h) (M 42 7) b q) := by
  refine AMi_intro [fr 0, fi b] (by decide) (knall rfl) (Nat.le_of_ble_eq_true rfl) rfl ?_
  intro hNV hM0 μ
  have bb : N32 b := hNV (fi b) (by simp)
  unfold PBox
  refine z_iload_n dX7_box_0 rfl ?_
  refine z_iconst dX7_box_1 ⟨by decide, by decide⟩ ?_
  refine z_sipush dX7_box_2 ⟨by decide, by decide⟩ (by decide) ?_
  refine z_callSip (n2 := 93) (A_X7_isFrom l g M b 1 200) cb_X7_isFrom cl_X7_83 (clr0 rfl rfl (by decide) (by decide)) rfl (by decide) rfl (Nat.le_of_ble_eq_true rfl) rfl dX7_box_5 (fun x1 bx1 hx1 => ?_)
  have i1 := if01 hx1
  refine z_if_ne (tgt := 14) dX7_box_8 (by decide) (fun c2 => ?_) (fun c2 => ?_)
  · refine z_aload_nr dX7_box_14 rfl ?_
    refine z_callVi (n2 := 93) (A_X7_quarrelsNow42 l g M (hT)) cb_X7_quarrelsNow cl_X7_235 (clr0 rfl rfl (by decide) (by decide)) rfl (by decide) ⟨_, rfl, rfl⟩ rfl (by decide) rfl (Nat.le_of_ble_eq_true rfl) rfl dX7_box_15 (fun x3 Mz3 bx3 kMz3 hc3 => ?_)
    have hRD := hc3.1.1
    have hTR := hc3.1.2
    have hqq := hc3.2
    refine z_if_eq (tgt := 24) dX7_box_18 (by decide) (fun c4 => ?_) (fun c4 => ?_)
    · have hfe : Feas (SolT M 42 (M 1 13) (-1) (-1) (-1) 0) := by rcases hqq with q | q; exact q.2; omega
      refine z_aload_nr dX7_box_24 rfl ?_
      refine z_getr (b := 20) fl_X7_33 rfl (by decide) rf_0_3 rfl dX7_box_25 ?_
      refine z_callVv (n2 := 93) (A_X1_findEnds l g Mz3 (hRD.2.1) (feas1 hRD hfe)) cb_X1_findEnds cl_X7_258 (clr0 rfl rfl (by decide) (by decide)) rfl (by decide) ⟨_, rfl, rfl⟩ rfl (by decide) rfl (Nat.le_of_ble_eq_true rfl) rfl dX7_box_28 (fun Mz5 kMz5 hc5 => ?_)
      have hFE := hc5
      have hRD3 := FE_RD hRD hFE
      have hES := FES_of hRD hFE
      refine z_aload_nr dX7_box_31 rfl ?_
      refine z_getr (b := 37) fl_X7_47 rfl (by decide) rf_0_5 rfl dX7_box_32 ?_
      refine z_aload_nr dX7_box_35 rfl ?_
      refine z_getr (b := 20) fl_X7_33 rfl (by decide) rf_0_3 rfl dX7_box_36 ?_
      refine z_aload_nr dX7_box_39 rfl ?_
      refine z_getv (b := 42) (kz := 6) fl_X7_54 rfl (by decide) rfl (fun _ => (RD_X hRD3 0 6 (by omega)).trans hT.2.2.1) dX7_box_40 ?_
      refine z_geti (kz := 7) fl_X7_207 rfl (by decide) rfl dX7_box_43 (fun x6 hx6 bx6 => ?_)
      have how : x6 = M 42 7 := by have := RD_X hRD3 42 7 (by omega); omega
      refine z_callVv (n2 := 93) (A_X6_hear l g Mz5 x6 ((SolT M 42 (M 1 13) (-1) (-1) (-1) 0)) (hfe) (hES)) cb_X6_hear cl_X7_293 (clr0 rfl rfl (by decide) (by decide)) rfl (by decide) ⟨_, rfl, rfl⟩ rfl (by decide) rfl (Nat.le_of_ble_eq_true rfl) rfl dX7_box_46 (fun Mz7 kMz7 hc7 => ?_)
      have hOf : OffX M Mz7 := fun b j q => (hc7.1 b j (by omega)).trans (RD_X hRD3 b j q)
      have hred : (fun h => Mz7 38 h) = (fun h => M 38 h) := funext fun h => hOf 38 h (by omega)
      have hrd2 : (fun h => Mz7 38 h) = _ := funext fun h => hc7.1 38 h (by omega)
      have hH : HearS (SolT M 42 (M 1 13) (-1) (-1) (-1) 0) (fun h => Mz7 38 h) (M 42 7) Mz7 := by rw [hrd2, ← how]; exact hc7.2
      refine z_aload_nr dX7_box_49 rfl ?_
      refine z_getr (b := 37) fl_X7_47 rfl (by decide) rf_0_5 rfl dX7_box_50 ?_
      refine z_iload_n dX7_box_53 rfl ?_
      refine z_callVip (n2 := 93) (A_X6_firstAgainst l g Mz7 b (by omega) ((SolT M 42 (M 1 13) (-1) (-1) (-1) 0)) _ (hT.2.2.2.2.2.2.2.1) (hfe) (hH)) cb_X6_firstAgainst cl_X7_303 (clr0 rfl rfl (by decide) (by decide)) rfl (by decide) ⟨_, rfl, rfl⟩ rfl (by decide) rfl (Nat.le_of_ble_eq_true rfl) rfl dX7_box_54 (fun x8 bx8 hx8 => ?_)
      have hfa := hx8
      rw [hred] at hfa
      refine z_iret rfl (by decide) rfl (Nat.sub_self _) dX7_box_57 ?_
      refine ⟨hOf, ?_⟩
      rw [if_neg (by omega)]
      exact Or.inr ⟨hfe, hfa⟩
    · refine z_ldc (c := -1000005) cn_X7_222 ⟨by decide, by decide⟩ dX7_box_21 ?_
      refine z_iret rfl (by decide) rfl (Nat.sub_self _) dX7_box_23 ?_
      refine ⟨RD_X hRD, ?_⟩
      rw [if_neg (by omega)]
      refine Or.inl ⟨?_, rfl⟩
      rcases hqq with q | q
      · omega
      · exact q.2
  · refine z_ldc (c := -1000002) cn_X7_87 ⟨by decide, by decide⟩ dX7_box_11 ?_
    refine z_iret rfl (by decide) rfl (Nat.sub_self _) dX7_box_13 ?_
    refine ⟨OffX_rfl M, ?_⟩
    rw [if_pos (by omega)]
set_option maxHeartbeats 400000 in
theorem A_X7_boxes42 (l : Launch) (g : Cx) (M : FMem) (what : Int) (hT : XT M 42) : AMi l g true fi_X7_boxes [fr 0, fi what] 93 M (fun q M2 => OffX M M2 ∧ PBoxes (SolT M 42 (M 1 13) (-1) (-1) (-1) 0) (fun h => M 38 h) (M 42 7) what q) := by
  refine AMi_intro [fr 0, fi what] (by decide) (knall rfl) (Nat.le_of_ble_eq_true rfl) rfl ?_
  intro hNV hM0 μ
  have bwhat : N32 what := hNV (fi what) (by simp)
  unfold PBoxes
  refine z_iload_n dX7_boxes_0 rfl ?_
  refine z_iconst dX7_boxes_1 ⟨by decide, by decide⟩ ?_
  refine z_iconst dX7_boxes_2 ⟨by decide, by decide⟩ ?_
  refine z_callSip (n2 := 93) (A_X7_isFrom l g M what 0 3) cb_X7_isFrom cl_X7_83 (clr0 rfl rfl (by decide) (by decide)) rfl (by decide) rfl (Nat.le_of_ble_eq_true rfl) rfl dX7_boxes_3 (fun x1 bx1 hx1 => ?_)
  have i1 := if01 hx1
  refine z_if_ne (tgt := 12) dX7_boxes_6 (by decide) (fun c2 => ?_) (fun c2 => ?_)
  · refine z_aload_nr dX7_boxes_12 rfl ?_
    refine z_callVi (n2 := 93) (A_X7_quarrelsNow42 l g M (hT)) cb_X7_quarrelsNow cl_X7_235 (clr0 rfl rfl (by decide) (by decide)) rfl (by decide) ⟨_, rfl, rfl⟩ rfl (by decide) rfl (Nat.le_of_ble_eq_true rfl) rfl dX7_boxes_13 (fun x3 Mz3 bx3 kMz3 hc3 => ?_)
    have hRD := hc3.1.1
    have hTR := hc3.1.2
    have hqq := hc3.2
    refine z_if_eq (tgt := 22) dX7_boxes_16 (by decide) (fun c4 => ?_) (fun c4 => ?_)
    · have hfe : Feas (SolT M 42 (M 1 13) (-1) (-1) (-1) 0) := by rcases hqq with q | q; exact q.2; omega
      refine z_aload_nr dX7_boxes_22 rfl ?_
      refine z_getr (b := 20) fl_X7_33 rfl (by decide) rf_0_3 rfl dX7_boxes_23 ?_
      refine z_callVv (n2 := 93) (A_X1_findEnds l g Mz3 (hRD.2.1) (feas1 hRD hfe)) cb_X1_findEnds cl_X7_258 (clr0 rfl rfl (by decide) (by decide)) rfl (by decide) ⟨_, rfl, rfl⟩ rfl (by decide) rfl (Nat.le_of_ble_eq_true rfl) rfl dX7_boxes_26 (fun Mz5 kMz5 hc5 => ?_)
      have hFE := hc5
      have hRD3 := FE_RD hRD hFE
      have hES := FES_of hRD hFE
      refine z_aload_nr dX7_boxes_29 rfl ?_
      refine z_getr (b := 37) fl_X7_47 rfl (by decide) rf_0_5 rfl dX7_boxes_30 ?_
      refine z_aload_nr dX7_boxes_33 rfl ?_
      refine z_getr (b := 20) fl_X7_33 rfl (by decide) rf_0_3 rfl dX7_boxes_34 ?_
      refine z_aload_nr dX7_boxes_37 rfl ?_
      refine z_getv (b := 42) (kz := 6) fl_X7_54 rfl (by decide) rfl (fun _ => (RD_X hRD3 0 6 (by omega)).trans hT.2.2.1) dX7_boxes_38 ?_
      refine z_geti (kz := 7) fl_X7_207 rfl (by decide) rfl dX7_boxes_41 (fun x6 hx6 bx6 => ?_)
      have how : x6 = M 42 7 := by have := RD_X hRD3 42 7 (by omega); omega
      refine z_callVv (n2 := 93) (A_X6_hear l g Mz5 x6 ((SolT M 42 (M 1 13) (-1) (-1) (-1) 0)) (hfe) (hES)) cb_X6_hear cl_X7_293 (clr0 rfl rfl (by decide) (by decide)) rfl (by decide) ⟨_, rfl, rfl⟩ rfl (by decide) rfl (Nat.le_of_ble_eq_true rfl) rfl dX7_boxes_44 (fun Mz7 kMz7 hc7 => ?_)
      have hOf : OffX M Mz7 := fun b j q => (hc7.1 b j (by omega)).trans (RD_X hRD3 b j q)
      have hred : (fun h => Mz7 38 h) = (fun h => M 38 h) := funext fun h => hOf 38 h (by omega)
      have hrd2 : (fun h => Mz7 38 h) = _ := funext fun h => hc7.1 38 h (by omega)
      have hH : HearS (SolT M 42 (M 1 13) (-1) (-1) (-1) 0) (fun h => Mz7 38 h) (M 42 7) Mz7 := by rw [hrd2, ← how]; exact hc7.2
      refine z_iload_n dX7_boxes_47 rfl ?_
      refine z_iconst dX7_boxes_48 ⟨by decide, by decide⟩ ?_
      refine z_icmp_ne (tgt := 62) dX7_boxes_49 (by decide) (fun c8 => ?_) (fun c8 => ?_)
      · refine z_aload_nr dX7_boxes_62 rfl ?_
        refine z_getr (b := 37) fl_X7_47 rfl (by decide) rf_0_5 rfl dX7_boxes_63 ?_
        refine z_iload_n dX7_boxes_66 rfl ?_
        refine z_callVip (n2 := 93) (A_X6_keptBoxes l g Mz7 what ((SolT M 42 (M 1 13) (-1) (-1) (-1) 0)) _ (hT.2.2.2.2.2.2.2.1) (hfe) (hH)) cb_X6_keptBoxes cl_X7_300 (clr0 rfl rfl (by decide) (by decide)) rfl (by decide) ⟨_, rfl, rfl⟩ rfl (by decide) rfl (Nat.le_of_ble_eq_true rfl) rfl dX7_boxes_67 (fun x9 bx9 hx9 => ?_)
        have hfa := hx9
        rw [hred] at hfa
        refine z_iret rfl (by decide) rfl (Nat.sub_self _) dX7_boxes_70 ?_
        refine ⟨hOf, ?_⟩
        rw [if_neg (by omega)]
        first
        | exact Or.inr (Or.inl ⟨hfe, by omega, hfa⟩)
        | exact Or.inr (Or.inr ⟨hfe, by omega, hfa⟩)
      · refine z_aload_nr dX7_boxes_52 rfl ?_
        refine z_getr (b := 37) fl_X7_47 rfl (by decide) rf_0_5 rfl dX7_boxes_53 ?_
        refine z_callVip (n2 := 93) (A_X6_howManySpeak l g Mz7 ((SolT M 42 (M 1 13) (-1) (-1) (-1) 0)) _ _ (hH)) cb_X6_howManySpeak cl_X7_297 (clr0 rfl rfl (by decide) (by decide)) rfl (by decide) ⟨_, rfl, rfl⟩ rfl (by decide) rfl (Nat.le_of_ble_eq_true rfl) rfl dX7_boxes_56 (fun x10 bx10 hx10 => ?_)
        have hfa := hx10
        rw [hred] at hfa
        refine z_goto (tgt := 70) dX7_boxes_59 (by decide) ?_
        refine z_iret rfl (by decide) rfl (Nat.sub_self _) dX7_boxes_70 ?_
        refine ⟨hOf, ?_⟩
        rw [if_neg (by omega)]
        first
        | exact Or.inr (Or.inl ⟨hfe, by omega, hfa⟩)
        | exact Or.inr (Or.inr ⟨hfe, by omega, hfa⟩)
    · refine z_ldc (c := -1000005) cn_X7_222 ⟨by decide, by decide⟩ dX7_boxes_19 ?_
      refine z_iret rfl (by decide) rfl (Nat.sub_self _) dX7_boxes_21 ?_
      refine ⟨RD_X hRD, ?_⟩
      rw [if_neg (by omega)]
      refine Or.inl ⟨?_, rfl⟩
      rcases hqq with q | q
      · omega
      · exact q.2
  · refine z_ldc (c := -1000002) cn_X7_87 ⟨by decide, by decide⟩ dX7_boxes_9 ?_
    refine z_iret rfl (by decide) rfl (Nat.sub_self _) dX7_boxes_11 ?_
    refine ⟨OffX_rfl M, ?_⟩
    rw [if_pos (by omega)]
set_option maxHeartbeats 400000 in
theorem A_X7_delay42 (l : Launch) (g : Cx) (M : FMem) (home u v : Int) (hT : XT M 42) : AMl l g true fi_X7_delay [fr 0, fi home, fl u, fl v] 93 M (fun q M2 => OffX M M2 ∧ PDelay (SolT M 42 (M 1 13) (-1) (-1) (-1) 0) home u v q) := by
  refine AMl_intro [fr 0, fi home, fl u, fu, fl v, fu, fu, fu, fu, fu] (by decide) (knall rfl) (Nat.le_of_ble_eq_true rfl) rfl ?_
  intro hNV hM0 μ
  have bhome : N32 home := hNV (fi home) (by simp)
  have bu : N64 u := hNV (fl u) (by simp)
  have bv : N64 v := hNV (fl v) (by simp)
  unfold PDelay
  refine z_iload_n dX7_delay_0 rfl ?_
  refine z_callSip (n2 := 93) (A_X7_isHome l g M home) cb_X7_isHome cl_X7_79 (clr0 rfl rfl (by decide) (by decide)) rfl (by decide) rfl (Nat.le_of_ble_eq_true rfl) rfl dX7_delay_1 (fun x1 bx1 hx1 => ?_)
  have i1 := if01 hx1
  refine z_if_ne (tgt := 11) dX7_delay_4 (by decide) (fun c2 => ?_) (fun c2 => ?_)
  · refine z_lload_n dX7_delay_11 rfl ?_
    refine z_lconst1 dX7_delay_12 ?_
    refine z_lcmp_lt (tgt := 33) dX7_delay_13 dX7_delay_14 (by decide) (fun c3 => ?_) (fun c3 => ?_)
    · refine z_ldc2 (c := -1000002) cn_X7_284 ⟨by decide, by decide⟩ dX7_delay_33 ?_
      refine z_lret rfl (by decide) rfl (Nat.sub_self _) dX7_delay_36 ?_
      refine ⟨OffX_rfl M, ?_⟩
      rw [if_neg (by omega), if_pos (by omega)]
    · refine z_lload dX7_delay_17 rfl ?_
      refine z_lload_n dX7_delay_19 rfl ?_
      refine z_lcmp_lt (tgt := 33) dX7_delay_20 dX7_delay_21 (by decide) (fun c4 => ?_) (fun c4 => ?_)
      · refine z_ldc2 (c := -1000002) cn_X7_284 ⟨by decide, by decide⟩ dX7_delay_33 ?_
        refine z_lret rfl (by decide) rfl (Nat.sub_self _) dX7_delay_36 ?_
        refine ⟨OffX_rfl M, ?_⟩
        rw [if_neg (by omega), if_pos (by omega)]
      · refine z_lload dX7_delay_24 rfl ?_
        refine z_ldc2 (c := 2000000000) cn_X7_308 ⟨by decide, by decide⟩ dX7_delay_26 ?_
        refine z_lcmp_le (tgt := 37) dX7_delay_29 dX7_delay_30 (by decide) (fun c5 => ?_) (fun c5 => ?_)
        · refine z_aload_nr dX7_delay_37 rfl ?_
          refine z_callVi (n2 := 93) (A_X7_quarrelsNow42 l g M (hT)) cb_X7_quarrelsNow cl_X7_235 (clr0 rfl rfl (by decide) (by decide)) rfl (by decide) ⟨_, rfl, rfl⟩ rfl (by decide) rfl (Nat.le_of_ble_eq_true rfl) rfl dX7_delay_38 (fun x6 Mz6 bx6 kMz6 hc6 => ?_)
          have hRD := hc6.1.1
          have hTR := hc6.1.2
          have hqq := hc6.2
          refine z_if_eq (tgt := 48) dX7_delay_41 (by decide) (fun c7 => ?_) (fun c7 => ?_)
          · have hfe : Feas (SolT M 42 (M 1 13) (-1) (-1) (-1) 0) := by rcases hqq with q | q; exact q.2; omega
            refine z_aload_nr dX7_delay_48 rfl ?_
            refine z_getr (b := 20) fl_X7_33 rfl (by decide) rf_0_3 rfl dX7_delay_49 ?_
            refine z_callVv (n2 := 93) (A_X1_findEnds l g Mz6 (hRD.2.1) (feas1 hRD hfe)) cb_X1_findEnds cl_X7_258 (clr0 rfl rfl (by decide) (by decide)) rfl (by decide) ⟨_, rfl, rfl⟩ rfl (by decide) rfl (Nat.le_of_ble_eq_true rfl) rfl dX7_delay_52 (fun Mz8 kMz8 hc8 => ?_)
            have hFE := hc8
            have hRD3 := FE_RD hRD hFE
            have hES := FES_of hRD hFE home (by omega) (by omega)
            refine z_aload_nr dX7_delay_55 rfl ?_
            refine z_getr (b := 20) fl_X7_33 rfl (by decide) rf_0_3 rfl dX7_delay_56 ?_
            refine z_iload_n dX7_delay_59 rfl ?_
            refine z_callVip (n2 := 93) (A_X1_liesWithinFar l g Mz8 home (by omega)) cb_X1_liesWithinFar cl_X7_312 (clr0 rfl rfl (by decide) (by decide)) rfl (by decide) ⟨_, rfl, rfl⟩ rfl (by decide) rfl (Nat.le_of_ble_eq_true rfl) rfl dX7_delay_60 (fun x9 bx9 hx9 => ?_)
            have hwf := hx9
            have hw01 := if01 hx9
            refine z_if_ne (tgt := 70) dX7_delay_63 (by decide) (fun c10 => ?_) (fun c10 => ?_)
            · have hE2 := hES.resolve_left (fun q => by omega)
              have hle2 := Ends2_le hfe hE2.2.1
              have hfb1 := (far_b (f := Mz8 31 home) (by omega)).1
              have hfb2 := (far_b (f := Mz8 32 home) (by omega)).2
              refine z_aload_nr dX7_delay_70 rfl ?_
              refine z_getr (b := 20) fl_X7_33 rfl (by decide) rf_0_3 rfl dX7_delay_71 ?_
              refine z_getr (b := 31) fl_X7_267 rfl (by decide) rf_20_12 rfl dX7_delay_74 ?_
              refine z_iload_n dX7_delay_77 rfl ?_
              refine z_iald rfl (by decide) (by omega) (by omega) dX7_delay_78 (fun x11 hx11 bx11 => ?_)
              refine z_callSlp (n2 := 93) (A_X6_atLeast l g Mz8 x11 (by omega)) cb_X6_atLeast cl_X7_286 (clr0 rfl rfl (by decide) (by decide)) rfl (by decide) rfl (Nat.le_of_ble_eq_true rfl) rfl dX7_delay_79 (fun x12 bx12 hx12 => ?_)
              have hfl := hx12
              refine z_lstore (loc2 := [fr 0, fi home, fl u, fu, fl v, fu, fl x12, fu, fu, fu]) dX7_delay_82 (by decide) rfl ?_
              refine z_aload_nr dX7_delay_84 rfl ?_
              refine z_getr (b := 20) fl_X7_33 rfl (by decide) rf_0_3 rfl dX7_delay_85 ?_
              refine z_getr (b := 32) fl_X7_264 rfl (by decide) rf_20_13 rfl dX7_delay_88 ?_
              refine z_iload_n dX7_delay_91 rfl ?_
              refine z_iald rfl (by decide) (by omega) (by omega) dX7_delay_92 (fun x13 hx13 bx13 => ?_)
              refine z_callSlp (n2 := 93) (A_X6_atMost l g Mz8 x13 (by omega)) cb_X6_atMost cl_X7_290 (clr0 rfl rfl (by decide) (by decide)) rfl (by decide) rfl (Nat.le_of_ble_eq_true rfl) rfl dX7_delay_93 (fun x14 bx14 hx14 => ?_)
              have hfu := hx14
              refine z_lstore (loc2 := [fr 0, fi home, fl u, fu, fl v, fu, fl x12, fu, fl x14, fu]) dX7_delay_96 (by decide) rfl ?_
              have hl6 : x12 = farL (Mz8 31 home) := by rw [hfl]; congr 1
              have hl8 : x14 = farU (Mz8 32 home) := by rw [hfu]; congr 1
              refine z_lconst0 dX7_delay_98 ?_
              refine z_lload dX7_delay_99 rfl ?_
              refine z_lload dX7_delay_101 rfl ?_
              first | refine z_lsubN dX7_delay_103 (by omega) (fun x15 hx15 => ?_) | refine z_lsub dX7_delay_103 (fun x15 hx15 => ?_)
              refine z_lload_n dX7_delay_104 rfl ?_
              refine z_lload dX7_delay_105 rfl ?_
              first | refine z_lsubN dX7_delay_107 (by omega) (fun x16 hx16 => ?_) | refine z_lsub dX7_delay_107 (fun x16 hx16 => ?_)
              refine z_callSlp (n2 := 93) (A_J9_max_f86c9 l g Mz8 x15 x16) cb_J9_max_f86c9 cl_X7_317 (clr0 rfl rfl (by decide) (by decide)) rfl (by decide) rfl (Nat.le_of_ble_eq_true rfl) rfl dX7_delay_108 (fun x17 bx17 hx17 => ?_)
              refine z_callSlp (n2 := 93) (A_J9_max_f86c9 l g Mz8 0 x17) cb_J9_max_f86c9 cl_X7_317 (clr0 rfl rfl (by decide) (by decide)) rfl (by decide) rfl (Nat.le_of_ble_eq_true rfl) rfl dX7_delay_111 (fun x18 bx18 hx18 => ?_)
              refine z_lret rfl (by decide) rfl (Nat.sub_self _) dX7_delay_114 ?_
              refine ⟨RD_X hRD3, ?_⟩
              rw [if_neg (by omega), if_neg (by omega)]
              refine Or.inr (Or.inr ⟨hfe, _, _, hE2.2.1, by omega, ?_⟩)
              omega
            · refine z_ldc2 (c := -1000003) cn_X7_315 ⟨by decide, by decide⟩ dX7_delay_66 ?_
              refine z_lret rfl (by decide) rfl (Nat.sub_self _) dX7_delay_69 ?_
              refine ⟨RD_X hRD3, ?_⟩
              rw [if_neg (by omega), if_neg (by omega)]
              refine Or.inr (Or.inl ⟨hfe, ?_, rfl⟩)
              intro lo up hE hz
              rcases hES with q | q
              · exact Ends2_free hE q.2
              · have := Ends2_eq hE q.2.1; omega
          · refine z_ldc2 (c := -1000005) cn_X7_310 ⟨by decide, by decide⟩ dX7_delay_44 ?_
            refine z_lret rfl (by decide) rfl (Nat.sub_self _) dX7_delay_47 ?_
            refine ⟨RD_X hRD, ?_⟩
            rw [if_neg (by omega), if_neg (by omega)]
            refine Or.inl ⟨?_, rfl⟩
            rcases hqq with q | q
            · omega
            · exact q.2
        · refine z_ldc2 (c := -1000002) cn_X7_284 ⟨by decide, by decide⟩ dX7_delay_33 ?_
          refine z_lret rfl (by decide) rfl (Nat.sub_self _) dX7_delay_36 ?_
          refine ⟨OffX_rfl M, ?_⟩
          rw [if_neg (by omega), if_pos (by omega)]
  · refine z_ldc2 (c := -1000001) cn_X7_306 ⟨by decide, by decide⟩ dX7_delay_7 ?_
    refine z_lret rfl (by decide) rfl (Nat.sub_self _) dX7_delay_10 ?_
    refine ⟨OffX_rfl M, ?_⟩
    rw [if_pos (by omega)]
set_option maxHeartbeats 400000 in
theorem A_X7_box51 (l : Launch) (g : Cx) (M : FMem) (b : Int) (hT : XT M 51) : AMi l g true fi_X7_box [fr 0, fi b] 93 M (fun q M2 => OffX M M2 ∧ PBox (SolT M 51 (M 1 13) (-1) (-1) (-1) 0) (fun h => M 38 h) (M 51 7) b q) := by
  refine AMi_intro [fr 0, fi b] (by decide) (knall rfl) (Nat.le_of_ble_eq_true rfl) rfl ?_
  intro hNV hM0 μ
  have bb : N32 b := hNV (fi b) (by simp)
  unfold PBox
  refine z_iload_n dX7_box_0 rfl ?_
  refine z_iconst dX7_box_1 ⟨by decide, by decide⟩ ?_
  refine z_sipush dX7_box_2 ⟨by decide, by decide⟩ (by decide) ?_
  refine z_callSip (n2 := 93) (A_X7_isFrom l g M b 1 200) cb_X7_isFrom cl_X7_83 (clr0 rfl rfl (by decide) (by decide)) rfl (by decide) rfl (Nat.le_of_ble_eq_true rfl) rfl dX7_box_5 (fun x1 bx1 hx1 => ?_)
  have i1 := if01 hx1
  refine z_if_ne (tgt := 14) dX7_box_8 (by decide) (fun c2 => ?_) (fun c2 => ?_)
  · refine z_aload_nr dX7_box_14 rfl ?_
    refine z_callVi (n2 := 93) (A_X7_quarrelsNow51 l g M (hT)) cb_X7_quarrelsNow cl_X7_235 (clr0 rfl rfl (by decide) (by decide)) rfl (by decide) ⟨_, rfl, rfl⟩ rfl (by decide) rfl (Nat.le_of_ble_eq_true rfl) rfl dX7_box_15 (fun x3 Mz3 bx3 kMz3 hc3 => ?_)
    have hRD := hc3.1.1
    have hTR := hc3.1.2
    have hqq := hc3.2
    refine z_if_eq (tgt := 24) dX7_box_18 (by decide) (fun c4 => ?_) (fun c4 => ?_)
    · have hfe : Feas (SolT M 51 (M 1 13) (-1) (-1) (-1) 0) := by rcases hqq with q | q; exact q.2; omega
      refine z_aload_nr dX7_box_24 rfl ?_
      refine z_getr (b := 20) fl_X7_33 rfl (by decide) rf_0_3 rfl dX7_box_25 ?_
      refine z_callVv (n2 := 93) (A_X1_findEnds l g Mz3 (hRD.2.1) (feas1 hRD hfe)) cb_X1_findEnds cl_X7_258 (clr0 rfl rfl (by decide) (by decide)) rfl (by decide) ⟨_, rfl, rfl⟩ rfl (by decide) rfl (Nat.le_of_ble_eq_true rfl) rfl dX7_box_28 (fun Mz5 kMz5 hc5 => ?_)
      have hFE := hc5
      have hRD3 := FE_RD hRD hFE
      have hES := FES_of hRD hFE
      refine z_aload_nr dX7_box_31 rfl ?_
      refine z_getr (b := 37) fl_X7_47 rfl (by decide) rf_0_5 rfl dX7_box_32 ?_
      refine z_aload_nr dX7_box_35 rfl ?_
      refine z_getr (b := 20) fl_X7_33 rfl (by decide) rf_0_3 rfl dX7_box_36 ?_
      refine z_aload_nr dX7_box_39 rfl ?_
      refine z_getv (b := 51) (kz := 6) fl_X7_54 rfl (by decide) rfl (fun _ => (RD_X hRD3 0 6 (by omega)).trans hT.2.2.1) dX7_box_40 ?_
      refine z_geti (kz := 7) fl_X7_207 rfl (by decide) rfl dX7_box_43 (fun x6 hx6 bx6 => ?_)
      have how : x6 = M 51 7 := by have := RD_X hRD3 51 7 (by omega); omega
      refine z_callVv (n2 := 93) (A_X6_hear l g Mz5 x6 ((SolT M 51 (M 1 13) (-1) (-1) (-1) 0)) (hfe) (hES)) cb_X6_hear cl_X7_293 (clr0 rfl rfl (by decide) (by decide)) rfl (by decide) ⟨_, rfl, rfl⟩ rfl (by decide) rfl (Nat.le_of_ble_eq_true rfl) rfl dX7_box_46 (fun Mz7 kMz7 hc7 => ?_)
      have hOf : OffX M Mz7 := fun b j q => (hc7.1 b j (by omega)).trans (RD_X hRD3 b j q)
      have hred : (fun h => Mz7 38 h) = (fun h => M 38 h) := funext fun h => hOf 38 h (by omega)
      have hrd2 : (fun h => Mz7 38 h) = _ := funext fun h => hc7.1 38 h (by omega)
      have hH : HearS (SolT M 51 (M 1 13) (-1) (-1) (-1) 0) (fun h => Mz7 38 h) (M 51 7) Mz7 := by rw [hrd2, ← how]; exact hc7.2
      refine z_aload_nr dX7_box_49 rfl ?_
      refine z_getr (b := 37) fl_X7_47 rfl (by decide) rf_0_5 rfl dX7_box_50 ?_
      refine z_iload_n dX7_box_53 rfl ?_
      refine z_callVip (n2 := 93) (A_X6_firstAgainst l g Mz7 b (by omega) ((SolT M 51 (M 1 13) (-1) (-1) (-1) 0)) _ (hT.2.2.2.2.2.2.2.1) (hfe) (hH)) cb_X6_firstAgainst cl_X7_303 (clr0 rfl rfl (by decide) (by decide)) rfl (by decide) ⟨_, rfl, rfl⟩ rfl (by decide) rfl (Nat.le_of_ble_eq_true rfl) rfl dX7_box_54 (fun x8 bx8 hx8 => ?_)
      have hfa := hx8
      rw [hred] at hfa
      refine z_iret rfl (by decide) rfl (Nat.sub_self _) dX7_box_57 ?_
      refine ⟨hOf, ?_⟩
      rw [if_neg (by omega)]
      exact Or.inr ⟨hfe, hfa⟩
    · refine z_ldc (c := -1000005) cn_X7_222 ⟨by decide, by decide⟩ dX7_box_21 ?_
      refine z_iret rfl (by decide) rfl (Nat.sub_self _) dX7_box_23 ?_
      refine ⟨RD_X hRD, ?_⟩
      rw [if_neg (by omega)]
      refine Or.inl ⟨?_, rfl⟩
      rcases hqq with q | q
      · omega
      · exact q.2
  · refine z_ldc (c := -1000002) cn_X7_87 ⟨by decide, by decide⟩ dX7_box_11 ?_
    refine z_iret rfl (by decide) rfl (Nat.sub_self _) dX7_box_13 ?_
    refine ⟨OffX_rfl M, ?_⟩
    rw [if_pos (by omega)]
set_option maxHeartbeats 400000 in
theorem A_X7_boxes51 (l : Launch) (g : Cx) (M : FMem) (what : Int) (hT : XT M 51) : AMi l g true fi_X7_boxes [fr 0, fi what] 93 M (fun q M2 => OffX M M2 ∧ PBoxes (SolT M 51 (M 1 13) (-1) (-1) (-1) 0) (fun h => M 38 h) (M 51 7) what q) := by
  refine AMi_intro [fr 0, fi what] (by decide) (knall rfl) (Nat.le_of_ble_eq_true rfl) rfl ?_
  intro hNV hM0 μ
  have bwhat : N32 what := hNV (fi what) (by simp)
  unfold PBoxes
  refine z_iload_n dX7_boxes_0 rfl ?_
  refine z_iconst dX7_boxes_1 ⟨by decide, by decide⟩ ?_
  refine z_iconst dX7_boxes_2 ⟨by decide, by decide⟩ ?_
  refine z_callSip (n2 := 93) (A_X7_isFrom l g M what 0 3) cb_X7_isFrom cl_X7_83 (clr0 rfl rfl (by decide) (by decide)) rfl (by decide) rfl (Nat.le_of_ble_eq_true rfl) rfl dX7_boxes_3 (fun x1 bx1 hx1 => ?_)
  have i1 := if01 hx1
  refine z_if_ne (tgt := 12) dX7_boxes_6 (by decide) (fun c2 => ?_) (fun c2 => ?_)
  · refine z_aload_nr dX7_boxes_12 rfl ?_
    refine z_callVi (n2 := 93) (A_X7_quarrelsNow51 l g M (hT)) cb_X7_quarrelsNow cl_X7_235 (clr0 rfl rfl (by decide) (by decide)) rfl (by decide) ⟨_, rfl, rfl⟩ rfl (by decide) rfl (Nat.le_of_ble_eq_true rfl) rfl dX7_boxes_13 (fun x3 Mz3 bx3 kMz3 hc3 => ?_)
    have hRD := hc3.1.1
    have hTR := hc3.1.2
    have hqq := hc3.2
    refine z_if_eq (tgt := 22) dX7_boxes_16 (by decide) (fun c4 => ?_) (fun c4 => ?_)
    · have hfe : Feas (SolT M 51 (M 1 13) (-1) (-1) (-1) 0) := by rcases hqq with q | q; exact q.2; omega
      refine z_aload_nr dX7_boxes_22 rfl ?_
      refine z_getr (b := 20) fl_X7_33 rfl (by decide) rf_0_3 rfl dX7_boxes_23 ?_
      refine z_callVv (n2 := 93) (A_X1_findEnds l g Mz3 (hRD.2.1) (feas1 hRD hfe)) cb_X1_findEnds cl_X7_258 (clr0 rfl rfl (by decide) (by decide)) rfl (by decide) ⟨_, rfl, rfl⟩ rfl (by decide) rfl (Nat.le_of_ble_eq_true rfl) rfl dX7_boxes_26 (fun Mz5 kMz5 hc5 => ?_)
      have hFE := hc5
      have hRD3 := FE_RD hRD hFE
      have hES := FES_of hRD hFE
      refine z_aload_nr dX7_boxes_29 rfl ?_
      refine z_getr (b := 37) fl_X7_47 rfl (by decide) rf_0_5 rfl dX7_boxes_30 ?_
      refine z_aload_nr dX7_boxes_33 rfl ?_
      refine z_getr (b := 20) fl_X7_33 rfl (by decide) rf_0_3 rfl dX7_boxes_34 ?_
      refine z_aload_nr dX7_boxes_37 rfl ?_
      refine z_getv (b := 51) (kz := 6) fl_X7_54 rfl (by decide) rfl (fun _ => (RD_X hRD3 0 6 (by omega)).trans hT.2.2.1) dX7_boxes_38 ?_
      refine z_geti (kz := 7) fl_X7_207 rfl (by decide) rfl dX7_boxes_41 (fun x6 hx6 bx6 => ?_)
      have how : x6 = M 51 7 := by have := RD_X hRD3 51 7 (by omega); omega
      refine z_callVv (n2 := 93) (A_X6_hear l g Mz5 x6 ((SolT M 51 (M 1 13) (-1) (-1) (-1) 0)) (hfe) (hES)) cb_X6_hear cl_X7_293 (clr0 rfl rfl (by decide) (by decide)) rfl (by decide) ⟨_, rfl, rfl⟩ rfl (by decide) rfl (Nat.le_of_ble_eq_true rfl) rfl dX7_boxes_44 (fun Mz7 kMz7 hc7 => ?_)
      have hOf : OffX M Mz7 := fun b j q => (hc7.1 b j (by omega)).trans (RD_X hRD3 b j q)
      have hred : (fun h => Mz7 38 h) = (fun h => M 38 h) := funext fun h => hOf 38 h (by omega)
      have hrd2 : (fun h => Mz7 38 h) = _ := funext fun h => hc7.1 38 h (by omega)
      have hH : HearS (SolT M 51 (M 1 13) (-1) (-1) (-1) 0) (fun h => Mz7 38 h) (M 51 7) Mz7 := by rw [hrd2, ← how]; exact hc7.2
      refine z_iload_n dX7_boxes_47 rfl ?_
      refine z_iconst dX7_boxes_48 ⟨by decide, by decide⟩ ?_
      refine z_icmp_ne (tgt := 62) dX7_boxes_49 (by decide) (fun c8 => ?_) (fun c8 => ?_)
      · refine z_aload_nr dX7_boxes_62 rfl ?_
        refine z_getr (b := 37) fl_X7_47 rfl (by decide) rf_0_5 rfl dX7_boxes_63 ?_
        refine z_iload_n dX7_boxes_66 rfl ?_
        refine z_callVip (n2 := 93) (A_X6_keptBoxes l g Mz7 what ((SolT M 51 (M 1 13) (-1) (-1) (-1) 0)) _ (hT.2.2.2.2.2.2.2.1) (hfe) (hH)) cb_X6_keptBoxes cl_X7_300 (clr0 rfl rfl (by decide) (by decide)) rfl (by decide) ⟨_, rfl, rfl⟩ rfl (by decide) rfl (Nat.le_of_ble_eq_true rfl) rfl dX7_boxes_67 (fun x9 bx9 hx9 => ?_)
        have hfa := hx9
        rw [hred] at hfa
        refine z_iret rfl (by decide) rfl (Nat.sub_self _) dX7_boxes_70 ?_
        refine ⟨hOf, ?_⟩
        rw [if_neg (by omega)]
        first
        | exact Or.inr (Or.inl ⟨hfe, by omega, hfa⟩)
        | exact Or.inr (Or.inr ⟨hfe, by omega, hfa⟩)
      · refine z_aload_nr dX7_boxes_52 rfl ?_
        refine z_getr (b := 37) fl_X7_47 rfl (by decide) rf_0_5 rfl dX7_boxes_53 ?_
        refine z_callVip (n2 := 93) (A_X6_howManySpeak l g Mz7 ((SolT M 51 (M 1 13) (-1) (-1) (-1) 0)) _ _ (hH)) cb_X6_howManySpeak cl_X7_297 (clr0 rfl rfl (by decide) (by decide)) rfl (by decide) ⟨_, rfl, rfl⟩ rfl (by decide) rfl (Nat.le_of_ble_eq_true rfl) rfl dX7_boxes_56 (fun x10 bx10 hx10 => ?_)
        have hfa := hx10
        rw [hred] at hfa
        refine z_goto (tgt := 70) dX7_boxes_59 (by decide) ?_
        refine z_iret rfl (by decide) rfl (Nat.sub_self _) dX7_boxes_70 ?_
        refine ⟨hOf, ?_⟩
        rw [if_neg (by omega)]
        first
        | exact Or.inr (Or.inl ⟨hfe, by omega, hfa⟩)
        | exact Or.inr (Or.inr ⟨hfe, by omega, hfa⟩)
    · refine z_ldc (c := -1000005) cn_X7_222 ⟨by decide, by decide⟩ dX7_boxes_19 ?_
      refine z_iret rfl (by decide) rfl (Nat.sub_self _) dX7_boxes_21 ?_
      refine ⟨RD_X hRD, ?_⟩
      rw [if_neg (by omega)]
      refine Or.inl ⟨?_, rfl⟩
      rcases hqq with q | q
      · omega
      · exact q.2
  · refine z_ldc (c := -1000002) cn_X7_87 ⟨by decide, by decide⟩ dX7_boxes_9 ?_
    refine z_iret rfl (by decide) rfl (Nat.sub_self _) dX7_boxes_11 ?_
    refine ⟨OffX_rfl M, ?_⟩
    rw [if_pos (by omega)]
set_option maxHeartbeats 400000 in
theorem A_X7_delay51 (l : Launch) (g : Cx) (M : FMem) (home u v : Int) (hT : XT M 51) : AMl l g true fi_X7_delay [fr 0, fi home, fl u, fl v] 93 M (fun q M2 => OffX M M2 ∧ PDelay (SolT M 51 (M 1 13) (-1) (-1) (-1) 0) home u v q) := by
  refine AMl_intro [fr 0, fi home, fl u, fu, fl v, fu, fu, fu, fu, fu] (by decide) (knall rfl) (Nat.le_of_ble_eq_true rfl) rfl ?_
  intro hNV hM0 μ
  have bhome : N32 home := hNV (fi home) (by simp)
  have bu : N64 u := hNV (fl u) (by simp)
  have bv : N64 v := hNV (fl v) (by simp)
  unfold PDelay
  refine z_iload_n dX7_delay_0 rfl ?_
  refine z_callSip (n2 := 93) (A_X7_isHome l g M home) cb_X7_isHome cl_X7_79 (clr0 rfl rfl (by decide) (by decide)) rfl (by decide) rfl (Nat.le_of_ble_eq_true rfl) rfl dX7_delay_1 (fun x1 bx1 hx1 => ?_)
  have i1 := if01 hx1
  refine z_if_ne (tgt := 11) dX7_delay_4 (by decide) (fun c2 => ?_) (fun c2 => ?_)
  · refine z_lload_n dX7_delay_11 rfl ?_
    refine z_lconst1 dX7_delay_12 ?_
    refine z_lcmp_lt (tgt := 33) dX7_delay_13 dX7_delay_14 (by decide) (fun c3 => ?_) (fun c3 => ?_)
    · refine z_ldc2 (c := -1000002) cn_X7_284 ⟨by decide, by decide⟩ dX7_delay_33 ?_
      refine z_lret rfl (by decide) rfl (Nat.sub_self _) dX7_delay_36 ?_
      refine ⟨OffX_rfl M, ?_⟩
      rw [if_neg (by omega), if_pos (by omega)]
    · refine z_lload dX7_delay_17 rfl ?_
      refine z_lload_n dX7_delay_19 rfl ?_
      refine z_lcmp_lt (tgt := 33) dX7_delay_20 dX7_delay_21 (by decide) (fun c4 => ?_) (fun c4 => ?_)
      · refine z_ldc2 (c := -1000002) cn_X7_284 ⟨by decide, by decide⟩ dX7_delay_33 ?_
        refine z_lret rfl (by decide) rfl (Nat.sub_self _) dX7_delay_36 ?_
        refine ⟨OffX_rfl M, ?_⟩
        rw [if_neg (by omega), if_pos (by omega)]
      · refine z_lload dX7_delay_24 rfl ?_
        refine z_ldc2 (c := 2000000000) cn_X7_308 ⟨by decide, by decide⟩ dX7_delay_26 ?_
        refine z_lcmp_le (tgt := 37) dX7_delay_29 dX7_delay_30 (by decide) (fun c5 => ?_) (fun c5 => ?_)
        · refine z_aload_nr dX7_delay_37 rfl ?_
          refine z_callVi (n2 := 93) (A_X7_quarrelsNow51 l g M (hT)) cb_X7_quarrelsNow cl_X7_235 (clr0 rfl rfl (by decide) (by decide)) rfl (by decide) ⟨_, rfl, rfl⟩ rfl (by decide) rfl (Nat.le_of_ble_eq_true rfl) rfl dX7_delay_38 (fun x6 Mz6 bx6 kMz6 hc6 => ?_)
          have hRD := hc6.1.1
          have hTR := hc6.1.2
          have hqq := hc6.2
          refine z_if_eq (tgt := 48) dX7_delay_41 (by decide) (fun c7 => ?_) (fun c7 => ?_)
          · have hfe : Feas (SolT M 51 (M 1 13) (-1) (-1) (-1) 0) := by rcases hqq with q | q; exact q.2; omega
            refine z_aload_nr dX7_delay_48 rfl ?_
            refine z_getr (b := 20) fl_X7_33 rfl (by decide) rf_0_3 rfl dX7_delay_49 ?_
            refine z_callVv (n2 := 93) (A_X1_findEnds l g Mz6 (hRD.2.1) (feas1 hRD hfe)) cb_X1_findEnds cl_X7_258 (clr0 rfl rfl (by decide) (by decide)) rfl (by decide) ⟨_, rfl, rfl⟩ rfl (by decide) rfl (Nat.le_of_ble_eq_true rfl) rfl dX7_delay_52 (fun Mz8 kMz8 hc8 => ?_)
            have hFE := hc8
            have hRD3 := FE_RD hRD hFE
            have hES := FES_of hRD hFE home (by omega) (by omega)
            refine z_aload_nr dX7_delay_55 rfl ?_
            refine z_getr (b := 20) fl_X7_33 rfl (by decide) rf_0_3 rfl dX7_delay_56 ?_
            refine z_iload_n dX7_delay_59 rfl ?_
            refine z_callVip (n2 := 93) (A_X1_liesWithinFar l g Mz8 home (by omega)) cb_X1_liesWithinFar cl_X7_312 (clr0 rfl rfl (by decide) (by decide)) rfl (by decide) ⟨_, rfl, rfl⟩ rfl (by decide) rfl (Nat.le_of_ble_eq_true rfl) rfl dX7_delay_60 (fun x9 bx9 hx9 => ?_)
            have hwf := hx9
            have hw01 := if01 hx9
            refine z_if_ne (tgt := 70) dX7_delay_63 (by decide) (fun c10 => ?_) (fun c10 => ?_)
            · have hE2 := hES.resolve_left (fun q => by omega)
              have hle2 := Ends2_le hfe hE2.2.1
              have hfb1 := (far_b (f := Mz8 31 home) (by omega)).1
              have hfb2 := (far_b (f := Mz8 32 home) (by omega)).2
              refine z_aload_nr dX7_delay_70 rfl ?_
              refine z_getr (b := 20) fl_X7_33 rfl (by decide) rf_0_3 rfl dX7_delay_71 ?_
              refine z_getr (b := 31) fl_X7_267 rfl (by decide) rf_20_12 rfl dX7_delay_74 ?_
              refine z_iload_n dX7_delay_77 rfl ?_
              refine z_iald rfl (by decide) (by omega) (by omega) dX7_delay_78 (fun x11 hx11 bx11 => ?_)
              refine z_callSlp (n2 := 93) (A_X6_atLeast l g Mz8 x11 (by omega)) cb_X6_atLeast cl_X7_286 (clr0 rfl rfl (by decide) (by decide)) rfl (by decide) rfl (Nat.le_of_ble_eq_true rfl) rfl dX7_delay_79 (fun x12 bx12 hx12 => ?_)
              have hfl := hx12
              refine z_lstore (loc2 := [fr 0, fi home, fl u, fu, fl v, fu, fl x12, fu, fu, fu]) dX7_delay_82 (by decide) rfl ?_
              refine z_aload_nr dX7_delay_84 rfl ?_
              refine z_getr (b := 20) fl_X7_33 rfl (by decide) rf_0_3 rfl dX7_delay_85 ?_
              refine z_getr (b := 32) fl_X7_264 rfl (by decide) rf_20_13 rfl dX7_delay_88 ?_
              refine z_iload_n dX7_delay_91 rfl ?_
              refine z_iald rfl (by decide) (by omega) (by omega) dX7_delay_92 (fun x13 hx13 bx13 => ?_)
              refine z_callSlp (n2 := 93) (A_X6_atMost l g Mz8 x13 (by omega)) cb_X6_atMost cl_X7_290 (clr0 rfl rfl (by decide) (by decide)) rfl (by decide) rfl (Nat.le_of_ble_eq_true rfl) rfl dX7_delay_93 (fun x14 bx14 hx14 => ?_)
              have hfu := hx14
              refine z_lstore (loc2 := [fr 0, fi home, fl u, fu, fl v, fu, fl x12, fu, fl x14, fu]) dX7_delay_96 (by decide) rfl ?_
              have hl6 : x12 = farL (Mz8 31 home) := by rw [hfl]; congr 1
              have hl8 : x14 = farU (Mz8 32 home) := by rw [hfu]; congr 1
              refine z_lconst0 dX7_delay_98 ?_
              refine z_lload dX7_delay_99 rfl ?_
              refine z_lload dX7_delay_101 rfl ?_
              first | refine z_lsubN dX7_delay_103 (by omega) (fun x15 hx15 => ?_) | refine z_lsub dX7_delay_103 (fun x15 hx15 => ?_)
              refine z_lload_n dX7_delay_104 rfl ?_
              refine z_lload dX7_delay_105 rfl ?_
              first | refine z_lsubN dX7_delay_107 (by omega) (fun x16 hx16 => ?_) | refine z_lsub dX7_delay_107 (fun x16 hx16 => ?_)
              refine z_callSlp (n2 := 93) (A_J9_max_f86c9 l g Mz8 x15 x16) cb_J9_max_f86c9 cl_X7_317 (clr0 rfl rfl (by decide) (by decide)) rfl (by decide) rfl (Nat.le_of_ble_eq_true rfl) rfl dX7_delay_108 (fun x17 bx17 hx17 => ?_)
              refine z_callSlp (n2 := 93) (A_J9_max_f86c9 l g Mz8 0 x17) cb_J9_max_f86c9 cl_X7_317 (clr0 rfl rfl (by decide) (by decide)) rfl (by decide) rfl (Nat.le_of_ble_eq_true rfl) rfl dX7_delay_111 (fun x18 bx18 hx18 => ?_)
              refine z_lret rfl (by decide) rfl (Nat.sub_self _) dX7_delay_114 ?_
              refine ⟨RD_X hRD3, ?_⟩
              rw [if_neg (by omega), if_neg (by omega)]
              refine Or.inr (Or.inr ⟨hfe, _, _, hE2.2.1, by omega, ?_⟩)
              omega
            · refine z_ldc2 (c := -1000003) cn_X7_315 ⟨by decide, by decide⟩ dX7_delay_66 ?_
              refine z_lret rfl (by decide) rfl (Nat.sub_self _) dX7_delay_69 ?_
              refine ⟨RD_X hRD3, ?_⟩
              rw [if_neg (by omega), if_neg (by omega)]
              refine Or.inr (Or.inl ⟨hfe, ?_, rfl⟩)
              intro lo up hE hz
              rcases hES with q | q
              · exact Ends2_free hE q.2
              · have := Ends2_eq hE q.2.1; omega
          · refine z_ldc2 (c := -1000005) cn_X7_310 ⟨by decide, by decide⟩ dX7_delay_44 ?_
            refine z_lret rfl (by decide) rfl (Nat.sub_self _) dX7_delay_47 ?_
            refine ⟨RD_X hRD, ?_⟩
            rw [if_neg (by omega), if_neg (by omega)]
            refine Or.inl ⟨?_, rfl⟩
            rcases hqq with q | q
            · omega
            · exact q.2
        · refine z_ldc2 (c := -1000002) cn_X7_284 ⟨by decide, by decide⟩ dX7_delay_33 ?_
          refine z_lret rfl (by decide) rfl (Nat.sub_self _) dX7_delay_36 ?_
          refine ⟨OffX_rfl M, ?_⟩
          rw [if_neg (by omega), if_pos (by omega)]
  · refine z_ldc2 (c := -1000001) cn_X7_306 ⟨by decide, by decide⟩ dX7_delay_7 ?_
    refine z_lret rfl (by decide) rfl (Nat.sub_self _) dX7_delay_10 ?_
    refine ⟨OffX_rfl M, ?_⟩
    rw [if_pos (by omega)]
