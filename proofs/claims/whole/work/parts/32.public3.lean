/-! ===== widening, blame, odd, lead ===== -/
def PWid (n : Int) (F : Int → Int → Prop) (k q : Int) : Prop := if ¬ (k = -1 ∨ (0 ≤ k ∧ k ≤ n)) then q = -1000002 else (0 ≤ q ∧ q ≤ 131072) ∧ F (if k = -1 then n else k) q ∧ ∀ w, 0 ≤ w → w < q → ¬ F (if k = -1 then n else k) w
theorem PWid_eq {n : Int} {F : Int → Int → Prop} {k q q' : Int} (a : PWid n F k q) (b : PWid n F k q') : q = q' := by
  unfold PWid at a b
  split at a
  · rename_i h; rw [if_pos h] at b; omega
  · rename_i h
    rw [if_neg h] at b
    by_cases h1 : q < q'
    · exact absurd a.2.1 (b.2.2 q a.1.1 h1)
    · by_cases h2 : q' < q
      · exact absurd b.2.1 (a.2.2 q' b.1.1 h2)
      · omega
noncomputable def PBlame (S : (Int → Int) → Prop) (F : Int → Prop) (q : Int) : Prop := (Feas S ∧ q = -1000003) ∨ (¬ Feas S ∧ q = maskS F 6)
theorem PBlame_eq {S : (Int → Int) → Prop} {F : Int → Prop} {q q' : Int} (a : PBlame S F q) (b : PBlame S F q') : q = q' := by
  rcases a with ⟨a1, a2⟩ | ⟨a1, a2⟩ <;> rcases b with ⟨b1, b2⟩ | ⟨b1, b2⟩
  · omega
  · exact absurd a1 b1
  · exact absurd b1 a1
  · rw [a2, b2]
def POdd (S : (Int → Int) → Prop) (F1 : Int → Prop) (F2 : Int → Int → Prop) (i q : Int) : Prop := (Feas S ∧ q = -1000003) ∨ (¬ Feas S ∧ ∃ fe fi se, OddS F1 F2 fe fi se ∧ q = if i = -1 then fe else if i = 0 then fi else if i = 1 then se else -1)
theorem POdd_eq {S : (Int → Int) → Prop} {F1 : Int → Prop} {F2 : Int → Int → Prop} {i q q' : Int} (a : POdd S F1 F2 i q) (b : POdd S F1 F2 i q') : q = q' := by
  rcases a with ⟨a1, a2⟩ | ⟨a1, x, y, z, a2, a3⟩ <;> rcases b with ⟨b1, b2⟩ | ⟨b1, x', y', z', b2, b3⟩
  · omega
  · exact absurd a1 b1
  · exact absurd b1 a1
  · obtain ⟨rfl, rfl, rfl⟩ := OddS_eq a2 b2
    rw [a3, b3]
theorem SatW_sol {M M2 : FMem} {r : Nat} {kw : Int} (hk : kw ≤ 80) (h : RD M r kw (-1) (-1) (-1) M2) (hT : ∃ M1, LOp M1 (-1) (-1) (-1) M2 ∧ LD M r kw M1) (w : Int) : Feas (SatW M2 w) ↔ Feas (SolT M r kw (-1) (-1) (-1) w) := by
  obtain ⟨M1, h1, h2⟩ := hT
  have e : ∀ x, SatW M2 w x ↔ SolT M r kw (-1) (-1) (-1) w x := by
    intro x
    have hl : LOp (st M1 20 8 w) (-1) (-1) (-1) (st M2 20 8 w) := by
      obtain ⟨q1, q2, q3, q4, q5⟩ := h1
      have hs : ∀ v, sel (st M1 20 8 w) (-1) (-1) (-1) v ↔ sel M1 (-1) (-1) (-1) v := fun v => sel_off (fun b j q => st_cell (by omega)) _ _ _ _
      have e7 : st M2 20 8 w 20 7 = M2 20 7 := by simp [st]
      have e27 : ∀ k, st M2 20 8 w 27 k = M2 27 k := fun k => st_cell (by decide)
      refine ⟨fun b j z1 z2 => ?_, by rw [e7]; exact q2, by rw [e7]; exact q3, fun k k0 k1 => ?_, fun v hv => ?_⟩
      · unfold st; split
        · rfl
        · exact q1 b j z1 z2
      · rw [e7] at k1; rw [e27, hs]; exact q4 k k0 k1
      · rw [hs] at hv; obtain ⟨k, k0, k1, k2⟩ := q5 v hv; exact ⟨k, k0, by rw [e7]; exact k1, by rw [e27]; exact k2⟩
    unfold SatW
    rw [LOp_sat hl]
    exact LD_solw h2 hk (fun b j q => st_cell (by omega)) (st_same _ _ _ _) _ _ _ x
  constructor <;> rintro ⟨x, hx⟩
  · exact ⟨x, (e x).mp hx⟩
  · exact ⟨x, (e x).mpr hx⟩
set_option maxHeartbeats 400000 in
theorem A_X7_widening42 (l : Launch) (g : Cx) (M : FMem) (k : Int) (hT : XT M 42) : AMi l g true fi_X7_widening [fr 0, fi k] 93 M (fun q M2 => OffX M M2 ∧ PWid (M 1 13) (fun kw w => Feas (SolT M 42 kw (-1) (-1) (-1) w)) k q) := by
  refine AMi_intro [fr 0, fi k] (by decide) (knall rfl) (Nat.le_of_ble_eq_true rfl) rfl ?_
  intro hNV hM0 μ
  have bk : N32 k := hNV (fi k) (by simp)
  have hts := hT.1
  unfold PWid
  refine z_aload_nr dX7_widening_0 rfl ?_
  refine z_iload_n dX7_widening_1 rfl ?_
  refine z_callVip (n2 := 93) (A_X7_isKnownBy l g M k) cb_X7_isKnownBy cl_X7_210 (clr0 rfl rfl (by decide) (by decide)) rfl (by decide) ⟨_, rfl, rfl⟩ rfl (by decide) rfl (Nat.le_of_ble_eq_true rfl) rfl dX7_widening_2 (fun x1 bx1 hx1 => ?_)
  have i1 := if01 hx1
  refine z_if_ne (tgt := 11) dX7_widening_5 (by decide) (fun c2 => ?_) (fun c2 => ?_)
  · refine z_aload_nr dX7_widening_11 rfl ?_
    refine z_iload_n dX7_widening_12 rfl ?_
    refine z_callVv (n2 := 93) (A_X7_load42 l g M k (hT) (by omega)) cb_X7_load cl_X7_216 (clr0 rfl rfl (by decide) (by decide)) rfl (by decide) ⟨_, rfl, rfl⟩ rfl (by decide) rfl (Nat.le_of_ble_eq_true rfl) rfl dX7_widening_13 (fun Mz3 kMz3 hc3 => ?_)
    have hkb : (if k = -1 then M 1 13 else k) ≤ 80 := by split <;> omega
    have hRD := RD_load hkb hc3
    have hSW := SatW_sol hkb hRD hc3.2
    refine z_aload_nr dX7_widening_16 rfl ?_
    refine z_getr (b := 34) fl_X7_40 rfl (by decide) rf_0_4 rfl dX7_widening_17 ?_
    refine z_aload_nr dX7_widening_20 rfl ?_
    refine z_getr (b := 20) fl_X7_33 rfl (by decide) rf_0_3 rfl dX7_widening_21 ?_
    refine z_callVi (n2 := 93) (A_X4_leastWidening l g Mz3 (hRD.2.1) (hRD.1.2.2.1)) cb_X4_leastWidening cl_X7_238 (clr0 rfl rfl (by decide) (by decide)) rfl (by decide) ⟨_, rfl, rfl⟩ rfl (by decide) rfl (Nat.le_of_ble_eq_true rfl) rfl dX7_widening_24 (fun x4 Mz4 bx4 kMz4 hc4 => ?_)
    obtain ⟨w1, w2, w3, w4⟩ := hc4
    refine z_iret rfl (by decide) rfl (Nat.sub_self _) dX7_widening_27 ?_
    refine ⟨fun b j q => (w1 b j (by omega)).trans (RD_X hRD b j q), ?_⟩
    rw [if_neg (by omega)]
    exact ⟨w2, (hSW _).mp w3, fun w a b c => w4 w a b ((hSW _).mpr c)⟩
  · refine z_ldc (c := -1000002) cn_X7_87 ⟨by decide, by decide⟩ dX7_widening_8 ?_
    refine z_iret rfl (by decide) rfl (Nat.sub_self _) dX7_widening_10 ?_
    refine ⟨OffX_rfl M, ?_⟩
    rw [if_pos (by omega)]
set_option maxHeartbeats 400000 in
theorem A_X7_blame42 (l : Launch) (g : Cx) (M : FMem) (hT : XT M 42) : AMi l g true fi_X7_blame [fr 0] 93 M (fun q M2 => OffX M M2 ∧ PBlame (SolT M 42 (M 1 13) (-1) (-1) (-1) 0) (fun li => Feas (SolT M 42 (M 1 13) li (-1) (-1) 0)) q) := by
  refine AMi_intro [fr 0] (by decide) (knall rfl) (Nat.le_of_ble_eq_true rfl) rfl ?_
  intro hNV hM0 μ
  refine z_aload_nr dX7_blame_0 rfl ?_
  refine z_callVi (n2 := 93) (A_X7_quarrelsNow42 l g M (hT)) cb_X7_quarrelsNow cl_X7_235 (clr0 rfl rfl (by decide) (by decide)) rfl (by decide) ⟨_, rfl, rfl⟩ rfl (by decide) rfl (Nat.le_of_ble_eq_true rfl) rfl dX7_blame_1 (fun x1 Mz1 bx1 kMz1 hc1 => ?_)
  have hRD := hc1.1.1
  have hTR := hc1.1.2
  have hqq := hc1.2
  refine z_if_eq (tgt := 21) dX7_blame_4 (by decide) (fun c2 => ?_) (fun c2 => ?_)
  · refine z_ldc (c := -1000003) cn_X7_131 ⟨by decide, by decide⟩ dX7_blame_21 ?_
    refine z_iret rfl (by decide) rfl (Nat.sub_self _) dX7_blame_23 ?_
    first
    | exact ⟨hbl.1, Or.inr ⟨by rcases hqq with q | q; omega; exact q.2, hbl.2⟩⟩
    | exact ⟨RD_X hRD, Or.inl ⟨by rcases hqq with q | q; exact q.2; omega, rfl⟩⟩
  · refine z_aload_nr dX7_blame_7 rfl ?_
    refine z_getr (b := 34) fl_X7_40 rfl (by decide) rf_0_4 rfl dX7_blame_8 ?_
    refine z_aload_nr dX7_blame_11 rfl ?_
    refine z_getr (b := 20) fl_X7_33 rfl (by decide) rf_0_3 rfl dX7_blame_12 ?_
    refine z_callVi (n2 := 93) (A_X4_listsThatEndIt l g Mz1 _ _ _ _ _ _ (hT.1.2) (hRD)) cb_X4_listsThatEndIt cl_X7_242 (clr0 rfl rfl (by decide) (by decide)) rfl (by decide) ⟨_, rfl, rfl⟩ rfl (by decide) rfl (Nat.le_of_ble_eq_true rfl) rfl dX7_blame_15 (fun x3 Mz3 bx3 kMz3 hc3 => ?_)
    have hbl := hc3
    refine z_goto (tgt := 23) dX7_blame_18 (by decide) ?_
    refine z_iret rfl (by decide) rfl (Nat.sub_self _) dX7_blame_23 ?_
    first
    | exact ⟨hbl.1, Or.inr ⟨by rcases hqq with q | q; omega; exact q.2, hbl.2⟩⟩
    | exact ⟨RD_X hRD, Or.inl ⟨by rcases hqq with q | q; exact q.2; omega, rfl⟩⟩
set_option maxHeartbeats 400000 in
theorem A_X7_odd42 (l : Launch) (g : Cx) (M : FMem) (i : Int) (hT : XT M 42) : AMi l g true fi_X7_odd [fr 0, fi i] 93 M (fun q M2 => OffX M M2 ∧ POdd (SolT M 42 (M 1 13) (-1) (-1) (-1) 0) (fun a => Feas (SolT M 42 (M 1 13) (-1) a (-1) 0)) (fun a b => Feas (SolT M 42 (M 1 13) (-1) a b 0)) i q) := by
  refine AMi_intro [fr 0, fi i] (by decide) (knall rfl) (Nat.le_of_ble_eq_true rfl) rfl ?_
  intro hNV hM0 μ
  have bi : N32 i := hNV (fi i) (by simp)
  refine z_aload_nr dX7_odd_0 rfl ?_
  refine z_callVi (n2 := 93) (A_X7_quarrelsNow42 l g M (hT)) cb_X7_quarrelsNow cl_X7_235 (clr0 rfl rfl (by decide) (by decide)) rfl (by decide) ⟨_, rfl, rfl⟩ rfl (by decide) rfl (Nat.le_of_ble_eq_true rfl) rfl dX7_odd_1 (fun x1 Mz1 bx1 kMz1 hc1 => ?_)
  have hRD := hc1.1.1
  have hTR := hc1.1.2
  have hqq := hc1.2
  refine z_if_ne (tgt := 10) dX7_odd_4 (by decide) (fun c2 => ?_) (fun c2 => ?_)
  · have hnf : ¬ Feas (SolT M 42 (M 1 13) (-1) (-1) (-1) 0) := by rcases hqq with q | q; omega; exact q.2
    refine z_aload_nr dX7_odd_10 rfl ?_
    refine z_getr (b := 34) fl_X7_40 rfl (by decide) rf_0_4 rfl dX7_odd_11 ?_
    refine z_aload_nr dX7_odd_14 rfl ?_
    refine z_getr (b := 20) fl_X7_33 rfl (by decide) rf_0_3 rfl dX7_odd_15 ?_
    refine z_callVv (n2 := 93) (A_X4_seekFewest l g Mz1 _ _ _ (hT.1.2) (hRD) (hTR) (hnf)) cb_X4_seekFewest cl_X7_245 (clr0 rfl rfl (by decide) (by decide)) rfl (by decide) ⟨_, rfl, rfl⟩ rfl (by decide) rfl (Nat.le_of_ble_eq_true rfl) rfl dX7_odd_18 (fun Mz3 kMz3 hc3 => ?_)
    have hod := hc3
    refine z_iload_n dX7_odd_21 rfl ?_
    refine z_iconst dX7_odd_22 ⟨by decide, by decide⟩ ?_
    refine z_icmp_ne (tgt := 34) dX7_odd_23 (by decide) (fun c4 => ?_) (fun c4 => ?_)
    · refine z_iload_n dX7_odd_34 rfl ?_
      refine z_if_ne (tgt := 46) dX7_odd_35 (by decide) (fun c5 => ?_) (fun c5 => ?_)
      · refine z_iload_n dX7_odd_46 rfl ?_
        refine z_iconst dX7_odd_47 ⟨by decide, by decide⟩ ?_
        refine z_icmp_ne (tgt := 61) dX7_odd_48 (by decide) (fun c6 => ?_) (fun c6 => ?_)
        · refine z_iconst dX7_odd_61 ⟨by decide, by decide⟩ ?_
          refine z_iret rfl (by decide) rfl (Nat.sub_self _) dX7_odd_62 ?_
          refine ⟨hod.1, Or.inr ⟨hnf, _, _, _, hod.2, ?_⟩⟩
          first | (rw [if_neg (by omega), if_neg (by omega), if_pos (by omega)]; omega) | (rw [if_neg (by omega), if_neg (by omega), if_neg (by omega)])
        · refine z_aload_nr dX7_odd_51 rfl ?_
          refine z_getr (b := 34) fl_X7_40 rfl (by decide) rf_0_4 rfl dX7_odd_52 ?_
          refine z_geti (kz := 4) fl_X7_255 rfl (by decide) rfl dX7_odd_55 (fun x7 hx7 bx7 => ?_)
          refine z_goto (tgt := 62) dX7_odd_58 (by decide) ?_
          refine z_iret rfl (by decide) rfl (Nat.sub_self _) dX7_odd_62 ?_
          refine ⟨hod.1, Or.inr ⟨hnf, _, _, _, hod.2, ?_⟩⟩
          first | (rw [if_neg (by omega), if_neg (by omega), if_pos (by omega)]; omega) | (rw [if_neg (by omega), if_neg (by omega), if_neg (by omega)])
      · refine z_aload_nr dX7_odd_38 rfl ?_
        refine z_getr (b := 34) fl_X7_40 rfl (by decide) rf_0_4 rfl dX7_odd_39 ?_
        refine z_geti (kz := 3) fl_X7_252 rfl (by decide) rfl dX7_odd_42 (fun x8 hx8 bx8 => ?_)
        refine z_iret rfl (by decide) rfl (Nat.sub_self _) dX7_odd_45 ?_
        refine ⟨hod.1, Or.inr ⟨hnf, _, _, _, hod.2, ?_⟩⟩
        rw [if_neg (by omega), if_pos (by omega)]; omega
    · refine z_aload_nr dX7_odd_26 rfl ?_
      refine z_getr (b := 34) fl_X7_40 rfl (by decide) rf_0_4 rfl dX7_odd_27 ?_
      refine z_geti (kz := 2) fl_X7_249 rfl (by decide) rfl dX7_odd_30 (fun x9 hx9 bx9 => ?_)
      refine z_iret rfl (by decide) rfl (Nat.sub_self _) dX7_odd_33 ?_
      refine ⟨hod.1, Or.inr ⟨hnf, _, _, _, hod.2, ?_⟩⟩
      rw [if_pos (by omega)]; omega
  · refine z_ldc (c := -1000003) cn_X7_131 ⟨by decide, by decide⟩ dX7_odd_7 ?_
    refine z_iret rfl (by decide) rfl (Nat.sub_self _) dX7_odd_9 ?_
    exact ⟨RD_X hRD, Or.inl ⟨by rcases hqq with q | q; exact q.2; omega, rfl⟩⟩
set_option maxHeartbeats 400000 in
theorem A_X7_widening51 (l : Launch) (g : Cx) (M : FMem) (k : Int) (hT : XT M 51) : AMi l g true fi_X7_widening [fr 0, fi k] 93 M (fun q M2 => OffX M M2 ∧ PWid (M 1 13) (fun kw w => Feas (SolT M 51 kw (-1) (-1) (-1) w)) k q) := by
  refine AMi_intro [fr 0, fi k] (by decide) (knall rfl) (Nat.le_of_ble_eq_true rfl) rfl ?_
  intro hNV hM0 μ
  have bk : N32 k := hNV (fi k) (by simp)
  have hts := hT.1
  unfold PWid
  refine z_aload_nr dX7_widening_0 rfl ?_
  refine z_iload_n dX7_widening_1 rfl ?_
  refine z_callVip (n2 := 93) (A_X7_isKnownBy l g M k) cb_X7_isKnownBy cl_X7_210 (clr0 rfl rfl (by decide) (by decide)) rfl (by decide) ⟨_, rfl, rfl⟩ rfl (by decide) rfl (Nat.le_of_ble_eq_true rfl) rfl dX7_widening_2 (fun x1 bx1 hx1 => ?_)
  have i1 := if01 hx1
  refine z_if_ne (tgt := 11) dX7_widening_5 (by decide) (fun c2 => ?_) (fun c2 => ?_)
  · refine z_aload_nr dX7_widening_11 rfl ?_
    refine z_iload_n dX7_widening_12 rfl ?_
    refine z_callVv (n2 := 93) (A_X7_load51 l g M k (hT) (by omega)) cb_X7_load cl_X7_216 (clr0 rfl rfl (by decide) (by decide)) rfl (by decide) ⟨_, rfl, rfl⟩ rfl (by decide) rfl (Nat.le_of_ble_eq_true rfl) rfl dX7_widening_13 (fun Mz3 kMz3 hc3 => ?_)
    have hkb : (if k = -1 then M 1 13 else k) ≤ 80 := by split <;> omega
    have hRD := RD_load hkb hc3
    have hSW := SatW_sol hkb hRD hc3.2
    refine z_aload_nr dX7_widening_16 rfl ?_
    refine z_getr (b := 34) fl_X7_40 rfl (by decide) rf_0_4 rfl dX7_widening_17 ?_
    refine z_aload_nr dX7_widening_20 rfl ?_
    refine z_getr (b := 20) fl_X7_33 rfl (by decide) rf_0_3 rfl dX7_widening_21 ?_
    refine z_callVi (n2 := 93) (A_X4_leastWidening l g Mz3 (hRD.2.1) (hRD.1.2.2.1)) cb_X4_leastWidening cl_X7_238 (clr0 rfl rfl (by decide) (by decide)) rfl (by decide) ⟨_, rfl, rfl⟩ rfl (by decide) rfl (Nat.le_of_ble_eq_true rfl) rfl dX7_widening_24 (fun x4 Mz4 bx4 kMz4 hc4 => ?_)
    obtain ⟨w1, w2, w3, w4⟩ := hc4
    refine z_iret rfl (by decide) rfl (Nat.sub_self _) dX7_widening_27 ?_
    refine ⟨fun b j q => (w1 b j (by omega)).trans (RD_X hRD b j q), ?_⟩
    rw [if_neg (by omega)]
    exact ⟨w2, (hSW _).mp w3, fun w a b c => w4 w a b ((hSW _).mpr c)⟩
  · refine z_ldc (c := -1000002) cn_X7_87 ⟨by decide, by decide⟩ dX7_widening_8 ?_
    refine z_iret rfl (by decide) rfl (Nat.sub_self _) dX7_widening_10 ?_
    refine ⟨OffX_rfl M, ?_⟩
    rw [if_pos (by omega)]
set_option maxHeartbeats 400000 in
theorem A_X7_blame51 (l : Launch) (g : Cx) (M : FMem) (hT : XT M 51) : AMi l g true fi_X7_blame [fr 0] 93 M (fun q M2 => OffX M M2 ∧ PBlame (SolT M 51 (M 1 13) (-1) (-1) (-1) 0) (fun li => Feas (SolT M 51 (M 1 13) li (-1) (-1) 0)) q) := by
  refine AMi_intro [fr 0] (by decide) (knall rfl) (Nat.le_of_ble_eq_true rfl) rfl ?_
  intro hNV hM0 μ
  refine z_aload_nr dX7_blame_0 rfl ?_
  refine z_callVi (n2 := 93) (A_X7_quarrelsNow51 l g M (hT)) cb_X7_quarrelsNow cl_X7_235 (clr0 rfl rfl (by decide) (by decide)) rfl (by decide) ⟨_, rfl, rfl⟩ rfl (by decide) rfl (Nat.le_of_ble_eq_true rfl) rfl dX7_blame_1 (fun x1 Mz1 bx1 kMz1 hc1 => ?_)
  have hRD := hc1.1.1
  have hTR := hc1.1.2
  have hqq := hc1.2
  refine z_if_eq (tgt := 21) dX7_blame_4 (by decide) (fun c2 => ?_) (fun c2 => ?_)
  · refine z_ldc (c := -1000003) cn_X7_131 ⟨by decide, by decide⟩ dX7_blame_21 ?_
    refine z_iret rfl (by decide) rfl (Nat.sub_self _) dX7_blame_23 ?_
    first
    | exact ⟨hbl.1, Or.inr ⟨by rcases hqq with q | q; omega; exact q.2, hbl.2⟩⟩
    | exact ⟨RD_X hRD, Or.inl ⟨by rcases hqq with q | q; exact q.2; omega, rfl⟩⟩
  · refine z_aload_nr dX7_blame_7 rfl ?_
    refine z_getr (b := 34) fl_X7_40 rfl (by decide) rf_0_4 rfl dX7_blame_8 ?_
    refine z_aload_nr dX7_blame_11 rfl ?_
    refine z_getr (b := 20) fl_X7_33 rfl (by decide) rf_0_3 rfl dX7_blame_12 ?_
    refine z_callVi (n2 := 93) (A_X4_listsThatEndIt l g Mz1 _ _ _ _ _ _ (hT.1.2) (hRD)) cb_X4_listsThatEndIt cl_X7_242 (clr0 rfl rfl (by decide) (by decide)) rfl (by decide) ⟨_, rfl, rfl⟩ rfl (by decide) rfl (Nat.le_of_ble_eq_true rfl) rfl dX7_blame_15 (fun x3 Mz3 bx3 kMz3 hc3 => ?_)
    have hbl := hc3
    refine z_goto (tgt := 23) dX7_blame_18 (by decide) ?_
    refine z_iret rfl (by decide) rfl (Nat.sub_self _) dX7_blame_23 ?_
    first
    | exact ⟨hbl.1, Or.inr ⟨by rcases hqq with q | q; omega; exact q.2, hbl.2⟩⟩
    | exact ⟨RD_X hRD, Or.inl ⟨by rcases hqq with q | q; exact q.2; omega, rfl⟩⟩
set_option maxHeartbeats 400000 in
theorem A_X7_odd51 (l : Launch) (g : Cx) (M : FMem) (i : Int) (hT : XT M 51) : AMi l g true fi_X7_odd [fr 0, fi i] 93 M (fun q M2 => OffX M M2 ∧ POdd (SolT M 51 (M 1 13) (-1) (-1) (-1) 0) (fun a => Feas (SolT M 51 (M 1 13) (-1) a (-1) 0)) (fun a b => Feas (SolT M 51 (M 1 13) (-1) a b 0)) i q) := by
  refine AMi_intro [fr 0, fi i] (by decide) (knall rfl) (Nat.le_of_ble_eq_true rfl) rfl ?_
  intro hNV hM0 μ
  have bi : N32 i := hNV (fi i) (by simp)
  refine z_aload_nr dX7_odd_0 rfl ?_
  refine z_callVi (n2 := 93) (A_X7_quarrelsNow51 l g M (hT)) cb_X7_quarrelsNow cl_X7_235 (clr0 rfl rfl (by decide) (by decide)) rfl (by decide) ⟨_, rfl, rfl⟩ rfl (by decide) rfl (Nat.le_of_ble_eq_true rfl) rfl dX7_odd_1 (fun x1 Mz1 bx1 kMz1 hc1 => ?_)
  have hRD := hc1.1.1
  have hTR := hc1.1.2
  have hqq := hc1.2
  refine z_if_ne (tgt := 10) dX7_odd_4 (by decide) (fun c2 => ?_) (fun c2 => ?_)
  · have hnf : ¬ Feas (SolT M 51 (M 1 13) (-1) (-1) (-1) 0) := by rcases hqq with q | q; omega; exact q.2
    refine z_aload_nr dX7_odd_10 rfl ?_
    refine z_getr (b := 34) fl_X7_40 rfl (by decide) rf_0_4 rfl dX7_odd_11 ?_
    refine z_aload_nr dX7_odd_14 rfl ?_
    refine z_getr (b := 20) fl_X7_33 rfl (by decide) rf_0_3 rfl dX7_odd_15 ?_
    refine z_callVv (n2 := 93) (A_X4_seekFewest l g Mz1 _ _ _ (hT.1.2) (hRD) (hTR) (hnf)) cb_X4_seekFewest cl_X7_245 (clr0 rfl rfl (by decide) (by decide)) rfl (by decide) ⟨_, rfl, rfl⟩ rfl (by decide) rfl (Nat.le_of_ble_eq_true rfl) rfl dX7_odd_18 (fun Mz3 kMz3 hc3 => ?_)
    have hod := hc3
    refine z_iload_n dX7_odd_21 rfl ?_
    refine z_iconst dX7_odd_22 ⟨by decide, by decide⟩ ?_
    refine z_icmp_ne (tgt := 34) dX7_odd_23 (by decide) (fun c4 => ?_) (fun c4 => ?_)
    · refine z_iload_n dX7_odd_34 rfl ?_
      refine z_if_ne (tgt := 46) dX7_odd_35 (by decide) (fun c5 => ?_) (fun c5 => ?_)
      · refine z_iload_n dX7_odd_46 rfl ?_
        refine z_iconst dX7_odd_47 ⟨by decide, by decide⟩ ?_
        refine z_icmp_ne (tgt := 61) dX7_odd_48 (by decide) (fun c6 => ?_) (fun c6 => ?_)
        · refine z_iconst dX7_odd_61 ⟨by decide, by decide⟩ ?_
          refine z_iret rfl (by decide) rfl (Nat.sub_self _) dX7_odd_62 ?_
          refine ⟨hod.1, Or.inr ⟨hnf, _, _, _, hod.2, ?_⟩⟩
          first | (rw [if_neg (by omega), if_neg (by omega), if_pos (by omega)]; omega) | (rw [if_neg (by omega), if_neg (by omega), if_neg (by omega)])
        · refine z_aload_nr dX7_odd_51 rfl ?_
          refine z_getr (b := 34) fl_X7_40 rfl (by decide) rf_0_4 rfl dX7_odd_52 ?_
          refine z_geti (kz := 4) fl_X7_255 rfl (by decide) rfl dX7_odd_55 (fun x7 hx7 bx7 => ?_)
          refine z_goto (tgt := 62) dX7_odd_58 (by decide) ?_
          refine z_iret rfl (by decide) rfl (Nat.sub_self _) dX7_odd_62 ?_
          refine ⟨hod.1, Or.inr ⟨hnf, _, _, _, hod.2, ?_⟩⟩
          first | (rw [if_neg (by omega), if_neg (by omega), if_pos (by omega)]; omega) | (rw [if_neg (by omega), if_neg (by omega), if_neg (by omega)])
      · refine z_aload_nr dX7_odd_38 rfl ?_
        refine z_getr (b := 34) fl_X7_40 rfl (by decide) rf_0_4 rfl dX7_odd_39 ?_
        refine z_geti (kz := 3) fl_X7_252 rfl (by decide) rfl dX7_odd_42 (fun x8 hx8 bx8 => ?_)
        refine z_iret rfl (by decide) rfl (Nat.sub_self _) dX7_odd_45 ?_
        refine ⟨hod.1, Or.inr ⟨hnf, _, _, _, hod.2, ?_⟩⟩
        rw [if_neg (by omega), if_pos (by omega)]; omega
    · refine z_aload_nr dX7_odd_26 rfl ?_
      refine z_getr (b := 34) fl_X7_40 rfl (by decide) rf_0_4 rfl dX7_odd_27 ?_
      refine z_geti (kz := 2) fl_X7_249 rfl (by decide) rfl dX7_odd_30 (fun x9 hx9 bx9 => ?_)
      refine z_iret rfl (by decide) rfl (Nat.sub_self _) dX7_odd_33 ?_
      refine ⟨hod.1, Or.inr ⟨hnf, _, _, _, hod.2, ?_⟩⟩
      rw [if_pos (by omega)]; omega
  · refine z_ldc (c := -1000003) cn_X7_131 ⟨by decide, by decide⟩ dX7_odd_7 ?_
    refine z_iret rfl (by decide) rfl (Nat.sub_self _) dX7_odd_9 ?_
    exact ⟨RD_X hRD, Or.inl ⟨by rcases hqq with q | q; exact q.2; omega, rfl⟩⟩
