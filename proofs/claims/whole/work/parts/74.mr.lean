/-! ===== the reference's reader: bytes, words, numbers ===== -/
abbrev tm (M : FMem) : Int → Int := fun i => M 85 i
def offS (M0 M : FMem) : Prop := ∀ b j, ¬ (b = 60 ∧ 36 ≤ j ∧ j ≤ 40) → M b j = M0 b j
theorem offS_rfl (M : FMem) : offS M M := fun _ _ _ => rfl
theorem offS_tr {M0 M1 M2 : FMem} (h : offS M0 M1) (h2 : offS M1 M2) : offS M0 M2 := fun b j p => (h2 b j p).trans (h b j p)
theorem offS_st {M0 M : FMem} {i v : Int} (h : offS M0 M) (hi : 36 ≤ i ∧ i ≤ 40) : offS M0 (st M 60 i v) := fun b j p => by
  unfold st
  rw [if_neg (by rintro ⟨a, b⟩; exact p ⟨a, by omega, by omega⟩)]
  exact h b j p
theorem offS_tx {M0 M : FMem} (h : offS M0 M) : tm M = tm M0 ∧ M 60 35 = M0 60 35 := ⟨funext fun i => h 85 i (by omega), h 60 35 (by omega)⟩
/-- the state of the reading: text, fault or place -/
def Qs (t : Int → Int) (n : Int) (s : PS) (M : FMem) : Prop := tm M = t ∧ M 60 35 = n ∧ 0 ≤ s.1.1 ∧ (s.1.1 = 0 → M 60 36 = s.1.2.2 ∧ M 60 37 = 0 ∧ M 60 38 = -1) ∧ (s.1.1 ≠ 0 → M 60 37 = s.1.1 ∧ M 60 38 = s.1.2.1)
def cd6 (a b c d e f k : Int) : Int := if k = 0 then a else if k = 1 then b else if k = 2 then c else if k = 3 then d else if k = 4 then e else f
set_option maxHeartbeats 400000 in
theorem A_X8_here (l : Launch) (g : Cx) (M : FMem) (h0 : 0 ≤ M 60 36) (hn : M 60 35 ≤ 240) : AMi l g true fi_X8_here [fr 60] 93 M (fun r M2 => M2 = st M 60 36 (sk (tm M) (M 60 35) (M 60 36)) ∧ r = if sk (tm M) (M 60 35) (M 60 36) < M 60 35 then M 85 (sk (tm M) (M 60 35) (M 60 36)) else -1) := by
  refine AMi_intro [fr 60] (by decide) (knall rfl) (Nat.le_of_ble_eq_true rfl) rfl ?_
  intro hNV hM0 μ
  have lp0 : ∀ (kq : Nat) (pz : Int) (M1 : FMem), (240 - pz).toNat = kq → (0 ≤ pz) → (M1 = st M 60 36 pz) → (sk (tm M) (M 60 35) pz = sk (tm M) (M 60 35) (M 60 36)) → Wa l g true fi_X8_here 93 μ (Zi g true fi_X8_here 93 μ (fun r M2 => M2 = st M 60 36 (sk (tm M) (M 60 35) (M 60 36)) ∧ r = if sk (tm M) (M 60 35) (M 60 36) < M 60 35 then M 85 (sk (tm M) (M 60 35) (M 60 36)) else -1)) 0 [] [fr 60] 93 M1 := by
    intro kq
    induction kq using Nat.strongRecOn with
    | _ kq ih0 =>
    intro pz M1 hk0 h1 h2 h3
    have e1 : M1 60 36 = pz := by rw [h2]; exact st_same _ _ _ _
    have e2 : M1 60 35 = M 60 35 := by rw [h2, st_at, if_neg (by decide)]
    have e3 : M1 85 pz = M 85 pz := by rw [h2, st_cell (by decide)]
    refine z_aload_nr dX8_here_0 rfl ?_
    refine z_geti (kz := 36) fl_X8_202 rfl (by decide) rfl dX8_here_1 (fun x1 hx1 bx1 => ?_)
    refine z_aload_nr dX8_here_4 rfl ?_
    refine z_geti (kz := 35) fl_X8_197 rfl (by decide) rfl dX8_here_5 (fun x2 hx2 bx2 => ?_)
    refine z_icmp_ge (tgt := 38) dX8_here_8 (by decide) (fun c3 => ?_) (fun c3 => ?_)
    · have hsk : sk (tm M) (M 60 35) (M 60 36) = pz := by
        rw [← h3]
        exact rn_no (fun z => by have hq := isB_i.mp z.2; have hq2 : M 85 pz = 32 := hq; omega)
      refine z_aload_nr dX8_here_38 rfl ?_
      refine z_geti (kz := 36) fl_X8_202 rfl (by decide) rfl dX8_here_39 (fun x4 hx4 bx4 => ?_)
      refine z_aload_nr dX8_here_42 rfl ?_
      refine z_geti (kz := 35) fl_X8_197 rfl (by decide) rfl dX8_here_43 (fun x5 hx5 bx5 => ?_)
      refine z_icmp_ge (tgt := 61) dX8_here_46 (by decide) (fun c6 => ?_) (fun c6 => ?_)
      · refine z_iconst dX8_here_61 ⟨by decide, by decide⟩ ?_
        refine z_iret rfl (by decide) rfl (Nat.sub_self _) dX8_here_62 ?_
        rw [hsk]
        refine ⟨h2, ?_⟩
        first
        | (rw [if_pos (by omega)]; exact hb57)
        | rw [if_neg (by omega)]
      · refine z_aload_nr dX8_here_49 rfl ?_
        refine z_getr (b := 85) fl_X8_83 rfl (by decide) rf_60_34 rfl dX8_here_50 ?_
        refine z_aload_nr dX8_here_53 rfl ?_
        refine z_geti (kz := 36) fl_X8_202 rfl (by decide) rfl dX8_here_54 (fun x7 hx7 bx7 => ?_)
        have ep2 : x7 = pz := by omega
        refine z_iald rfl (by decide) (by omega) (by omega) dX8_here_57 (fun x8 hx8 bx8 => ?_)
        have hb57 : x8 = M 85 pz := by rw [hx8, ep2, e3]
        refine z_goto (tgt := 62) dX8_here_58 (by decide) ?_
        refine z_iret rfl (by decide) rfl (Nat.sub_self _) dX8_here_62 ?_
        rw [hsk]
        refine ⟨h2, ?_⟩
        first
        | (rw [if_pos (by omega)]; exact hb57)
        | rw [if_neg (by omega)]
    · refine z_aload_nr dX8_here_11 rfl ?_
      refine z_getr (b := 85) fl_X8_83 rfl (by decide) rf_60_34 rfl dX8_here_12 ?_
      refine z_aload_nr dX8_here_15 rfl ?_
      refine z_geti (kz := 36) fl_X8_202 rfl (by decide) rfl dX8_here_16 (fun x9 hx9 bx9 => ?_)
      have ep : x9 = pz := by omega
      refine z_iald rfl (by decide) (by omega) (by omega) dX8_here_19 (fun x10 hx10 bx10 => ?_)
      have hb20 : x10 = M 85 pz := by rw [hx10, ep, e3]
      refine z_bipush dX8_here_20 ⟨by decide, by decide⟩ (by decide) ?_
      refine z_icmp_ne (tgt := 38) dX8_here_22 (by decide) (fun c11 => ?_) (fun c11 => ?_)
      · have hsk : sk (tm M) (M 60 35) (M 60 36) = pz := by
          rw [← h3]
          exact rn_no (fun z => by have hq := isB_i.mp z.2; have hq2 : M 85 pz = 32 := hq; omega)
        refine z_aload_nr dX8_here_38 rfl ?_
        refine z_geti (kz := 36) fl_X8_202 rfl (by decide) rfl dX8_here_39 (fun x12 hx12 bx12 => ?_)
        refine z_aload_nr dX8_here_42 rfl ?_
        refine z_geti (kz := 35) fl_X8_197 rfl (by decide) rfl dX8_here_43 (fun x13 hx13 bx13 => ?_)
        refine z_icmp_ge (tgt := 61) dX8_here_46 (by decide) (fun c14 => ?_) (fun c14 => ?_)
        · refine z_iconst dX8_here_61 ⟨by decide, by decide⟩ ?_
          refine z_iret rfl (by decide) rfl (Nat.sub_self _) dX8_here_62 ?_
          rw [hsk]
          refine ⟨h2, ?_⟩
          first
          | (rw [if_pos (by omega)]; exact hb57)
          | rw [if_neg (by omega)]
        · refine z_aload_nr dX8_here_49 rfl ?_
          refine z_getr (b := 85) fl_X8_83 rfl (by decide) rf_60_34 rfl dX8_here_50 ?_
          refine z_aload_nr dX8_here_53 rfl ?_
          refine z_geti (kz := 36) fl_X8_202 rfl (by decide) rfl dX8_here_54 (fun x15 hx15 bx15 => ?_)
          have ep2 : x15 = pz := by omega
          refine z_iald rfl (by decide) (by omega) (by omega) dX8_here_57 (fun x16 hx16 bx16 => ?_)
          have hb57 : x16 = M 85 pz := by rw [hx16, ep2, e3]
          refine z_goto (tgt := 62) dX8_here_58 (by decide) ?_
          refine z_iret rfl (by decide) rfl (Nat.sub_self _) dX8_here_62 ?_
          rw [hsk]
          refine ⟨h2, ?_⟩
          first
          | (rw [if_pos (by omega)]; exact hb57)
          | rw [if_neg (by omega)]
      · refine z_aload_nr dX8_here_25 rfl ?_
        refine z_dup rfl dX8_here_26 ?_
        refine z_geti (kz := 36) fl_X8_202 rfl (by decide) rfl dX8_here_27 (fun x17 hx17 bx17 => ?_)
        refine z_iconst dX8_here_30 ⟨by decide, by decide⟩ ?_
        first | refine z_iaddN dX8_here_31 (by omega) (fun x18 hx18 => ?_) | refine z_iadd dX8_here_31 (fun x18 hx18 => ?_)
        refine z_puti (kz := 36) fl_X8_202 rfl (by decide) rfl nr_60_36 dX8_here_32 (fun Mz19 hMz19 => ?_)
        refine z_goto (tgt := 0) dX8_here_35 (by decide) ?_
        exact ih0 _ (by omega) (pz + 1) Mz19 rfl (by omega) (by rw [hMz19, h2, st_st]; congr 1; omega) (by rw [← h3]; exact (rn_go (by omega) (isB_i.mpr (by show M 85 pz = 32; omega))).symm)
  exact lp0 _ (M 60 36) M rfl (h0) ((st_self rfl).symm) (rfl)
set_option maxHeartbeats 400000 in
theorem A_X8_want (l : Launch) (g : Cx) (M : FMem) (good fa wh : Int) (hg : good = 0 ∨ good = 1) (hf : 0 < fa) : AMi l g true fi_X8_want [fr 60, fi good, fi fa, fi wh] 93 M (fun r M2 => (good = 0 ∧ M 60 37 = 0 ∧ r = 0 ∧ M2 = st (st M 60 37 fa) 60 38 wh) ∨ (¬ (good = 0 ∧ M 60 37 = 0) ∧ M2 = M ∧ ((r = 1 ∧ M 60 37 = 0) ∨ (r = 0 ∧ M 60 37 ≠ 0)))) := by
  refine AMi_intro [fr 60, fi good, fi fa, fi wh] (by decide) (knall rfl) (Nat.le_of_ble_eq_true rfl) rfl ?_
  intro hNV hM0 μ
  have bgood : N32 good := hNV (fi good) (by simp)
  have bfa : N32 fa := hNV (fi fa) (by simp)
  have bwh : N32 wh := hNV (fi wh) (by simp)
  refine z_iload_n dX8_want_0 rfl ?_
  refine z_if_ne (tgt := 21) dX8_want_1 (by decide) (fun c1 => ?_) (fun c1 => ?_)
  · refine z_aload_nr dX8_want_21 rfl ?_
    refine z_geti (kz := 37) fl_X8_205 rfl (by decide) rfl dX8_want_22 (fun x2 hx2 bx2 => ?_)
    refine z_if_ne (tgt := 32) dX8_want_25 (by decide) (fun c3 => ?_) (fun c3 => ?_)
    · refine z_iconst dX8_want_32 ⟨by decide, by decide⟩ ?_
      refine z_zret rfl (by omega) (by decide) rfl (Nat.sub_self _) dX8_want_33 ?_
      first
      | (exact Or.inl ⟨by omega, by omega, rfl, hNONE⟩)
      | (refine Or.inl ⟨by omega, by omega, rfl, ?_⟩; rw [hNONE])
      | (refine Or.inr ⟨by omega, rfl, ?_⟩; omega)
      | (exfalso; omega)
    · refine z_iconst dX8_want_28 ⟨by decide, by decide⟩ ?_
      refine z_goto (tgt := 33) dX8_want_29 (by decide) ?_
      refine z_zret rfl (by omega) (by decide) rfl (Nat.sub_self _) dX8_want_33 ?_
      first
      | (exact Or.inl ⟨by omega, by omega, rfl, hNONE⟩)
      | (refine Or.inl ⟨by omega, by omega, rfl, ?_⟩; rw [hNONE])
      | (refine Or.inr ⟨by omega, rfl, ?_⟩; omega)
      | (exfalso; omega)
  · refine z_aload_nr dX8_want_4 rfl ?_
    refine z_geti (kz := 37) fl_X8_205 rfl (by decide) rfl dX8_want_5 (fun x4 hx4 bx4 => ?_)
    refine z_if_ne (tgt := 21) dX8_want_8 (by decide) (fun c5 => ?_) (fun c5 => ?_)
    · refine z_aload_nr dX8_want_21 rfl ?_
      refine z_geti (kz := 37) fl_X8_205 rfl (by decide) rfl dX8_want_22 (fun x6 hx6 bx6 => ?_)
      refine z_if_ne (tgt := 32) dX8_want_25 (by decide) (fun c7 => ?_) (fun c7 => ?_)
      · refine z_iconst dX8_want_32 ⟨by decide, by decide⟩ ?_
        refine z_zret rfl (by omega) (by decide) rfl (Nat.sub_self _) dX8_want_33 ?_
        first
        | (exact Or.inl ⟨by omega, by omega, rfl, hNONE⟩)
        | (refine Or.inl ⟨by omega, by omega, rfl, ?_⟩; rw [hNONE])
        | (refine Or.inr ⟨by omega, rfl, ?_⟩; omega)
        | (exfalso; omega)
      · refine z_iconst dX8_want_28 ⟨by decide, by decide⟩ ?_
        refine z_goto (tgt := 33) dX8_want_29 (by decide) ?_
        refine z_zret rfl (by omega) (by decide) rfl (Nat.sub_self _) dX8_want_33 ?_
        first
        | (exact Or.inl ⟨by omega, by omega, rfl, hNONE⟩)
        | (refine Or.inl ⟨by omega, by omega, rfl, ?_⟩; rw [hNONE])
        | (refine Or.inr ⟨by omega, rfl, ?_⟩; omega)
        | (exfalso; omega)
    · refine z_aload_nr dX8_want_11 rfl ?_
      refine z_iload_n dX8_want_12 rfl ?_
      refine z_puti (kz := 37) fl_X8_205 rfl (by decide) rfl nr_60_37 dX8_want_13 (fun Mz8 hMz8 => ?_)
      refine z_aload_nr dX8_want_16 rfl ?_
      refine z_iload_n dX8_want_17 rfl ?_
      refine z_puti (kz := 38) fl_X8_86 rfl (by decide) rfl nr_60_38 dX8_want_18 (fun Mz9 hMz9 => ?_)
      refine z_aload_nr dX8_want_21 rfl ?_
      refine z_geti (kz := 37) fl_X8_205 rfl (by decide) rfl dX8_want_22 (fun x10 hx10 bx10 => ?_)
      rw [hMz9, st_at, if_neg (by decide), hMz8, st_same] at hx10
      refine z_if_ne (tgt := 32) dX8_want_25 (by decide) (fun c11 => ?_) (fun c11 => ?_)
      · refine z_iconst dX8_want_32 ⟨by decide, by decide⟩ ?_
        refine z_zret rfl (by omega) (by decide) rfl (Nat.sub_self _) dX8_want_33 ?_
        first
        | (exact Or.inl ⟨by omega, by omega, rfl, hMz9, hMz8⟩)
        | (refine Or.inl ⟨by omega, by omega, rfl, ?_⟩; rw [hMz9, hMz8])
        | (refine Or.inr ⟨by omega, rfl, ?_⟩; omega)
        | (exfalso; omega)
      · refine z_iconst dX8_want_28 ⟨by decide, by decide⟩ ?_
        refine z_goto (tgt := 33) dX8_want_29 (by decide) ?_
        refine z_zret rfl (by omega) (by decide) rfl (Nat.sub_self _) dX8_want_33 ?_
        first
        | (exact Or.inl ⟨by omega, by omega, rfl, hMz9, hMz8⟩)
        | (refine Or.inl ⟨by omega, by omega, rfl, ?_⟩; rw [hMz9, hMz8])
        | (refine Or.inr ⟨by omega, rfl, ?_⟩; omega)
        | (exfalso; omega)
set_option maxHeartbeats 400000 in
theorem A_X8_takeWord (l : Launch) (g : Cx) (M : FMem) (h0 : 0 ≤ M 60 36 ∧ M 60 36 ≤ M 60 35) (hn : M 60 35 ≤ 240) : AMv l g true fi_X8_takeWord [fr 60] 93 M (fun M2 => (∀ b j, ¬ (b = 60 ∧ (j = 36 ∨ j = 39 ∨ j = 40)) → M2 b j = M b j) ∧ M2 60 36 = (rn (isL (tm M)) (M 60 35) (sk (tm M) (M 60 35) (M 60 36))) ∧ M2 60 39 = (sk (tm M) (M 60 35) (M 60 36)) ∧ M2 60 40 = (rn (isL (tm M)) (M 60 35) (sk (tm M) (M 60 35) (M 60 36))) - (sk (tm M) (M 60 35) (M 60 36))) := by
  refine AMv_intro [fr 60, fu] (by decide) (knall rfl) (Nat.le_of_ble_eq_true rfl) rfl ?_
  intro hNV hM0 μ
  have hsb := sk_b (t := tm M) h0.1 h0.2
  have lp13 : ∀ (kq : Nat) (pz : Int) (M1 : FMem), (240 - pz).toNat = kq → ((sk (tm M) (M 60 35) (M 60 36)) ≤ pz ∧ pz ≤ M 60 35) → ((∀ b j, ¬ (b = 60 ∧ (j = 36 ∨ j = 39 ∨ j = 40)) → M1 b j = M b j) ∧ M1 60 36 = pz ∧ M1 60 39 = (sk (tm M) (M 60 35) (M 60 36))) → (rn (isL (tm M)) (M 60 35) pz = (rn (isL (tm M)) (M 60 35) (sk (tm M) (M 60 35) (M 60 36)))) → Wa l g true fi_X8_takeWord 93 μ (Zv g true fi_X8_takeWord 93 μ (fun M2 => (∀ b j, ¬ (b = 60 ∧ (j = 36 ∨ j = 39 ∨ j = 40)) → M2 b j = M b j) ∧ M2 60 36 = (rn (isL (tm M)) (M 60 35) (sk (tm M) (M 60 35) (M 60 36))) ∧ M2 60 39 = (sk (tm M) (M 60 35) (M 60 36)) ∧ M2 60 40 = (rn (isL (tm M)) (M 60 35) (sk (tm M) (M 60 35) (M 60 36))) - (sk (tm M) (M 60 35) (M 60 36)))) 13 [] [fr 60, fu] 93 M1 := by
    intro kq
    induction kq using Nat.strongRecOn with
    | _ kq ih13 =>
    intro pz M1 hk13 h1 h2 h3
    have e1 := h2.2.1
    have e2 := h2.1 60 35 (by decide)
    have e3 := h2.1 85 pz (by omega)
    refine z_aload_nr dX8_takeWord_13 rfl ?_
    refine z_geti (kz := 36) fl_X8_202 rfl (by decide) rfl dX8_takeWord_14 (fun x1 hx1 bx1 => ?_)
    refine z_aload_nr dX8_takeWord_17 rfl ?_
    refine z_geti (kz := 35) fl_X8_197 rfl (by decide) rfl dX8_takeWord_18 (fun x2 hx2 bx2 => ?_)
    refine z_icmp_ge (tgt := 59) dX8_takeWord_21 (by decide) (fun c3 => ?_) (fun c3 => ?_)
    · have hend : rn (isL (tm M)) (M 60 35) pz = pz := rn_no (fun z => by have hq := isL_i.mp z.2; have hq2 : 97 ≤ M 85 pz ∧ M 85 pz ≤ 122 := hq; omega)
      refine z_aload_nr dX8_takeWord_59 rfl ?_
      refine z_aload_nr dX8_takeWord_60 rfl ?_
      refine z_geti (kz := 36) fl_X8_202 rfl (by decide) rfl dX8_takeWord_61 (fun x4 hx4 bx4 => ?_)
      refine z_aload_nr dX8_takeWord_64 rfl ?_
      refine z_geti (kz := 39) fl_X8_212 rfl (by decide) rfl dX8_takeWord_65 (fun x5 hx5 bx5 => ?_)
      first | refine z_isubN dX8_takeWord_68 (by omega) (fun x6 hx6 => ?_) | refine z_isub dX8_takeWord_68 (fun x6 hx6 => ?_)
      refine z_puti (kz := 40) fl_X8_219 rfl (by decide) rfl nr_60_40 dX8_takeWord_69 (fun Mz7 hMz7 => ?_)
      refine z_vret rfl (by decide) rfl (Nat.sub_self _) dX8_takeWord_72 ?_
      rw [← h3, hend, hMz7]
      refine ⟨fun b j q => ?_, ?_, ?_, ?_⟩
      · unfold st
        rw [if_neg (fun z => q ⟨z.1, Or.inr (Or.inr z.2)⟩)]
        exact h2.1 b j q
      · rw [st_at, if_neg (by decide)]; exact e1
      · rw [st_at, if_neg (by decide)]; exact h2.2.2
      · rw [st_same]; have := h2.2.2; omega
    · refine z_aload_nr dX8_takeWord_24 rfl ?_
      refine z_getr (b := 85) fl_X8_83 rfl (by decide) rf_60_34 rfl dX8_takeWord_25 ?_
      refine z_aload_nr dX8_takeWord_28 rfl ?_
      refine z_geti (kz := 36) fl_X8_202 rfl (by decide) rfl dX8_takeWord_29 (fun x8 hx8 bx8 => ?_)
      have ep : x8 = pz := by omega
      refine z_iald rfl (by decide) (by omega) (by omega) dX8_takeWord_32 (fun x9 hx9 bx9 => ?_)
      have hb32 : x9 = M 85 pz := by rw [hx9, ep, e3]
      refine z_i2l dX8_takeWord_33 ?_
      refine z_ldc2 (c := 97) cn_X8_215 ⟨by decide, by decide⟩ dX8_takeWord_34 ?_
      refine z_ldc2 (c := 122) cn_X8_217 ⟨by decide, by decide⟩ dX8_takeWord_37 ?_
      refine z_callSip (n2 := 93) (A_X8_in l g M1 x9 97 122) cb_X8_in cl_X8_130 (clr0 rfl rfl (by decide) (by decide)) rfl (by decide) rfl (Nat.le_of_ble_eq_true rfl) rfl dX8_takeWord_40 (fun x10 bx10 hx10 => ?_)
      have i10 := if01 hx10
      refine z_if_eq (tgt := 59) dX8_takeWord_43 (by decide) (fun c11 => ?_) (fun c11 => ?_)
      · have hend : rn (isL (tm M)) (M 60 35) pz = pz := rn_no (fun z => by have hq := isL_i.mp z.2; have hq2 : 97 ≤ M 85 pz ∧ M 85 pz ≤ 122 := hq; omega)
        refine z_aload_nr dX8_takeWord_59 rfl ?_
        refine z_aload_nr dX8_takeWord_60 rfl ?_
        refine z_geti (kz := 36) fl_X8_202 rfl (by decide) rfl dX8_takeWord_61 (fun x12 hx12 bx12 => ?_)
        refine z_aload_nr dX8_takeWord_64 rfl ?_
        refine z_geti (kz := 39) fl_X8_212 rfl (by decide) rfl dX8_takeWord_65 (fun x13 hx13 bx13 => ?_)
        first | refine z_isubN dX8_takeWord_68 (by omega) (fun x14 hx14 => ?_) | refine z_isub dX8_takeWord_68 (fun x14 hx14 => ?_)
        refine z_puti (kz := 40) fl_X8_219 rfl (by decide) rfl nr_60_40 dX8_takeWord_69 (fun Mz15 hMz15 => ?_)
        refine z_vret rfl (by decide) rfl (Nat.sub_self _) dX8_takeWord_72 ?_
        rw [← h3, hend, hMz15]
        refine ⟨fun b j q => ?_, ?_, ?_, ?_⟩
        · unfold st
          rw [if_neg (fun z => q ⟨z.1, Or.inr (Or.inr z.2)⟩)]
          exact h2.1 b j q
        · rw [st_at, if_neg (by decide)]; exact e1
        · rw [st_at, if_neg (by decide)]; exact h2.2.2
        · rw [st_same]; have := h2.2.2; omega
      · refine z_aload_nr dX8_takeWord_46 rfl ?_
        refine z_dup rfl dX8_takeWord_47 ?_
        refine z_geti (kz := 36) fl_X8_202 rfl (by decide) rfl dX8_takeWord_48 (fun x16 hx16 bx16 => ?_)
        refine z_iconst dX8_takeWord_51 ⟨by decide, by decide⟩ ?_
        first | refine z_iaddN dX8_takeWord_52 (by omega) (fun x17 hx17 => ?_) | refine z_iadd dX8_takeWord_52 (fun x17 hx17 => ?_)
        refine z_puti (kz := 36) fl_X8_202 rfl (by decide) rfl nr_60_36 dX8_takeWord_53 (fun Mz18 hMz18 => ?_)
        refine z_goto (tgt := 13) dX8_takeWord_56 (by decide) ?_
        exact ih13 _ (by omega) (pz + 1) Mz18 rfl (by omega) (⟨fun b j q => by rw [hMz18]; unfold st; rw [if_neg (fun z => q ⟨z.1, Or.inl z.2⟩)]; exact h2.1 b j q, by rw [hMz18, st_same]; omega, by rw [hMz18, st_at, if_neg (by decide)]; exact h2.2.2⟩) (by rw [← h3]; exact (rn_go (by omega) (isL_i.mpr (by show 97 ≤ M 85 pz ∧ M 85 pz ≤ 122; omega))).symm)
  refine z_aload_nr dX8_takeWord_0 rfl ?_
  refine z_callVi (n2 := 93) (A_X8_here l g M (h0.1) (hn)) cb_X8_here cl_X8_208 (clr0 rfl rfl (by decide) (by decide)) rfl (by decide) ⟨_, rfl, rfl⟩ rfl (by decide) rfl (Nat.le_of_ble_eq_true rfl) rfl dX8_takeWord_1 (fun x19 Mz19 bx19 kMz19 hc19 => ?_)
  have hhe := hc19.1
  refine z_istore_n (loc2 := [fr 60, fi x19]) dX8_takeWord_4 (by decide) rfl ?_
  refine z_aload_nr dX8_takeWord_5 rfl ?_
  refine z_aload_nr dX8_takeWord_6 rfl ?_
  refine z_geti (kz := 36) fl_X8_202 rfl (by decide) rfl dX8_takeWord_7 (fun x20 hx20 bx20 => ?_)
  have h7 : x20 = (sk (tm M) (M 60 35) (M 60 36)) := by
    have hq := hx20
    rw [hhe, st_same] at hq
    exact hq
  refine z_puti (kz := 39) fl_X8_212 rfl (by decide) rfl nr_60_39 dX8_takeWord_10 (fun Mz21 hMz21 => ?_)
  refine z_few [fr 60, fu] (by simp [fle, kn]) ?_
  exact lp13 _ ((sk (tm M) (M 60 35) (M 60 36))) Mz21 rfl (by omega) (⟨fun b j q => by rw [hMz21, hhe]; unfold st; rw [if_neg (fun z => q ⟨z.1, Or.inr (Or.inl z.2)⟩), if_neg (fun z => q ⟨z.1, Or.inl z.2⟩)], by rw [hMz21, hhe, st_at, if_neg (by decide)]; exact st_same _ _ _ _, by rw [hMz21, st_same, h7]⟩) (rfl)
set_option maxHeartbeats 3200000 in
theorem A_X8_isWord (l : Launch) (g : Cx) (M : FMem) (many a b c d e f : Int) (j : Nat) (hj : j < 11) (hm : many = wl j) (hw : ∀ k, 0 ≤ k → k < wl j → cd6 a b c d e f k = wc j k) (h0 : 0 ≤ M 60 39 ∧ 0 ≤ M 60 40) (h1 : M 60 39 + M 60 40 ≤ M 60 35) (hn : M 60 35 ≤ 240) (hr : rn (isL (tm M)) (M 60 35) (M 60 39) = M 60 39 + M 60 40) : AMi l g true fi_X8_isWord [fr 60, fi many, fi a, fi b, fi c, fi d, fi e, fi f] 93 M (fun r M2 => M2 = M ∧ (fun r => (r = 1 ∧ isW (tm M) (M 60 35) (M 60 39) j) ∨ (r = 0 ∧ ¬ isW (tm M) (M 60 35) (M 60 39) j)) r) := by
  refine AMi_intro [fr 60, fi many, fi a, fi b, fi c, fi d, fi e, fi f, fu, fu] (by decide) (knall rfl) (Nat.le_of_ble_eq_true rfl) rfl ?_
  intro hNV hM0 μ
  have bmany : N32 many := hNV (fi many) (by simp)
  have ba : N32 a := hNV (fi a) (by simp)
  have bb : N32 b := hNV (fi b) (by simp)
  have bc : N32 c := hNV (fi c) (by simp)
  have bd : N32 d := hNV (fi d) (by simp)
  have be : N32 e := hNV (fi e) (by simp)
  have bf : N32 f := hNV (fi f) (by simp)
  have hwl := wl_b hj
  have hrun : isW (tm M) (M 60 35) (M 60 39) j → M 60 40 = wl j := by
    intro z
    have h2 := rn_uq (P := isL (tm M)) (n := M 60 35) (p := M 60 39) (q := M 60 39 + wl j) (by omega) (fun i i1 i2 => by
      have z1 := z.1 (i - M 60 39) (by omega) (by omega)
      have hb := wc_b hj (i := i - M 60 39) (by omega) (by omega)
      rw [show M 60 39 + (i - M 60 39) = i by omega] at z1
      exact ⟨z1.1, isL_i.mpr (by rw [z1.2]; exact hb)⟩) (fun y => z.2 ⟨y.1, isL_i.mp y.2⟩)
    omega
  have lp18 : ∀ (kq : Nat) (sz kz : Int), (7 - kz).toNat = kq → (0 ≤ kz ∧ kz ≤ many) → ((sz = 1 ∧ M 60 40 = wl j ∧ ∀ i, 0 ≤ i → i < kz → M 85 (M 60 39 + i) = wc j i) ∨ (sz = 0 ∧ ¬ isW (tm M) (M 60 35) (M 60 39) j)) → Wa l g true fi_X8_isWord 93 μ (Zi g true fi_X8_isWord 93 μ (fun r M2 => M2 = M ∧ (fun r => (r = 1 ∧ isW (tm M) (M 60 35) (M 60 39) j) ∨ (r = 0 ∧ ¬ isW (tm M) (M 60 35) (M 60 39) j)) r)) 18 [] [fr 60, fi many, fi a, fi b, fi c, fi d, fi e, fi f, fi sz, fi kz] 93 M := by
    intro kq
    induction kq using Nat.strongRecOn with
    | _ kq ih18 =>
    intro sz kz hk18 hk hs
    refine z_iload dX8_isWord_18 rfl ?_
    refine z_iload_n dX8_isWord_20 rfl ?_
    refine z_icmp_ge (tgt := 111) dX8_isWord_21 (by decide) (fun c1 => ?_) (fun c1 => ?_)
    · refine z_iload dX8_isWord_111 rfl ?_
      refine z_zret rfl (by omega) (by decide) rfl (Nat.sub_self _) dX8_isWord_113 ?_
      refine ⟨rfl, ?_⟩
      rcases hs with z | z
      · refine Or.inl ⟨z.1, fun k k0 k1 => ⟨by omega, z.2.2 k k0 (by omega)⟩, fun y => ?_⟩
        have he := rn_end (isL (tm M)) (M 60 35) (M 60 39)
        rw [hr, z.2.1] at he
        exact he ⟨y.1, isL_i.mpr y.2⟩
      · exact Or.inr z
    · refine z_iload dX8_isWord_24 rfl ?_
      refine z_if_eq (tgt := 111) dX8_isWord_26 (by decide) (fun c2 => ?_) (fun c2 => ?_)
      · refine z_iload dX8_isWord_111 rfl ?_
        refine z_zret rfl (by omega) (by decide) rfl (Nat.sub_self _) dX8_isWord_113 ?_
        refine ⟨rfl, ?_⟩
        rcases hs with z | z
        · refine Or.inl ⟨z.1, fun k k0 k1 => ⟨by omega, z.2.2 k k0 (by omega)⟩, fun y => ?_⟩
          have he := rn_end (isL (tm M)) (M 60 35) (M 60 39)
          rw [hr, z.2.1] at he
          exact he ⟨y.1, isL_i.mpr y.2⟩
        · exact Or.inr z
      · have hle : M 60 40 = wl j := by
          rcases hs with z | z
          · exact z.2.1
          · exfalso; omega
        have hcd := hw kz hk.1 (by omega)
        unfold cd6 at hcd
        refine z_aload_nr dX8_isWord_29 rfl ?_
        refine z_getr (b := 85) fl_X8_83 rfl (by decide) rf_60_34 rfl dX8_isWord_30 ?_
        refine z_aload_nr dX8_isWord_33 rfl ?_
        refine z_geti (kz := 39) fl_X8_212 rfl (by decide) rfl dX8_isWord_34 (fun x3 hx3 bx3 => ?_)
        refine z_iload dX8_isWord_37 rfl ?_
        first | refine z_iaddN dX8_isWord_39 (by omega) (fun x4 hx4 => ?_) | refine z_iadd dX8_isWord_39 (fun x4 hx4 => ?_)
        have hix : x4 = M 60 39 + kz := by omega
        refine z_iald rfl (by decide) (by omega) (by omega) dX8_isWord_40 (fun x5 hx5 bx5 => ?_)
        have htx : x5 = M 85 (M 60 39 + kz) := by rw [hx5, hix]
        refine z_iload dX8_isWord_41 rfl ?_
        refine z_if_ne (tgt := 50) dX8_isWord_43 (by decide) (fun c6 => ?_) (fun c6 => ?_)
        · refine z_iload dX8_isWord_50 rfl ?_
          refine z_iconst dX8_isWord_52 ⟨by decide, by decide⟩ ?_
          refine z_icmp_ne (tgt := 60) dX8_isWord_53 (by decide) (fun c7 => ?_) (fun c7 => ?_)
          · refine z_iload dX8_isWord_60 rfl ?_
            refine z_iconst dX8_isWord_62 ⟨by decide, by decide⟩ ?_
            refine z_icmp_ne (tgt := 71) dX8_isWord_63 (by decide) (fun c8 => ?_) (fun c8 => ?_)
            · refine z_iload dX8_isWord_71 rfl ?_
              refine z_iconst dX8_isWord_73 ⟨by decide, by decide⟩ ?_
              refine z_icmp_ne (tgt := 82) dX8_isWord_74 (by decide) (fun c9 => ?_) (fun c9 => ?_)
              · refine z_iload dX8_isWord_82 rfl ?_
                refine z_iconst dX8_isWord_84 ⟨by decide, by decide⟩ ?_
                refine z_icmp_ne (tgt := 93) dX8_isWord_85 (by decide) (fun c10 => ?_) (fun c10 => ?_)
                · refine z_iload dX8_isWord_93 rfl ?_
                  have hcv : f = wc j kz := by
                    rw [← hcd]
                    first
                    | rw [if_pos (by omega)]
                    | (rw [if_neg (by omega), if_pos (by omega)])
                    | (rw [if_neg (by omega), if_neg (by omega), if_pos (by omega)])
                    | (rw [if_neg (by omega), if_neg (by omega), if_neg (by omega), if_pos (by omega)])
                    | (rw [if_neg (by omega), if_neg (by omega), if_neg (by omega), if_neg (by omega), if_pos (by omega)])
                    | (rw [if_neg (by omega), if_neg (by omega), if_neg (by omega), if_neg (by omega), if_neg (by omega)])
                  refine z_icmp_ne (tgt := 102) dX8_isWord_95 (by decide) (fun c11 => ?_) (fun c11 => ?_)
                  · refine z_iconst dX8_isWord_102 ⟨by decide, by decide⟩ ?_
                    refine z_istore (loc2 := [fr 60, fi many, fi a, fi b, fi c, fi d, fi e, fi f, fi 0, fi kz]) dX8_isWord_103 (by decide) rfl ?_
                    refine z_iinc (loc2 := fun vq => [fr 60, fi many, fi a, fi b, fi c, fi d, fi e, fi f, fi 0, fi vq]) dX8_isWord_105 rfl (by decide) (by omega) (fun _ => rfl) (fun x12 hx12 => ?_)
                    refine z_goto (tgt := 18) dX8_isWord_108 (by decide) ?_
                    have hgo : ((0 : Int) = 1 ∧ M 60 40 = wl j ∧ ∀ i, 0 ≤ i → i < kz + 1 → M 85 (M 60 39 + i) = wc j i) ∨ ((0 : Int) = 0 ∧ ¬ isW (tm M) (M 60 35) (M 60 39) j) := by
                      rcases hs with z | z
                      · first
                        | (refine Or.inl ⟨rfl, z.2.1, fun i i0 i1 => ?_⟩
                           by_cases e : i = kz
                           · rw [e]; omega
                           · exact z.2.2 i i0 (by omega))
                        | (refine Or.inr ⟨rfl, fun y => ?_⟩
                           have y1 := (y.1 kz hk.1 (by omega)).2
                           have y2 : M 85 (M 60 39 + kz) = wc j kz := y1
                           omega)
                      · exfalso; omega
                    exact ih18 _ (by omega) 0 x12 rfl (by omega) (by rw [hx12]; exact hgo)
                  · refine z_iconst dX8_isWord_98 ⟨by decide, by decide⟩ ?_
                    refine z_goto (tgt := 103) dX8_isWord_99 (by decide) ?_
                    refine z_istore (loc2 := [fr 60, fi many, fi a, fi b, fi c, fi d, fi e, fi f, fi 1, fi kz]) dX8_isWord_103 (by decide) rfl ?_
                    refine z_iinc (loc2 := fun vq => [fr 60, fi many, fi a, fi b, fi c, fi d, fi e, fi f, fi 1, fi vq]) dX8_isWord_105 rfl (by decide) (by omega) (fun _ => rfl) (fun x13 hx13 => ?_)
                    refine z_goto (tgt := 18) dX8_isWord_108 (by decide) ?_
                    have hgo : ((1 : Int) = 1 ∧ M 60 40 = wl j ∧ ∀ i, 0 ≤ i → i < kz + 1 → M 85 (M 60 39 + i) = wc j i) ∨ ((1 : Int) = 0 ∧ ¬ isW (tm M) (M 60 35) (M 60 39) j) := by
                      rcases hs with z | z
                      · first
                        | (refine Or.inl ⟨rfl, z.2.1, fun i i0 i1 => ?_⟩
                           by_cases e : i = kz
                           · rw [e]; omega
                           · exact z.2.2 i i0 (by omega))
                        | (refine Or.inr ⟨rfl, fun y => ?_⟩
                           have y1 := (y.1 kz hk.1 (by omega)).2
                           have y2 : M 85 (M 60 39 + kz) = wc j kz := y1
                           omega)
                      · exfalso; omega
                    exact ih18 _ (by omega) 1 x13 rfl (by omega) (by rw [hx13]; exact hgo)
                · refine z_iload dX8_isWord_88 rfl ?_
                  refine z_goto (tgt := 95) dX8_isWord_90 (by decide) ?_
                  have hcv : e = wc j kz := by
                    rw [← hcd]
                    first
                    | rw [if_pos (by omega)]
                    | (rw [if_neg (by omega), if_pos (by omega)])
                    | (rw [if_neg (by omega), if_neg (by omega), if_pos (by omega)])
                    | (rw [if_neg (by omega), if_neg (by omega), if_neg (by omega), if_pos (by omega)])
                    | (rw [if_neg (by omega), if_neg (by omega), if_neg (by omega), if_neg (by omega), if_pos (by omega)])
                    | (rw [if_neg (by omega), if_neg (by omega), if_neg (by omega), if_neg (by omega), if_neg (by omega)])
                  refine z_icmp_ne (tgt := 102) dX8_isWord_95 (by decide) (fun c14 => ?_) (fun c14 => ?_)
                  · refine z_iconst dX8_isWord_102 ⟨by decide, by decide⟩ ?_
                    refine z_istore (loc2 := [fr 60, fi many, fi a, fi b, fi c, fi d, fi e, fi f, fi 0, fi kz]) dX8_isWord_103 (by decide) rfl ?_
                    refine z_iinc (loc2 := fun vq => [fr 60, fi many, fi a, fi b, fi c, fi d, fi e, fi f, fi 0, fi vq]) dX8_isWord_105 rfl (by decide) (by omega) (fun _ => rfl) (fun x15 hx15 => ?_)
                    refine z_goto (tgt := 18) dX8_isWord_108 (by decide) ?_
                    have hgo : ((0 : Int) = 1 ∧ M 60 40 = wl j ∧ ∀ i, 0 ≤ i → i < kz + 1 → M 85 (M 60 39 + i) = wc j i) ∨ ((0 : Int) = 0 ∧ ¬ isW (tm M) (M 60 35) (M 60 39) j) := by
                      rcases hs with z | z
                      · first
                        | (refine Or.inl ⟨rfl, z.2.1, fun i i0 i1 => ?_⟩
                           by_cases e : i = kz
                           · rw [e]; omega
                           · exact z.2.2 i i0 (by omega))
                        | (refine Or.inr ⟨rfl, fun y => ?_⟩
                           have y1 := (y.1 kz hk.1 (by omega)).2
                           have y2 : M 85 (M 60 39 + kz) = wc j kz := y1
                           omega)
                      · exfalso; omega
                    exact ih18 _ (by omega) 0 x15 rfl (by omega) (by rw [hx15]; exact hgo)
                  · refine z_iconst dX8_isWord_98 ⟨by decide, by decide⟩ ?_
                    refine z_goto (tgt := 103) dX8_isWord_99 (by decide) ?_
                    refine z_istore (loc2 := [fr 60, fi many, fi a, fi b, fi c, fi d, fi e, fi f, fi 1, fi kz]) dX8_isWord_103 (by decide) rfl ?_
                    refine z_iinc (loc2 := fun vq => [fr 60, fi many, fi a, fi b, fi c, fi d, fi e, fi f, fi 1, fi vq]) dX8_isWord_105 rfl (by decide) (by omega) (fun _ => rfl) (fun x16 hx16 => ?_)
                    refine z_goto (tgt := 18) dX8_isWord_108 (by decide) ?_
                    have hgo : ((1 : Int) = 1 ∧ M 60 40 = wl j ∧ ∀ i, 0 ≤ i → i < kz + 1 → M 85 (M 60 39 + i) = wc j i) ∨ ((1 : Int) = 0 ∧ ¬ isW (tm M) (M 60 35) (M 60 39) j) := by
                      rcases hs with z | z
                      · first
                        | (refine Or.inl ⟨rfl, z.2.1, fun i i0 i1 => ?_⟩
                           by_cases e : i = kz
                           · rw [e]; omega
                           · exact z.2.2 i i0 (by omega))
                        | (refine Or.inr ⟨rfl, fun y => ?_⟩
                           have y1 := (y.1 kz hk.1 (by omega)).2
                           have y2 : M 85 (M 60 39 + kz) = wc j kz := y1
                           omega)
                      · exfalso; omega
                    exact ih18 _ (by omega) 1 x16 rfl (by omega) (by rw [hx16]; exact hgo)
              · refine z_iload dX8_isWord_77 rfl ?_
                refine z_goto (tgt := 95) dX8_isWord_79 (by decide) ?_
                have hcv : d = wc j kz := by
                  rw [← hcd]
                  first
                  | rw [if_pos (by omega)]
                  | (rw [if_neg (by omega), if_pos (by omega)])
                  | (rw [if_neg (by omega), if_neg (by omega), if_pos (by omega)])
                  | (rw [if_neg (by omega), if_neg (by omega), if_neg (by omega), if_pos (by omega)])
                  | (rw [if_neg (by omega), if_neg (by omega), if_neg (by omega), if_neg (by omega), if_pos (by omega)])
                  | (rw [if_neg (by omega), if_neg (by omega), if_neg (by omega), if_neg (by omega), if_neg (by omega)])
                refine z_icmp_ne (tgt := 102) dX8_isWord_95 (by decide) (fun c17 => ?_) (fun c17 => ?_)
                · refine z_iconst dX8_isWord_102 ⟨by decide, by decide⟩ ?_
                  refine z_istore (loc2 := [fr 60, fi many, fi a, fi b, fi c, fi d, fi e, fi f, fi 0, fi kz]) dX8_isWord_103 (by decide) rfl ?_
                  refine z_iinc (loc2 := fun vq => [fr 60, fi many, fi a, fi b, fi c, fi d, fi e, fi f, fi 0, fi vq]) dX8_isWord_105 rfl (by decide) (by omega) (fun _ => rfl) (fun x18 hx18 => ?_)
                  refine z_goto (tgt := 18) dX8_isWord_108 (by decide) ?_
                  have hgo : ((0 : Int) = 1 ∧ M 60 40 = wl j ∧ ∀ i, 0 ≤ i → i < kz + 1 → M 85 (M 60 39 + i) = wc j i) ∨ ((0 : Int) = 0 ∧ ¬ isW (tm M) (M 60 35) (M 60 39) j) := by
                    rcases hs with z | z
                    · first
                      | (refine Or.inl ⟨rfl, z.2.1, fun i i0 i1 => ?_⟩
                         by_cases e : i = kz
                         · rw [e]; omega
                         · exact z.2.2 i i0 (by omega))
                      | (refine Or.inr ⟨rfl, fun y => ?_⟩
                         have y1 := (y.1 kz hk.1 (by omega)).2
                         have y2 : M 85 (M 60 39 + kz) = wc j kz := y1
                         omega)
                    · exfalso; omega
                  exact ih18 _ (by omega) 0 x18 rfl (by omega) (by rw [hx18]; exact hgo)
                · refine z_iconst dX8_isWord_98 ⟨by decide, by decide⟩ ?_
                  refine z_goto (tgt := 103) dX8_isWord_99 (by decide) ?_
                  refine z_istore (loc2 := [fr 60, fi many, fi a, fi b, fi c, fi d, fi e, fi f, fi 1, fi kz]) dX8_isWord_103 (by decide) rfl ?_
                  refine z_iinc (loc2 := fun vq => [fr 60, fi many, fi a, fi b, fi c, fi d, fi e, fi f, fi 1, fi vq]) dX8_isWord_105 rfl (by decide) (by omega) (fun _ => rfl) (fun x19 hx19 => ?_)
                  refine z_goto (tgt := 18) dX8_isWord_108 (by decide) ?_
                  have hgo : ((1 : Int) = 1 ∧ M 60 40 = wl j ∧ ∀ i, 0 ≤ i → i < kz + 1 → M 85 (M 60 39 + i) = wc j i) ∨ ((1 : Int) = 0 ∧ ¬ isW (tm M) (M 60 35) (M 60 39) j) := by
                    rcases hs with z | z
                    · first
                      | (refine Or.inl ⟨rfl, z.2.1, fun i i0 i1 => ?_⟩
                         by_cases e : i = kz
                         · rw [e]; omega
                         · exact z.2.2 i i0 (by omega))
                      | (refine Or.inr ⟨rfl, fun y => ?_⟩
                         have y1 := (y.1 kz hk.1 (by omega)).2
                         have y2 : M 85 (M 60 39 + kz) = wc j kz := y1
                         omega)
                    · exfalso; omega
                  exact ih18 _ (by omega) 1 x19 rfl (by omega) (by rw [hx19]; exact hgo)
            · refine z_iload dX8_isWord_66 rfl ?_
              refine z_goto (tgt := 95) dX8_isWord_68 (by decide) ?_
              have hcv : c = wc j kz := by
                rw [← hcd]
                first
                | rw [if_pos (by omega)]
                | (rw [if_neg (by omega), if_pos (by omega)])
                | (rw [if_neg (by omega), if_neg (by omega), if_pos (by omega)])
                | (rw [if_neg (by omega), if_neg (by omega), if_neg (by omega), if_pos (by omega)])
                | (rw [if_neg (by omega), if_neg (by omega), if_neg (by omega), if_neg (by omega), if_pos (by omega)])
                | (rw [if_neg (by omega), if_neg (by omega), if_neg (by omega), if_neg (by omega), if_neg (by omega)])
              refine z_icmp_ne (tgt := 102) dX8_isWord_95 (by decide) (fun c20 => ?_) (fun c20 => ?_)
              · refine z_iconst dX8_isWord_102 ⟨by decide, by decide⟩ ?_
                refine z_istore (loc2 := [fr 60, fi many, fi a, fi b, fi c, fi d, fi e, fi f, fi 0, fi kz]) dX8_isWord_103 (by decide) rfl ?_
                refine z_iinc (loc2 := fun vq => [fr 60, fi many, fi a, fi b, fi c, fi d, fi e, fi f, fi 0, fi vq]) dX8_isWord_105 rfl (by decide) (by omega) (fun _ => rfl) (fun x21 hx21 => ?_)
                refine z_goto (tgt := 18) dX8_isWord_108 (by decide) ?_
                have hgo : ((0 : Int) = 1 ∧ M 60 40 = wl j ∧ ∀ i, 0 ≤ i → i < kz + 1 → M 85 (M 60 39 + i) = wc j i) ∨ ((0 : Int) = 0 ∧ ¬ isW (tm M) (M 60 35) (M 60 39) j) := by
                  rcases hs with z | z
                  · first
                    | (refine Or.inl ⟨rfl, z.2.1, fun i i0 i1 => ?_⟩
                       by_cases e : i = kz
                       · rw [e]; omega
                       · exact z.2.2 i i0 (by omega))
                    | (refine Or.inr ⟨rfl, fun y => ?_⟩
                       have y1 := (y.1 kz hk.1 (by omega)).2
                       have y2 : M 85 (M 60 39 + kz) = wc j kz := y1
                       omega)
                  · exfalso; omega
                exact ih18 _ (by omega) 0 x21 rfl (by omega) (by rw [hx21]; exact hgo)
              · refine z_iconst dX8_isWord_98 ⟨by decide, by decide⟩ ?_
                refine z_goto (tgt := 103) dX8_isWord_99 (by decide) ?_
                refine z_istore (loc2 := [fr 60, fi many, fi a, fi b, fi c, fi d, fi e, fi f, fi 1, fi kz]) dX8_isWord_103 (by decide) rfl ?_
                refine z_iinc (loc2 := fun vq => [fr 60, fi many, fi a, fi b, fi c, fi d, fi e, fi f, fi 1, fi vq]) dX8_isWord_105 rfl (by decide) (by omega) (fun _ => rfl) (fun x22 hx22 => ?_)
                refine z_goto (tgt := 18) dX8_isWord_108 (by decide) ?_
                have hgo : ((1 : Int) = 1 ∧ M 60 40 = wl j ∧ ∀ i, 0 ≤ i → i < kz + 1 → M 85 (M 60 39 + i) = wc j i) ∨ ((1 : Int) = 0 ∧ ¬ isW (tm M) (M 60 35) (M 60 39) j) := by
                  rcases hs with z | z
                  · first
                    | (refine Or.inl ⟨rfl, z.2.1, fun i i0 i1 => ?_⟩
                       by_cases e : i = kz
                       · rw [e]; omega
                       · exact z.2.2 i i0 (by omega))
                    | (refine Or.inr ⟨rfl, fun y => ?_⟩
                       have y1 := (y.1 kz hk.1 (by omega)).2
                       have y2 : M 85 (M 60 39 + kz) = wc j kz := y1
                       omega)
                  · exfalso; omega
                exact ih18 _ (by omega) 1 x22 rfl (by omega) (by rw [hx22]; exact hgo)
          · refine z_iload_n dX8_isWord_56 rfl ?_
            refine z_goto (tgt := 95) dX8_isWord_57 (by decide) ?_
            have hcv : b = wc j kz := by
              rw [← hcd]
              first
              | rw [if_pos (by omega)]
              | (rw [if_neg (by omega), if_pos (by omega)])
              | (rw [if_neg (by omega), if_neg (by omega), if_pos (by omega)])
              | (rw [if_neg (by omega), if_neg (by omega), if_neg (by omega), if_pos (by omega)])
              | (rw [if_neg (by omega), if_neg (by omega), if_neg (by omega), if_neg (by omega), if_pos (by omega)])
              | (rw [if_neg (by omega), if_neg (by omega), if_neg (by omega), if_neg (by omega), if_neg (by omega)])
            refine z_icmp_ne (tgt := 102) dX8_isWord_95 (by decide) (fun c23 => ?_) (fun c23 => ?_)
            · refine z_iconst dX8_isWord_102 ⟨by decide, by decide⟩ ?_
              refine z_istore (loc2 := [fr 60, fi many, fi a, fi b, fi c, fi d, fi e, fi f, fi 0, fi kz]) dX8_isWord_103 (by decide) rfl ?_
              refine z_iinc (loc2 := fun vq => [fr 60, fi many, fi a, fi b, fi c, fi d, fi e, fi f, fi 0, fi vq]) dX8_isWord_105 rfl (by decide) (by omega) (fun _ => rfl) (fun x24 hx24 => ?_)
              refine z_goto (tgt := 18) dX8_isWord_108 (by decide) ?_
              have hgo : ((0 : Int) = 1 ∧ M 60 40 = wl j ∧ ∀ i, 0 ≤ i → i < kz + 1 → M 85 (M 60 39 + i) = wc j i) ∨ ((0 : Int) = 0 ∧ ¬ isW (tm M) (M 60 35) (M 60 39) j) := by
                rcases hs with z | z
                · first
                  | (refine Or.inl ⟨rfl, z.2.1, fun i i0 i1 => ?_⟩
                     by_cases e : i = kz
                     · rw [e]; omega
                     · exact z.2.2 i i0 (by omega))
                  | (refine Or.inr ⟨rfl, fun y => ?_⟩
                     have y1 := (y.1 kz hk.1 (by omega)).2
                     have y2 : M 85 (M 60 39 + kz) = wc j kz := y1
                     omega)
                · exfalso; omega
              exact ih18 _ (by omega) 0 x24 rfl (by omega) (by rw [hx24]; exact hgo)
            · refine z_iconst dX8_isWord_98 ⟨by decide, by decide⟩ ?_
              refine z_goto (tgt := 103) dX8_isWord_99 (by decide) ?_
              refine z_istore (loc2 := [fr 60, fi many, fi a, fi b, fi c, fi d, fi e, fi f, fi 1, fi kz]) dX8_isWord_103 (by decide) rfl ?_
              refine z_iinc (loc2 := fun vq => [fr 60, fi many, fi a, fi b, fi c, fi d, fi e, fi f, fi 1, fi vq]) dX8_isWord_105 rfl (by decide) (by omega) (fun _ => rfl) (fun x25 hx25 => ?_)
              refine z_goto (tgt := 18) dX8_isWord_108 (by decide) ?_
              have hgo : ((1 : Int) = 1 ∧ M 60 40 = wl j ∧ ∀ i, 0 ≤ i → i < kz + 1 → M 85 (M 60 39 + i) = wc j i) ∨ ((1 : Int) = 0 ∧ ¬ isW (tm M) (M 60 35) (M 60 39) j) := by
                rcases hs with z | z
                · first
                  | (refine Or.inl ⟨rfl, z.2.1, fun i i0 i1 => ?_⟩
                     by_cases e : i = kz
                     · rw [e]; omega
                     · exact z.2.2 i i0 (by omega))
                  | (refine Or.inr ⟨rfl, fun y => ?_⟩
                     have y1 := (y.1 kz hk.1 (by omega)).2
                     have y2 : M 85 (M 60 39 + kz) = wc j kz := y1
                     omega)
                · exfalso; omega
              exact ih18 _ (by omega) 1 x25 rfl (by omega) (by rw [hx25]; exact hgo)
        · refine z_iload_n dX8_isWord_46 rfl ?_
          refine z_goto (tgt := 95) dX8_isWord_47 (by decide) ?_
          have hcv : a = wc j kz := by
            rw [← hcd]
            first
            | rw [if_pos (by omega)]
            | (rw [if_neg (by omega), if_pos (by omega)])
            | (rw [if_neg (by omega), if_neg (by omega), if_pos (by omega)])
            | (rw [if_neg (by omega), if_neg (by omega), if_neg (by omega), if_pos (by omega)])
            | (rw [if_neg (by omega), if_neg (by omega), if_neg (by omega), if_neg (by omega), if_pos (by omega)])
            | (rw [if_neg (by omega), if_neg (by omega), if_neg (by omega), if_neg (by omega), if_neg (by omega)])
          refine z_icmp_ne (tgt := 102) dX8_isWord_95 (by decide) (fun c26 => ?_) (fun c26 => ?_)
          · refine z_iconst dX8_isWord_102 ⟨by decide, by decide⟩ ?_
            refine z_istore (loc2 := [fr 60, fi many, fi a, fi b, fi c, fi d, fi e, fi f, fi 0, fi kz]) dX8_isWord_103 (by decide) rfl ?_
            refine z_iinc (loc2 := fun vq => [fr 60, fi many, fi a, fi b, fi c, fi d, fi e, fi f, fi 0, fi vq]) dX8_isWord_105 rfl (by decide) (by omega) (fun _ => rfl) (fun x27 hx27 => ?_)
            refine z_goto (tgt := 18) dX8_isWord_108 (by decide) ?_
            have hgo : ((0 : Int) = 1 ∧ M 60 40 = wl j ∧ ∀ i, 0 ≤ i → i < kz + 1 → M 85 (M 60 39 + i) = wc j i) ∨ ((0 : Int) = 0 ∧ ¬ isW (tm M) (M 60 35) (M 60 39) j) := by
              rcases hs with z | z
              · first
                | (refine Or.inl ⟨rfl, z.2.1, fun i i0 i1 => ?_⟩
                   by_cases e : i = kz
                   · rw [e]; omega
                   · exact z.2.2 i i0 (by omega))
                | (refine Or.inr ⟨rfl, fun y => ?_⟩
                   have y1 := (y.1 kz hk.1 (by omega)).2
                   have y2 : M 85 (M 60 39 + kz) = wc j kz := y1
                   omega)
              · exfalso; omega
            exact ih18 _ (by omega) 0 x27 rfl (by omega) (by rw [hx27]; exact hgo)
          · refine z_iconst dX8_isWord_98 ⟨by decide, by decide⟩ ?_
            refine z_goto (tgt := 103) dX8_isWord_99 (by decide) ?_
            refine z_istore (loc2 := [fr 60, fi many, fi a, fi b, fi c, fi d, fi e, fi f, fi 1, fi kz]) dX8_isWord_103 (by decide) rfl ?_
            refine z_iinc (loc2 := fun vq => [fr 60, fi many, fi a, fi b, fi c, fi d, fi e, fi f, fi 1, fi vq]) dX8_isWord_105 rfl (by decide) (by omega) (fun _ => rfl) (fun x28 hx28 => ?_)
            refine z_goto (tgt := 18) dX8_isWord_108 (by decide) ?_
            have hgo : ((1 : Int) = 1 ∧ M 60 40 = wl j ∧ ∀ i, 0 ≤ i → i < kz + 1 → M 85 (M 60 39 + i) = wc j i) ∨ ((1 : Int) = 0 ∧ ¬ isW (tm M) (M 60 35) (M 60 39) j) := by
              rcases hs with z | z
              · first
                | (refine Or.inl ⟨rfl, z.2.1, fun i i0 i1 => ?_⟩
                   by_cases e : i = kz
                   · rw [e]; omega
                   · exact z.2.2 i i0 (by omega))
                | (refine Or.inr ⟨rfl, fun y => ?_⟩
                   have y1 := (y.1 kz hk.1 (by omega)).2
                   have y2 : M 85 (M 60 39 + kz) = wc j kz := y1
                   omega)
              · exfalso; omega
            exact ih18 _ (by omega) 1 x28 rfl (by omega) (by rw [hx28]; exact hgo)
  refine z_aload_nr dX8_isWord_0 rfl ?_
  refine z_geti (kz := 40) fl_X8_219 rfl (by decide) rfl dX8_isWord_1 (fun x29 hx29 bx29 => ?_)
  refine z_iload_n dX8_isWord_4 rfl ?_
  refine z_icmp_ne (tgt := 12) dX8_isWord_5 (by decide) (fun c30 => ?_) (fun c30 => ?_)
  · refine z_iconst dX8_isWord_12 ⟨by decide, by decide⟩ ?_
    refine z_istore (loc2 := [fr 60, fi many, fi a, fi b, fi c, fi d, fi e, fi f, fi 0, fu]) dX8_isWord_13 (by decide) rfl ?_
    refine z_iconst dX8_isWord_15 ⟨by decide, by decide⟩ ?_
    refine z_istore (loc2 := [fr 60, fi many, fi a, fi b, fi c, fi d, fi e, fi f, fi 0, fi 0]) dX8_isWord_16 (by decide) rfl ?_
    exact lp18 _ 0 0 rfl (by omega) (by
      first
      | exact Or.inl ⟨rfl, by omega, fun i a b => by omega⟩
      | exact Or.inr ⟨rfl, fun z => by have := hrun z; omega⟩)
  · refine z_iconst dX8_isWord_8 ⟨by decide, by decide⟩ ?_
    refine z_goto (tgt := 13) dX8_isWord_9 (by decide) ?_
    refine z_istore (loc2 := [fr 60, fi many, fi a, fi b, fi c, fi d, fi e, fi f, fi 1, fu]) dX8_isWord_13 (by decide) rfl ?_
    refine z_iconst dX8_isWord_15 ⟨by decide, by decide⟩ ?_
    refine z_istore (loc2 := [fr 60, fi many, fi a, fi b, fi c, fi d, fi e, fi f, fi 1, fi 0]) dX8_isWord_16 (by decide) rfl ?_
    exact lp18 _ 1 0 rfl (by omega) (by
      first
      | exact Or.inl ⟨rfl, by omega, fun i a b => by omega⟩
      | exact Or.inr ⟨rfl, fun z => by have := hrun z; omega⟩)
