/-! ===== the reader of the class: bytes, words, numbers ===== -/
theorem st_self {M : FMem} {a : Nat} {i v : Int} (h : M a i = v) : st M a i v = M := by
  funext b j
  unfold st
  split
  · rename_i e; rw [e.1, e.2, h]
  · rfl
abbrev tx (M : FMem) : Int → Int := fun i => M 18 i
def offR (M0 M : FMem) : Prop := ∀ b j, ¬ (b = 17 ∧ (j = 2 ∨ j = 3 ∨ j = 4 ∨ j = 6)) → b ≠ 19 → M b j = M0 b j
def Rs (M0 : FMem) (s : PS) (M : FMem) : Prop := offR M0 M ∧ (s.1.1 = 0 → M 17 4 = s.1.2.2 ∧ M 17 2 = 0 ∧ M 17 3 = -1 ∧ M 17 6 = s.2.1 ∧ ∀ k, 0 ≤ k → k < s.2.1 → M 19 k = s.2.2 k) ∧ (s.1.1 ≠ 0 → M 17 2 = s.1.1 ∧ M 17 3 = s.1.2.1)
theorem offR_tx {M0 M : FMem} (h : offR M0 M) : tx M = tx M0 ∧ M 17 1 = M0 17 1 := ⟨funext fun i => h 18 i (by omega) (by decide), h 17 1 (by omega) (by decide)⟩
theorem offR_rfl (M : FMem) : offR M M := fun _ _ _ _ => rfl
theorem offR_tr {M0 M1 M2 : FMem} (h : offR M0 M1) (h2 : offR M1 M2) : offR M0 M2 := fun b j p q => (h2 b j p q).trans (h b j p q)
theorem offR_st {M0 M : FMem} {i v : Int} (h : offR M0 M) (hi : i = 2 ∨ i = 3 ∨ i = 4 ∨ i = 6) : offR M0 (st M 17 i v) := fun b j p q => by
  unfold st
  rw [if_neg (by rintro ⟨a, b⟩; exact p ⟨a, b ▸ hi⟩)]
  exact h b j p q
theorem offR_nu {M0 M : FMem} {i v : Int} (h : offR M0 M) : offR M0 (st M 19 i v) := fun b j p q => by
  rw [st_cell q]
  exact h b j p q
set_option maxHeartbeats 400000 in
theorem A_X2_isFigure (l : Launch) (g : Cx) (M : FMem) (b : Int) : AMi l g true fi_X2_isFigure [fi b] 93 M (fun r M2 => M2 = M ∧ (fun r => r = if 48 ≤ b ∧ b ≤ 57 then 1 else 0) r) := by
  refine AMi_intro [fi b] (by decide) (knall rfl) (Nat.le_of_ble_eq_true rfl) rfl ?_
  intro hNV hM0 μ
  have bb : N32 b := hNV (fi b) (by simp)
  refine z_iload_n dX2_isFigure_0 rfl ?_
  refine z_bipush dX2_isFigure_1 ⟨by decide, by decide⟩ (by decide) ?_
  refine z_icmp_lt (tgt := 16) dX2_isFigure_3 (by decide) (fun c1 => ?_) (fun c1 => ?_)
  · refine z_iconst dX2_isFigure_16 ⟨by decide, by decide⟩ ?_
    refine z_zret rfl (by omega) (by decide) rfl (Nat.sub_self _) dX2_isFigure_17 ?_
    refine ⟨rfl, ?_⟩
    first | rw [if_pos (by omega)] | rw [if_neg (by omega)]
  · refine z_iload_n dX2_isFigure_6 rfl ?_
    refine z_bipush dX2_isFigure_7 ⟨by decide, by decide⟩ (by decide) ?_
    refine z_icmp_gt (tgt := 16) dX2_isFigure_9 (by decide) (fun c2 => ?_) (fun c2 => ?_)
    · refine z_iconst dX2_isFigure_16 ⟨by decide, by decide⟩ ?_
      refine z_zret rfl (by omega) (by decide) rfl (Nat.sub_self _) dX2_isFigure_17 ?_
      refine ⟨rfl, ?_⟩
      first | rw [if_pos (by omega)] | rw [if_neg (by omega)]
    · refine z_iconst dX2_isFigure_12 ⟨by decide, by decide⟩ ?_
      refine z_goto (tgt := 17) dX2_isFigure_13 (by decide) ?_
      refine z_zret rfl (by omega) (by decide) rfl (Nat.sub_self _) dX2_isFigure_17 ?_
      refine ⟨rfl, ?_⟩
      first | rw [if_pos (by omega)] | rw [if_neg (by omega)]
set_option maxHeartbeats 400000 in
theorem A_X2_isLetter (l : Launch) (g : Cx) (M : FMem) (b : Int) : AMi l g true fi_X2_isLetter [fi b] 93 M (fun r M2 => M2 = M ∧ (fun r => r = if 97 ≤ b ∧ b ≤ 122 then 1 else 0) r) := by
  refine AMi_intro [fi b] (by decide) (knall rfl) (Nat.le_of_ble_eq_true rfl) rfl ?_
  intro hNV hM0 μ
  have bb : N32 b := hNV (fi b) (by simp)
  refine z_iload_n dX2_isLetter_0 rfl ?_
  refine z_bipush dX2_isLetter_1 ⟨by decide, by decide⟩ (by decide) ?_
  refine z_icmp_lt (tgt := 16) dX2_isLetter_3 (by decide) (fun c1 => ?_) (fun c1 => ?_)
  · refine z_iconst dX2_isLetter_16 ⟨by decide, by decide⟩ ?_
    refine z_zret rfl (by omega) (by decide) rfl (Nat.sub_self _) dX2_isLetter_17 ?_
    refine ⟨rfl, ?_⟩
    first | rw [if_pos (by omega)] | rw [if_neg (by omega)]
  · refine z_iload_n dX2_isLetter_6 rfl ?_
    refine z_bipush dX2_isLetter_7 ⟨by decide, by decide⟩ (by decide) ?_
    refine z_icmp_gt (tgt := 16) dX2_isLetter_9 (by decide) (fun c2 => ?_) (fun c2 => ?_)
    · refine z_iconst dX2_isLetter_16 ⟨by decide, by decide⟩ ?_
      refine z_zret rfl (by omega) (by decide) rfl (Nat.sub_self _) dX2_isLetter_17 ?_
      refine ⟨rfl, ?_⟩
      first | rw [if_pos (by omega)] | rw [if_neg (by omega)]
    · refine z_iconst dX2_isLetter_12 ⟨by decide, by decide⟩ ?_
      refine z_goto (tgt := 17) dX2_isLetter_13 (by decide) ?_
      refine z_zret rfl (by omega) (by decide) rfl (Nat.sub_self _) dX2_isLetter_17 ?_
      refine ⟨rfl, ?_⟩
      first | rw [if_pos (by omega)] | rw [if_neg (by omega)]
set_option maxHeartbeats 400000 in
theorem A_X2_fail (l : Launch) (g : Cx) (M : FMem) (num place : Int) : AMi l g true fi_X2_fail [fr 17, fi num, fi place] 93 M (fun r M2 => r = 0 ∧ M2 = st (st M 17 2 num) 17 3 place) := by
  refine AMi_intro [fr 17, fi num, fi place] (by decide) (knall rfl) (Nat.le_of_ble_eq_true rfl) rfl ?_
  intro hNV hM0 μ
  have bnum : N32 num := hNV (fi num) (by simp)
  have bplace : N32 place := hNV (fi place) (by simp)
  refine z_aload_nr dX2_fail_0 rfl ?_
  refine z_iload_n dX2_fail_1 rfl ?_
  refine z_puti (kz := 2) fl_X2_19 rfl (by decide) rfl nr_17_2 dX2_fail_2 (fun Mz1 hMz1 => ?_)
  refine z_aload_nr dX2_fail_5 rfl ?_
  refine z_iload_n dX2_fail_6 rfl ?_
  refine z_puti (kz := 3) fl_X2_22 rfl (by decide) rfl nr_17_3 dX2_fail_7 (fun Mz2 hMz2 => ?_)
  refine z_iconst dX2_fail_10 ⟨by decide, by decide⟩ ?_
  refine z_zret rfl (by omega) (by decide) rfl (Nat.sub_self _) dX2_fail_11 ?_
  subst_vars
  exact ⟨rfl, rfl⟩
set_option maxHeartbeats 400000 in
theorem A_X2_byteAt (l : Launch) (g : Cx) (M : FMem) (place : Int) (hn : M 17 1 ≤ 240) : AMi l g true fi_X2_byteAt [fr 17, fi place] 93 M (fun r M2 => M2 = M ∧ (fun r => r = if 0 ≤ place ∧ place < M 17 1 then M 18 place else -1) r) := by
  refine AMi_intro [fr 17, fi place] (by decide) (knall rfl) (Nat.le_of_ble_eq_true rfl) rfl ?_
  intro hNV hM0 μ
  have bplace : N32 place := hNV (fi place) (by simp)
  refine z_iload_n dX2_byteAt_0 rfl ?_
  refine z_if_lt (tgt := 21) dX2_byteAt_1 (by decide) (fun c1 => ?_) (fun c1 => ?_)
  · refine z_iconst dX2_byteAt_21 ⟨by decide, by decide⟩ ?_
    refine z_iret rfl (by decide) rfl (Nat.sub_self _) dX2_byteAt_22 ?_
    refine ⟨rfl, ?_⟩
    first | (rw [if_pos (by omega)]; assumption) | rw [if_neg (by omega)]
  · refine z_iload_n dX2_byteAt_4 rfl ?_
    refine z_aload_nr dX2_byteAt_5 rfl ?_
    refine z_geti (kz := 1) fl_X2_15 rfl (by decide) rfl dX2_byteAt_6 (fun x2 hx2 bx2 => ?_)
    refine z_icmp_ge (tgt := 21) dX2_byteAt_9 (by decide) (fun c3 => ?_) (fun c3 => ?_)
    · refine z_iconst dX2_byteAt_21 ⟨by decide, by decide⟩ ?_
      refine z_iret rfl (by decide) rfl (Nat.sub_self _) dX2_byteAt_22 ?_
      refine ⟨rfl, ?_⟩
      first | (rw [if_pos (by omega)]; assumption) | rw [if_neg (by omega)]
    · refine z_aload_nr dX2_byteAt_12 rfl ?_
      refine z_getr (b := 18) fl_X2_11 rfl (by decide) rf_17_0 rfl dX2_byteAt_13 ?_
      refine z_iload_n dX2_byteAt_16 rfl ?_
      refine z_iald rfl (by decide) (by omega) (by omega) dX2_byteAt_17 (fun x4 hx4 bx4 => ?_)
      refine z_goto (tgt := 22) dX2_byteAt_18 (by decide) ?_
      refine z_iret rfl (by decide) rfl (Nat.sub_self _) dX2_byteAt_22 ?_
      refine ⟨rfl, ?_⟩
      first | (rw [if_pos (by omega)]; assumption) | rw [if_neg (by omega)]
set_option maxHeartbeats 400000 in
theorem A_X2_skipBlanks (l : Launch) (g : Cx) (M : FMem) (h0 : 0 ≤ M 17 4) (hn : M 17 1 ≤ 240) : AMv l g true fi_X2_skipBlanks [fr 17] 93 M (fun M2 => M2 = st M 17 4 (sk (tx M) (M 17 1) (M 17 4))) := by
  refine AMv_intro [fr 17] (by decide) (knall rfl) (Nat.le_of_ble_eq_true rfl) rfl ?_
  intro hNV hM0 μ
  have lp0 : ∀ (kq : Nat) (pz : Int) (M1 : FMem), (240 - pz).toNat = kq → (0 ≤ pz) → (M1 = st M 17 4 pz) → (sk (tx M) (M 17 1) pz = sk (tx M) (M 17 1) (M 17 4)) → Wa l g true fi_X2_skipBlanks 93 μ (Zv g true fi_X2_skipBlanks 93 μ (fun M2 => M2 = st M 17 4 (sk (tx M) (M 17 1) (M 17 4)))) 0 [] [fr 17] 93 M1 := by
    intro kq
    induction kq using Nat.strongRecOn with
    | _ kq ih0 =>
    intro pz M1 hk0 h1 h2 h3
    have e1 : M1 17 4 = pz := by rw [h2]; exact st_same _ _ _ _
    have e2 : M1 17 1 = M 17 1 := by rw [h2, st_at, if_neg (by decide)]
    have e3 : M1 18 pz = M 18 pz := by rw [h2, st_cell (by decide)]
    refine z_aload_nr dX2_skipBlanks_0 rfl ?_
    refine z_geti (kz := 4) fl_X2_25 rfl (by decide) rfl dX2_skipBlanks_1 (fun x1 hx1 bx1 => ?_)
    refine z_aload_nr dX2_skipBlanks_4 rfl ?_
    refine z_geti (kz := 1) fl_X2_15 rfl (by decide) rfl dX2_skipBlanks_5 (fun x2 hx2 bx2 => ?_)
    refine z_icmp_ge (tgt := 38) dX2_skipBlanks_8 (by decide) (fun c3 => ?_) (fun c3 => ?_)
    · refine z_vret rfl (by decide) rfl (Nat.sub_self _) dX2_skipBlanks_38 ?_
      rw [← h3, h2]
      congr 1
      exact (rn_no (fun z => by have hq := isB_i.mp z.2; have hq2 : M 18 pz = 32 := hq; omega)).symm
    · refine z_aload_nr dX2_skipBlanks_11 rfl ?_
      refine z_getr (b := 18) fl_X2_11 rfl (by decide) rf_17_0 rfl dX2_skipBlanks_12 ?_
      refine z_aload_nr dX2_skipBlanks_15 rfl ?_
      refine z_geti (kz := 4) fl_X2_25 rfl (by decide) rfl dX2_skipBlanks_16 (fun x4 hx4 bx4 => ?_)
      have ep : x4 = pz := by omega
      refine z_iald rfl (by decide) (by omega) (by omega) dX2_skipBlanks_19 (fun x5 hx5 bx5 => ?_)
      have hb20 : x5 = M 18 pz := by rw [hx5, ep, e3]
      refine z_bipush dX2_skipBlanks_20 ⟨by decide, by decide⟩ (by decide) ?_
      refine z_icmp_ne (tgt := 38) dX2_skipBlanks_22 (by decide) (fun c6 => ?_) (fun c6 => ?_)
      · refine z_vret rfl (by decide) rfl (Nat.sub_self _) dX2_skipBlanks_38 ?_
        rw [← h3, h2]
        congr 1
        exact (rn_no (fun z => by have hq := isB_i.mp z.2; have hq2 : M 18 pz = 32 := hq; omega)).symm
      · refine z_aload_nr dX2_skipBlanks_25 rfl ?_
        refine z_dup rfl dX2_skipBlanks_26 ?_
        refine z_geti (kz := 4) fl_X2_25 rfl (by decide) rfl dX2_skipBlanks_27 (fun x7 hx7 bx7 => ?_)
        refine z_iconst dX2_skipBlanks_30 ⟨by decide, by decide⟩ ?_
        first | refine z_iaddN dX2_skipBlanks_31 (by omega) (fun x8 hx8 => ?_) | refine z_iadd dX2_skipBlanks_31 (fun x8 hx8 => ?_)
        refine z_puti (kz := 4) fl_X2_25 rfl (by decide) rfl nr_17_4 dX2_skipBlanks_32 (fun Mz9 hMz9 => ?_)
        refine z_goto (tgt := 0) dX2_skipBlanks_35 (by decide) ?_
        exact ih0 _ (by omega) (pz + 1) Mz9 rfl (by omega) (by rw [hMz9, h2, st_st]; congr 1; omega) (by rw [← h3]; exact (rn_go (by omega) (isB_i.mpr (by show M 18 pz = 32; omega))).symm)
  exact lp0 _ (M 17 4) M rfl (h0) ((st_self rfl).symm) (rfl)
set_option maxHeartbeats 400000 in
theorem A_X2_latest (l : Launch) (g : Cx) (M : FMem) (h0 : 0 < M 17 6 ∧ M 17 6 ≤ 5) : AMi l g true fi_X2_latest [fr 17] 93 M (fun r M2 => M2 = M ∧ (fun r => r = M 19 (M 17 6 - 1)) r) := by
  refine AMi_intro [fr 17] (by decide) (knall rfl) (Nat.le_of_ble_eq_true rfl) rfl ?_
  intro hNV hM0 μ
  refine z_aload_nr dX2_latest_0 rfl ?_
  refine z_geti (kz := 6) fl_X2_31 rfl (by decide) rfl dX2_latest_1 (fun x1 hx1 bx1 => ?_)
  refine z_if_le (tgt := 21) dX2_latest_4 (by decide) (fun c2 => ?_) (fun c2 => ?_)
  · omega
  · refine z_aload_nr dX2_latest_7 rfl ?_
    refine z_getr (b := 19) fl_X2_28 rfl (by decide) rf_17_5 rfl dX2_latest_8 ?_
    refine z_aload_nr dX2_latest_11 rfl ?_
    refine z_geti (kz := 6) fl_X2_31 rfl (by decide) rfl dX2_latest_12 (fun x3 hx3 bx3 => ?_)
    refine z_iconst dX2_latest_15 ⟨by decide, by decide⟩ ?_
    first | refine z_isubN dX2_latest_16 (by omega) (fun x4 hx4 => ?_) | refine z_isub dX2_latest_16 (fun x4 hx4 => ?_)
    have ep : x4 = M 17 6 - 1 := by omega
    refine z_iald rfl (by decide) (by omega) (by omega) dX2_latest_17 (fun x5 hx5 bx5 => ?_)
    have hb18 := hx5
    rw [ep] at hb18
    refine z_goto (tgt := 22) dX2_latest_18 (by decide) ?_
    refine z_iret rfl (by decide) rfl (Nat.sub_self _) dX2_latest_22 ?_
    exact ⟨rfl, hb18⟩
set_option maxHeartbeats 400000 in
theorem A_X2_keep (l : Launch) (g : Cx) (M : FMem) (v : Int) (h0 : 0 ≤ M 17 6 ∧ M 17 6 < 5) : AMv l g true fi_X2_keep [fr 17, fi v] 93 M (fun M2 => M2 = st (st M 19 (M 17 6) v) 17 6 (M 17 6 + 1)) := by
  refine AMv_intro [fr 17, fi v] (by decide) (knall rfl) (Nat.le_of_ble_eq_true rfl) rfl ?_
  intro hNV hM0 μ
  have bv : N32 v := hNV (fi v) (by simp)
  refine z_aload_nr dX2_keep_0 rfl ?_
  refine z_geti (kz := 6) fl_X2_31 rfl (by decide) rfl dX2_keep_1 (fun x1 hx1 bx1 => ?_)
  refine z_iconst dX2_keep_4 ⟨by decide, by decide⟩ ?_
  refine z_icmp_ge (tgt := 28) dX2_keep_5 (by decide) (fun c2 => ?_) (fun c2 => ?_)
  · omega
  · refine z_aload_nr dX2_keep_8 rfl ?_
    refine z_getr (b := 19) fl_X2_28 rfl (by decide) rf_17_5 rfl dX2_keep_9 ?_
    refine z_aload_nr dX2_keep_12 rfl ?_
    refine z_geti (kz := 6) fl_X2_31 rfl (by decide) rfl dX2_keep_13 (fun x3 hx3 bx3 => ?_)
    refine z_iload_n dX2_keep_16 rfl ?_
    refine z_iast rfl (by decide) (by omega) (by omega) dX2_keep_17 (fun Mz4 hMz4 => ?_)
    refine z_aload_nr dX2_keep_18 rfl ?_
    refine z_dup rfl dX2_keep_19 ?_
    refine z_geti (kz := 6) fl_X2_31 rfl (by decide) rfl dX2_keep_20 (fun x5 hx5 bx5 => ?_)
    rw [hMz4, st_cell (by decide)] at hx5
    refine z_iconst dX2_keep_23 ⟨by decide, by decide⟩ ?_
    first | refine z_iaddN dX2_keep_24 (by omega) (fun x6 hx6 => ?_) | refine z_iadd dX2_keep_24 (fun x6 hx6 => ?_)
    refine z_puti (kz := 6) fl_X2_31 rfl (by decide) rfl nr_17_6 dX2_keep_25 (fun Mz7 hMz7 => ?_)
    refine z_vret rfl (by decide) rfl (Nat.sub_self _) dX2_keep_28 ?_
    subst_vars
    congr 1
set_option maxHeartbeats 400000 in
theorem A_X2_isWord (l : Launch) (g : Cx) (M : FMem) (j : Nat) (hj : j < 11) (h0 : 0 ≤ M 17 4 ∧ M 17 4 ≤ 240) (hn : M 17 1 ≤ 240) : AMi l g true fi_X2_isWord [fr 17, fe (2 + j)] 93 M (fun r M2 => M2 = M ∧ (fun r => (r = 1 ∧ isW (tx M) (M 17 1) (M 17 4) j) ∨ (r = 0 ∧ ¬ isW (tx M) (M 17 1) (M 17 4) j)) r) := by
  refine AMi_intro [fr 17, fe (2 + j), fu] (by decide) (knall rfl) (Nat.le_of_ble_eq_true rfl) rfl ?_
  intro hNV hM0 μ
  have hwl := wl_b hj
  have lp2 : ∀ (kq : Nat) (k : Int), (6 - k).toNat = kq → (0 ≤ k ∧ k ≤ wl j) → (∀ i, 0 ≤ i → i < k → M 17 4 + i < M 17 1 ∧ M 18 (M 17 4 + i) = wc j i) → Wa l g true fi_X2_isWord 93 μ (Zi g true fi_X2_isWord 93 μ (fun r M2 => M2 = M ∧ (fun r => (r = 1 ∧ isW (tx M) (M 17 1) (M 17 4) j) ∨ (r = 0 ∧ ¬ isW (tx M) (M 17 1) (M 17 4) j)) r)) 2 [] [fr 17, fe (2 + j), fi k] 93 M := by
    intro kq
    induction kq using Nat.strongRecOn with
    | _ kq ih2 =>
    intro k hk2 h1 h2
    refine z_iload_n dX2_isWord_2 rfl ?_
    refine z_aload_ne dX2_isWord_3 rfl ?_
    refine z_callEip (n2 := 93) (A_J0_length_8abf5 l g M j (hj)) cb_J0_length_8abf5 cl_X2_145 (clr0 rfl rfl (by decide) (by decide)) (hj) rfl rfl (by decide) rfl (Nat.le_of_ble_eq_true rfl) rfl dX2_isWord_4 (fun x1 bx1 hx1 => ?_)
    refine z_icmp_ge (tgt := 36) dX2_isWord_7 (by decide) (fun c2 => ?_) (fun c2 => ?_)
    · refine z_aload_nr dX2_isWord_36 rfl ?_
      refine z_aload_nr dX2_isWord_37 rfl ?_
      refine z_geti (kz := 4) fl_X2_25 rfl (by decide) rfl dX2_isWord_38 (fun x3 hx3 bx3 => ?_)
      refine z_aload_ne dX2_isWord_41 rfl ?_
      refine z_callEip (n2 := 93) (A_J0_length_8abf5 l g M j (hj)) cb_J0_length_8abf5 cl_X2_145 (clr0 rfl rfl (by decide) (by decide)) (hj) rfl rfl (by decide) rfl (Nat.le_of_ble_eq_true rfl) rfl dX2_isWord_42 (fun x4 bx4 hx4 => ?_)
      first | refine z_iaddN dX2_isWord_45 (by omega) (fun x5 hx5 => ?_) | refine z_iadd dX2_isWord_45 (fun x5 hx5 => ?_)
      have hpe : x5 = M 17 4 + wl j := by omega
      refine z_callVip (n2 := 93) (A_X2_byteAt l g M x5 (hn)) cb_X2_byteAt cl_X2_141 (clr0 rfl rfl (by decide) (by decide)) rfl (by decide) ⟨_, rfl, rfl⟩ rfl (by decide) rfl (Nat.le_of_ble_eq_true rfl) rfl dX2_isWord_46 (fun x6 bx6 hx6 => ?_)
      have hbe := hx6
      refine z_callSip (n2 := 93) (A_X2_isLetter l g M x6) cb_X2_isLetter cl_X2_153 (clr0 rfl rfl (by decide) (by decide)) rfl (by decide) rfl (Nat.le_of_ble_eq_true rfl) rfl dX2_isWord_49 (fun x7 bx7 hx7 => ?_)
      have i7 := if01 hx7
      refine z_if_ne (tgt := 59) dX2_isWord_52 (by decide) (fun c8 => ?_) (fun c8 => ?_)
      · refine z_iconst dX2_isWord_59 ⟨by decide, by decide⟩ ?_
        refine z_zret rfl (by omega) (by decide) rfl (Nat.sub_self _) dX2_isWord_60 ?_
        refine ⟨rfl, ?_⟩
        rw [hpe] at hbe
        have hkw : k = wl j := by omega
        subst hkw
        first
        | (refine Or.inl ⟨rfl, h2, fun z => ?_⟩
           rw [if_pos (by omega)] at hbe
           have z2 : 97 ≤ M 18 (M 17 4 + wl j) ∧ M 18 (M 17 4 + wl j) ≤ 122 := z.2
           omega)
        | (refine Or.inr ⟨rfl, fun z => z.2 ?_⟩
           show M 17 4 + wl j < M 17 1 ∧ 97 ≤ M 18 (M 17 4 + wl j) ∧ M 18 (M 17 4 + wl j) ≤ 122
           split at hbe <;> omega)
      · refine z_iconst dX2_isWord_55 ⟨by decide, by decide⟩ ?_
        refine z_goto (tgt := 60) dX2_isWord_56 (by decide) ?_
        refine z_zret rfl (by omega) (by decide) rfl (Nat.sub_self _) dX2_isWord_60 ?_
        refine ⟨rfl, ?_⟩
        rw [hpe] at hbe
        have hkw : k = wl j := by omega
        subst hkw
        first
        | (refine Or.inl ⟨rfl, h2, fun z => ?_⟩
           rw [if_pos (by omega)] at hbe
           have z2 : 97 ≤ M 18 (M 17 4 + wl j) ∧ M 18 (M 17 4 + wl j) ≤ 122 := z.2
           omega)
        | (refine Or.inr ⟨rfl, fun z => z.2 ?_⟩
           show M 17 4 + wl j < M 17 1 ∧ 97 ≤ M 18 (M 17 4 + wl j) ∧ M 18 (M 17 4 + wl j) ≤ 122
           split at hbe <;> omega)
    · refine z_aload_nr dX2_isWord_10 rfl ?_
      refine z_aload_nr dX2_isWord_11 rfl ?_
      refine z_geti (kz := 4) fl_X2_25 rfl (by decide) rfl dX2_isWord_12 (fun x9 hx9 bx9 => ?_)
      refine z_iload_n dX2_isWord_15 rfl ?_
      first | refine z_iaddN dX2_isWord_16 (by omega) (fun x10 hx10 => ?_) | refine z_iadd dX2_isWord_16 (fun x10 hx10 => ?_)
      have hpl : x10 = M 17 4 + k := by omega
      refine z_callVip (n2 := 93) (A_X2_byteAt l g M x10 (hn)) cb_X2_byteAt cl_X2_141 (clr0 rfl rfl (by decide) (by decide)) rfl (by decide) ⟨_, rfl, rfl⟩ rfl (by decide) rfl (Nat.le_of_ble_eq_true rfl) rfl dX2_isWord_17 (fun x11 bx11 hx11 => ?_)
      have hby := hx11
      refine z_aload_ne dX2_isWord_20 rfl ?_
      refine z_iload_n dX2_isWord_21 rfl ?_
      refine z_callEip (n2 := 93) (A_J0_charAt_5068e l g M j (hj) k (by omega) (by omega)) cb_J0_charAt_5068e cl_X2_149 (clr0 rfl rfl (by decide) (by decide)) (hj) rfl rfl (by decide) rfl (Nat.le_of_ble_eq_true rfl) rfl dX2_isWord_22 (fun x12 bx12 hx12 => ?_)
      have hch := hx12
      refine z_icmp_eq (tgt := 30) dX2_isWord_25 (by decide) (fun c13 => ?_) (fun c13 => ?_)
      · refine z_iinc (loc2 := fun vq => [fr 17, fe (2 + j), fi vq]) dX2_isWord_30 rfl (by decide) (by omega) (fun _ => rfl) (fun x14 hx14 => ?_)
        refine z_goto (tgt := 2) dX2_isWord_33 (by decide) ?_
        have hall : ∀ i, 0 ≤ i → i < k + 1 → M 17 4 + i < M 17 1 ∧ M 18 (M 17 4 + i) = wc j i := by
          intro i a b
          by_cases e : i = k
          · subst e
            have hb := wc_b hj h1.1 (by omega)
            rw [hpl] at hby
            split at hby
            · exact ⟨by omega, by omega⟩
            · exfalso; omega
          · exact h2 i a (by omega)
        exact ih2 _ (by omega) x14 rfl (by omega) (by rw [hx14]; exact hall)
      · refine z_iconst dX2_isWord_28 ⟨by decide, by decide⟩ ?_
        refine z_zret rfl (by omega) (by decide) rfl (Nat.sub_self _) dX2_isWord_29 ?_
        refine ⟨rfl, Or.inr ⟨rfl, fun z => ?_⟩⟩
        have hq := z.1 k h1.1 (by omega)
        have hq2 : M 18 (M 17 4 + k) = wc j k := hq.2
        rw [hpl, if_pos (by omega)] at hby
        omega
  refine z_iconst dX2_isWord_0 ⟨by decide, by decide⟩ ?_
  refine z_istore_n (loc2 := [fr 17, fe (2 + j), fi 0]) dX2_isWord_1 (by decide) rfl ?_
  exact lp2 _ 0 rfl (by omega) (fun i a b => by omega)
set_option maxHeartbeats 400000 in
theorem A_X2_tookWord (l : Launch) (g : Cx) (M : FMem) (j : Nat) (hj : j < 11) (h0 : 0 ≤ M 17 4 ∧ M 17 4 ≤ 240) (hn : M 17 1 ≤ 240) : AMi l g true fi_X2_tookWord [fr 17, fe (2 + j)] 93 M (fun r M2 => (r = 1 ∧ isW (tx M) (M 17 1) (M 17 4) j ∧ M2 = st M 17 4 (M 17 4 + wl j)) ∨ (r = 0 ∧ ¬ isW (tx M) (M 17 1) (M 17 4) j ∧ M2 = M)) := by
  refine AMi_intro [fr 17, fe (2 + j)] (by decide) (knall rfl) (Nat.le_of_ble_eq_true rfl) rfl ?_
  intro hNV hM0 μ
  have hwl := wl_b hj
  refine z_aload_nr dX2_tookWord_0 rfl ?_
  refine z_aload_ne dX2_tookWord_1 rfl ?_
  refine z_callVip (n2 := 93) (A_X2_isWord l g M j (hj) (h0) (hn)) cb_X2_isWord cl_X2_52 (clr0 rfl rfl (by decide) (by decide)) rfl (by decide) ⟨_, rfl, rfl⟩ rfl (by decide) rfl (Nat.le_of_ble_eq_true rfl) rfl dX2_tookWord_2 (fun x1 bx1 hx1 => ?_)
  have hw := hx1
  refine z_if_ne (tgt := 10) dX2_tookWord_5 (by decide) (fun c2 => ?_) (fun c2 => ?_)
  · refine z_aload_nr dX2_tookWord_10 rfl ?_
    refine z_dup rfl dX2_tookWord_11 ?_
    refine z_geti (kz := 4) fl_X2_25 rfl (by decide) rfl dX2_tookWord_12 (fun x3 hx3 bx3 => ?_)
    refine z_aload_ne dX2_tookWord_15 rfl ?_
    refine z_callEip (n2 := 93) (A_J0_length_8abf5 l g M j (hj)) cb_J0_length_8abf5 cl_X2_145 (clr0 rfl rfl (by decide) (by decide)) (hj) rfl rfl (by decide) rfl (Nat.le_of_ble_eq_true rfl) rfl dX2_tookWord_16 (fun x4 bx4 hx4 => ?_)
    first | refine z_iaddN dX2_tookWord_19 (by omega) (fun x5 hx5 => ?_) | refine z_iadd dX2_tookWord_19 (fun x5 hx5 => ?_)
    refine z_puti (kz := 4) fl_X2_25 rfl (by decide) rfl nr_17_4 dX2_tookWord_20 (fun Mz6 hMz6 => ?_)
    refine z_iconst dX2_tookWord_23 ⟨by decide, by decide⟩ ?_
    refine z_zret rfl (by omega) (by decide) rfl (Nat.sub_self _) dX2_tookWord_24 ?_
    rcases hw with h | h
    · refine Or.inl ⟨rfl, h.2, ?_⟩
      subst_vars
      rfl
    · exfalso; omega
  · refine z_iconst dX2_tookWord_8 ⟨by decide, by decide⟩ ?_
    refine z_zret rfl (by omega) (by decide) rfl (Nat.sub_self _) dX2_tookWord_9 ?_
    rcases hw with h | h
    · exfalso; omega
    · exact Or.inr ⟨rfl, h.2, rfl⟩
theorem Rs_at {M0 M : FMem} {s s2 : PS} {q : Int} (h : Rs M0 s M) (hf : s.1.1 = 0) (h2 : s2 = ((0, 0, q), s.2)) : Rs M0 s2 (st M 17 4 q) := by
  have h1 := h.2.1 hf
  subst h2
  refine ⟨offR_st h.1 (by omega), fun _ => ⟨st_same _ _ _ _, ?_, ?_, ?_, fun k k0 k1 => ?_⟩, fun z => absurd rfl z⟩
  · rw [st_at, if_neg (by decide)]; exact h1.2.1
  · rw [st_at, if_neg (by decide)]; exact h1.2.2.1
  · rw [st_at, if_neg (by decide)]; exact h1.2.2.2.1
  · rw [st_cell (by decide)]; exact h1.2.2.2.2 k k0 k1
theorem Rs_no {M0 M : FMem} {s2 : PS} {f q : Int} (h : offR M0 M) (hf : f ≠ 0) (h2 : s2.1.1 = f ∧ s2.1.2.1 = q) : Rs M0 s2 (st (st M 17 2 f) 17 3 q) := by
  refine ⟨offR_st (offR_st h (by omega)) (by omega), fun z => absurd (h2.1.symm.trans z) hf, fun _ => ⟨?_, ?_⟩⟩
  · rw [st_at, if_neg (by decide), st_same, h2.1]
  · rw [st_same, h2.2]
set_option maxHeartbeats 400000 in
theorem A_X2_readEnd (l : Launch) (g : Cx) (M : FMem) (M0 : FMem) (s : PS) (hR : Rs M0 s M) (hf : s.1.1 = 0) (hS : SOk (M0 17 1) s) (hn : M0 17 1 ≤ 240) : AMi l g true fi_X2_readEnd [fr 17] 93 M (fun r M2 => Rs M0 (opE (tx M0) (M0 17 1) s) M2 ∧ ((r = 1 ∧ (opE (tx M0) (M0 17 1) s).1.1 = 0) ∨ (r = 0 ∧ (opE (tx M0) (M0 17 1) s).1.1 ≠ 0))) := by
  refine AMi_intro [fr 17] (by decide) (knall rfl) (Nat.le_of_ble_eq_true rfl) rfl ?_
  intro hNV hM0 μ
  have hR1 := hR.2.1 hf
  have hof := offR_tx hR.1
  have hsp := hS hf
  have hsb := sk_b (t := tx M0) hsp.1 hsp.2
  refine z_aload_nr dX2_readEnd_0 rfl ?_
  refine z_callVv (n2 := 93) (A_X2_skipBlanks l g M (by omega) (by omega)) cb_X2_skipBlanks cl_X2_39 (clr0 rfl rfl (by decide) (by decide)) rfl (by decide) ⟨_, rfl, rfl⟩ rfl (by decide) rfl (Nat.le_of_ble_eq_true rfl) rfl dX2_readEnd_1 (fun Mz1 kMz1 hc1 => ?_)
  have hMs := hc1
  rw [hof.1, hof.2, hR1.1] at hMs
  have eat : Mz1 17 4 = sk (tx M0) (M0 17 1) s.1.2.2 := by rw [hMs]; exact st_same _ _ _ _
  have eln : Mz1 17 1 = M0 17 1 := by rw [hMs, st_at, if_neg (by decide)]; exact hof.2
  have etx : ∀ i, Mz1 18 i = M0 18 i := fun i => by rw [hMs, st_cell (by decide)]; exact congrFun hof.1 i
  refine z_aload_nr dX2_readEnd_4 rfl ?_
  refine z_aload_nr dX2_readEnd_5 rfl ?_
  refine z_geti (kz := 4) fl_X2_25 rfl (by decide) rfl dX2_readEnd_6 (fun x2 hx2 bx2 => ?_)
  have epl : x2 = sk (tx M0) (M0 17 1) s.1.2.2 := by omega
  refine z_callVip (n2 := 93) (A_X2_byteAt l g Mz1 x2 (by rw [hMs, st_at, if_neg (by decide)]; omega)) cb_X2_byteAt cl_X2_141 (clr0 rfl rfl (by decide) (by decide)) rfl (by decide) ⟨_, rfl, rfl⟩ rfl (by decide) rfl (Nat.le_of_ble_eq_true rfl) rfl dX2_readEnd_9 (fun x3 bx3 hx3 => ?_)
  have hby := hx3
  rw [epl, eln, etx] at hby
  refine z_bipush dX2_readEnd_12 ⟨by decide, by decide⟩ (by decide) ?_
  refine z_icmp_eq (tgt := 27) dX2_readEnd_14 (by decide) (fun c4 => ?_) (fun c4 => ?_)
  · refine z_aload_nr dX2_readEnd_27 rfl ?_
    refine z_dup rfl dX2_readEnd_28 ?_
    refine z_geti (kz := 4) fl_X2_25 rfl (by decide) rfl dX2_readEnd_29 (fun x5 hx5 bx5 => ?_)
    refine z_iconst dX2_readEnd_32 ⟨by decide, by decide⟩ ?_
    first | refine z_iaddN dX2_readEnd_33 (by omega) (fun x6 hx6 => ?_) | refine z_iadd dX2_readEnd_33 (fun x6 hx6 => ?_)
    refine z_puti (kz := 4) fl_X2_25 rfl (by decide) rfl nr_17_4 dX2_readEnd_34 (fun Mz7 hMz7 => ?_)
    refine z_iconst dX2_readEnd_37 ⟨by decide, by decide⟩ ?_
    refine z_zret rfl (by omega) (by decide) rfl (Nat.sub_self _) dX2_readEnd_38 ?_
    have hop : opE (tx M0) (M0 17 1) s = ((0, 0, sk (tx M0) (M0 17 1) s.1.2.2 + 1), s.2) := by
      unfold opE
      rw [if_pos hf, if_pos]
      split at hby
      · exact ⟨by omega, by show M0 18 (sk (tx M0) (M0 17 1) s.1.2.2) = 59; omega⟩
      · exfalso; omega
    refine ⟨?_, Or.inl ⟨rfl, by rw [hop]⟩⟩
    rw [hop, hMz7, hMs, st_st]
    rw [show Mz1 17 4 = sk (tx M0) (M0 17 1) s.1.2.2 from eat] at *
    exact Rs_at hR hf (by congr 1; congr 1; congr 1; omega)
  · refine z_aload_nr dX2_readEnd_17 rfl ?_
    refine z_iconst dX2_readEnd_18 ⟨by decide, by decide⟩ ?_
    refine z_aload_nr dX2_readEnd_19 rfl ?_
    refine z_geti (kz := 4) fl_X2_25 rfl (by decide) rfl dX2_readEnd_20 (fun x8 hx8 bx8 => ?_)
    have epf : x8 = sk (tx M0) (M0 17 1) s.1.2.2 := by omega
    refine z_callVi (n2 := 93) (A_X2_fail l g Mz1 1 x8) cb_X2_fail cl_X2_64 (clr0 rfl rfl (by decide) (by decide)) rfl (by decide) ⟨_, rfl, rfl⟩ rfl (by decide) rfl (Nat.le_of_ble_eq_true rfl) rfl dX2_readEnd_23 (fun x9 Mz9 bx9 kMz9 hc9 => ?_)
    have hfl := hc9
    refine z_zret rfl (by omega) (by decide) rfl (Nat.sub_self _) dX2_readEnd_26 ?_
    have hop : (opE (tx M0) (M0 17 1) s).1 = (1, sk (tx M0) (M0 17 1) s.1.2.2, 0) := by
      unfold opE
      rw [if_pos hf, if_neg (fun z => by rw [if_pos (by omega)] at hby; have : M0 18 (sk (tx M0) (M0 17 1) s.1.2.2) = 59 := z.2; omega)]
    refine ⟨?_, Or.inr ⟨hfl.1, by rw [hop]; exact (by decide : (1 : Int) ≠ 0)⟩⟩
    rw [hfl.2, hMs, epf]
    exact Rs_no (offR_st hR.1 (by omega)) (by decide) (by rw [hop]; exact ⟨rfl, rfl⟩)
