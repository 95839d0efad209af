/-! ===== Net: what is tried, rings, marks, ends ===== -/
/-- what telling i asks of a row of numbers -/
def TS (M : FMem) (x : Int → Int) (i : Int) : Prop := x (M 24 i) ≤ x (M 23 i) + (M 26 i + M 20 8) ∧ x (M 23 i) ≤ x (M 24 i) + (-(M 25 i) + M 20 8)
theorem TS_edge {M : FMem} {x : Int → Int} {p a b w : Int} (he : EdX M 1 p a b w) (h : TS M x (M 27 (p / 2))) : x b ≤ x a + w := by
  obtain ⟨-, -, he⟩ := he
  rcases he with ⟨-, rfl, rfl, rfl⟩ | ⟨-, rfl, rfl, rfl⟩
  · simpa [onW] using h.1
  · simpa [baW] using h.2
theorem Sat1 {M : FMem} {x : Int → Int} : Sat (EdX M 1) x ↔ ∀ k, 0 ≤ k → k < M 20 7 → TS M x (M 27 k) := by
  constructor
  · intro h k h0 h1
    have a := h (2 * k) _ _ _ ⟨by omega, by omega, Or.inl ⟨by omega, rfl, rfl, rfl⟩⟩
    have b := h (2 * k + 1) _ _ _ ⟨by omega, by omega, Or.inr ⟨by omega, rfl, rfl, rfl⟩⟩
    rw [show 2 * k / 2 = k by omega] at a
    rw [show (2 * k + 1) / 2 = k by omega] at b
    exact ⟨by simpa [onW] using a, by simpa [baW] using b⟩
  · intro h p a b w he
    exact TS_edge he (h (p / 2) (by have := he.1; omega) (by have := he.1; have := he.2.1; omega))
theorem Sat0 {M : FMem} {y : Int → Int} : Sat (EdX M 0) y ↔ Sat (EdX M 1) (fun v => -(y v)) := by
  constructor
  · intro h
    rw [Sat1]
    intro k h0 h1
    have a := h (2 * k) _ _ _ ⟨by omega, by omega, Or.inl ⟨by omega, rfl, rfl, rfl⟩⟩
    have b := h (2 * k + 1) _ _ _ ⟨by omega, by omega, Or.inr ⟨by omega, rfl, rfl, rfl⟩⟩
    rw [show 2 * k / 2 = k by omega] at a
    rw [show (2 * k + 1) / 2 = k by omega] at b
    simp [onW, baW] at a b
    exact ⟨by dsimp only; omega, by dsimp only; omega⟩
  · intro h p a b w he
    have hT := Sat1.mp h (p / 2) (by have := he.1; omega) (by have := he.1; have := he.2.1; omega)
    obtain ⟨-, -, he⟩ := he
    rcases he with ⟨-, rfl, rfl, rfl⟩ | ⟨-, rfl, rfl, rfl⟩
    · have := hT.2; dsimp only at this; simp [onW]; omega
    · have := hT.1; dsimp only at this; simp [baW]; omega
/-- the lower end by the mirrored net -/
theorem Max0 {M : FMem} {a b d : Int} (h : MaxD (Sat (EdX M 0)) a b d) : MaxD (Sat (EdX M 1)) b a d := by
  obtain ⟨h1, y, hy, e⟩ := h
  refine ⟨fun x hx => ?_, _, Sat0.mp hy, by omega⟩
  have := h1 (fun v => -(x v)) (Sat0.mpr (by simpa using hx))
  omega
theorem Free0 {M : FMem} {a b : Int} (h : FreeD (Sat (EdX M 0)) a b) : FreeD (Sat (EdX M 1)) a b := by
  intro B
  obtain ⟨y, hy, e⟩ := h (-B)
  exact ⟨_, Sat0.mp hy, by omega⟩
set_option maxHeartbeats 400000 in
theorem A_X1_widen (l : Launch) (g : Cx) (M : FMem) (w : Int) : AMv l g true fi_X1_widen [fr 20, fi w] 93 M (fun M2 => M2 = st M 20 8 w) := by
  refine AMv_intro [fr 20, fi w] (by decide) (knall rfl) (Nat.le_of_ble_eq_true rfl) rfl ?_
  intro hNV hM0 μ
  have bw : N32 w := hNV (fi w) (by simp)
  refine z_aload_nr dX1_widen_0 rfl ?_
  refine z_iload_n dX1_widen_1 rfl ?_
  refine z_puti (kz := 8) fl_X1_38 rfl (by decide) rfl nr_20_8 dX1_widen_2 (fun Mz1 hMz1 => ?_)
  refine z_vret rfl (by decide) rfl (Nat.sub_self _) dX1_widen_5 ?_
  assumption
set_option maxHeartbeats 400000 in
theorem A_X1_clear (l : Launch) (g : Cx) (M : FMem)  : AMv l g true fi_X1_clear [fr 20] 93 M (fun M2 => (∀ b j, b ≠ 21 → ¬ (b = 20 ∧ j = 8) → M2 b j = M b j) ∧ (∀ i, 0 ≤ i → i < 80 → M2 21 i = 0) ∧ M2 20 8 = 0) := by
  refine AMv_intro [fr 20, fu] (by decide) (knall rfl) (Nat.le_of_ble_eq_true rfl) rfl ?_
  intro hNV hM0 μ
  have lp2 : ∀ (kq : Nat) (i : Int) (M1 : FMem), (80 - i).toNat = kq → (0 ≤ i ∧ i ≤ 80) → (∀ b j, b ≠ 21 → M1 b j = M b j) → (∀ v, 0 ≤ v → v < i → M1 21 v = 0) → Wa l g true fi_X1_clear 93 μ (Zv g true fi_X1_clear 93 μ (fun M2 => (∀ b j, b ≠ 21 → ¬ (b = 20 ∧ j = 8) → M2 b j = M b j) ∧ (∀ i, 0 ≤ i → i < 80 → M2 21 i = 0) ∧ M2 20 8 = 0)) 2 [] [fr 20, fi i] 93 M1 := by
    intro kq
    induction kq using Nat.strongRecOn with
    | _ kq ih2 =>
    intro i M1 hk2 h0 h1 h2
    refine z_iload_n dX1_clear_2 rfl ?_
    refine z_bipush dX1_clear_3 ⟨by decide, by decide⟩ (by decide) ?_
    refine z_icmp_ge (tgt := 21) dX1_clear_5 (by decide) (fun c1 => ?_) (fun c1 => ?_)
    · refine z_aload_nr dX1_clear_21 rfl ?_
      refine z_iconst dX1_clear_22 ⟨by decide, by decide⟩ ?_
      refine z_puti (kz := 8) fl_X1_38 rfl (by decide) rfl nr_20_8 dX1_clear_23 (fun Mz2 hMz2 => ?_)
      refine z_vret rfl (by decide) rfl (Nat.sub_self _) dX1_clear_26 ?_
      subst_vars
      refine ⟨fun b j q1 q2 => ?_, fun v q1 q2 => ?_, st_same _ _ _ _⟩
      · unfold st; rw [if_neg q2]; exact h1 b j q1
      · rw [st_cell (by decide)]; exact h2 v q1 (by omega)
    · refine z_aload_nr dX1_clear_8 rfl ?_
      refine z_getr (b := 21) fl_X1_11 rfl (by decide) rf_20_0 rfl dX1_clear_9 ?_
      refine z_iload_n dX1_clear_12 rfl ?_
      refine z_iconst dX1_clear_13 ⟨by decide, by decide⟩ ?_
      refine z_zast rfl (by decide) (by omega) (by omega) (by omega) dX1_clear_14 (fun Mz3 hMz3 => ?_)
      refine z_iinc (loc2 := fun vq => [fr 20, fi vq]) dX1_clear_15 rfl (by decide) (by omega) (fun _ => rfl) (fun x4 hx4 => ?_)
      refine z_goto (tgt := 2) dX1_clear_18 (by decide) ?_
      exact ih2 _ (by omega) x4 Mz3 rfl (by omega) (fun b j q => by subst_vars; rw [st_cell q]; exact h1 b j q) (fun v q1 q2 => by subst_vars; rw [st_at]; split; rfl; exact h2 v q1 (by omega))
  refine z_iconst dX1_clear_0 ⟨by decide, by decide⟩ ?_
  refine z_istore_n (loc2 := [fr 20, fi 0]) dX1_clear_1 (by decide) rfl ?_
  exact lp2 _ 0 M rfl (by omega) (fun b j _ => rfl) (fun v _ h => by omega)
set_option maxHeartbeats 400000 in
theorem A_X1_tie (l : Launch) (g : Cx) (M : FMem) (i li fa ta : Int) (hi : 0 ≤ i ∧ i < 80) : AMv l g true fi_X1_tie [fr 20, fi i, fi li, fi fa, fi ta] 93 M (fun M2 => M2 = st (st (st (st M 21 i 1) 22 i li) 23 i fa) 24 i ta) := by
  refine AMv_intro [fr 20, fi i, fi li, fi fa, fi ta] (by decide) (knall rfl) (Nat.le_of_ble_eq_true rfl) rfl ?_
  intro hNV hM0 μ
  have bi : N32 i := hNV (fi i) (by simp)
  have bli : N32 li := hNV (fi li) (by simp)
  have bfa : N32 fa := hNV (fi fa) (by simp)
  have bta : N32 ta := hNV (fi ta) (by simp)
  refine z_aload_nr dX1_tie_0 rfl ?_
  refine z_getr (b := 21) fl_X1_11 rfl (by decide) rf_20_0 rfl dX1_tie_1 ?_
  refine z_iload_n dX1_tie_4 rfl ?_
  refine z_iconst dX1_tie_5 ⟨by decide, by decide⟩ ?_
  refine z_zast rfl (by decide) (by omega) (by omega) (by omega) dX1_tie_6 (fun Mz1 hMz1 => ?_)
  refine z_aload_nr dX1_tie_7 rfl ?_
  refine z_getr (b := 22) fl_X1_15 rfl (by decide) rf_20_1 rfl dX1_tie_8 ?_
  refine z_iload_n dX1_tie_11 rfl ?_
  refine z_iload_n dX1_tie_12 rfl ?_
  refine z_iast rfl (by decide) (by omega) (by omega) dX1_tie_13 (fun Mz2 hMz2 => ?_)
  refine z_aload_nr dX1_tie_14 rfl ?_
  refine z_getr (b := 23) fl_X1_19 rfl (by decide) rf_20_2 rfl dX1_tie_15 ?_
  refine z_iload_n dX1_tie_18 rfl ?_
  refine z_iload_n dX1_tie_19 rfl ?_
  refine z_iast rfl (by decide) (by omega) (by omega) dX1_tie_20 (fun Mz3 hMz3 => ?_)
  refine z_aload_nr dX1_tie_21 rfl ?_
  refine z_getr (b := 24) fl_X1_22 rfl (by decide) rf_20_3 rfl dX1_tie_22 ?_
  refine z_iload_n dX1_tie_25 rfl ?_
  refine z_iload dX1_tie_26 rfl ?_
  refine z_iast rfl (by decide) (by omega) (by omega) dX1_tie_28 (fun Mz4 hMz4 => ?_)
  refine z_vret rfl (by decide) rfl (Nat.sub_self _) dX1_tie_29 ?_
  subst_vars
  rfl
set_option maxHeartbeats 400000 in
theorem A_X1_span (l : Launch) (g : Cx) (M : FMem) (i lo hg : Int) (hi : 0 ≤ i ∧ i < 80) : AMv l g true fi_X1_span [fr 20, fi i, fi lo, fi hg] 93 M (fun M2 => M2 = st (st M 25 i lo) 26 i hg) := by
  refine AMv_intro [fr 20, fi i, fi lo, fi hg] (by decide) (knall rfl) (Nat.le_of_ble_eq_true rfl) rfl ?_
  intro hNV hM0 μ
  have bi : N32 i := hNV (fi i) (by simp)
  have blo : N32 lo := hNV (fi lo) (by simp)
  have bhg : N32 hg := hNV (fi hg) (by simp)
  refine z_aload_nr dX1_span_0 rfl ?_
  refine z_getr (b := 25) fl_X1_25 rfl (by decide) rf_20_4 rfl dX1_span_1 ?_
  refine z_iload_n dX1_span_4 rfl ?_
  refine z_iload_n dX1_span_5 rfl ?_
  refine z_iast rfl (by decide) (by omega) (by omega) dX1_span_6 (fun Mz1 hMz1 => ?_)
  refine z_aload_nr dX1_span_7 rfl ?_
  refine z_getr (b := 26) fl_X1_28 rfl (by decide) rf_20_5 rfl dX1_span_8 ?_
  refine z_iload_n dX1_span_11 rfl ?_
  refine z_iload_n dX1_span_12 rfl ?_
  refine z_iast rfl (by decide) (by omega) (by omega) dX1_span_13 (fun Mz2 hMz2 => ?_)
  refine z_vret rfl (by decide) rfl (Nat.sub_self _) dX1_span_14 ?_
  subst_vars
  rfl
/-- what leaveOut leaves in -/
def sel (M : FMem) (li one two i : Int) : Prop := 0 ≤ i ∧ i < 80 ∧ M 21 i = 1 ∧ M 22 i ≠ li ∧ i ≠ one ∧ i ≠ two
set_option maxHeartbeats 400000 in
theorem A_X1_leaveOut (l : Launch) (g : Cx) (M : FMem) (li one two : Int) : AMv l g true fi_X1_leaveOut [fr 20, fi li, fi one, fi two] 93 M (fun M2 => (∀ b j, b ≠ 27 → ¬ (b = 20 ∧ j = 7) → M2 b j = M b j) ∧ 0 ≤ M2 20 7 ∧ M2 20 7 ≤ 80 ∧ (∀ k, 0 ≤ k → k < M2 20 7 → sel M li one two (M2 27 k)) ∧ (∀ v, sel M li one two v → ∃ k, 0 ≤ k ∧ k < M2 20 7 ∧ M2 27 k = v)) := by
  refine AMv_intro [fr 20, fi li, fi one, fi two, fu] (by decide) (knall rfl) (Nat.le_of_ble_eq_true rfl) rfl ?_
  intro hNV hM0 μ
  have bli : N32 li := hNV (fi li) (by simp)
  have bone : N32 one := hNV (fi one) (by simp)
  have btwo : N32 two := hNV (fi two) (by simp)
  have lp8 : ∀ (kq : Nat) (i : Int) (M1 : FMem), (80 - i).toNat = kq → (0 ≤ i ∧ i ≤ 80) → (∀ b j, b ≠ 27 → ¬ (b = 20 ∧ j = 7) → M1 b j = M b j) → (0 ≤ M1 20 7 ∧ M1 20 7 ≤ i) → (∀ k, 0 ≤ k → k < M1 20 7 → sel M li one two (M1 27 k) ∧ M1 27 k < i) → (∀ v, v < i → sel M li one two v → ∃ k, 0 ≤ k ∧ k < M1 20 7 ∧ M1 27 k = v) → Wa l g true fi_X1_leaveOut 93 μ (Zv g true fi_X1_leaveOut 93 μ (fun M2 => (∀ b j, b ≠ 27 → ¬ (b = 20 ∧ j = 7) → M2 b j = M b j) ∧ 0 ≤ M2 20 7 ∧ M2 20 7 ≤ 80 ∧ (∀ k, 0 ≤ k → k < M2 20 7 → sel M li one two (M2 27 k)) ∧ (∀ v, sel M li one two v → ∃ k, 0 ≤ k ∧ k < M2 20 7 ∧ M2 27 k = v))) 8 [] [fr 20, fi li, fi one, fi two, fi i] 93 M1 := by
    intro kq
    induction kq using Nat.strongRecOn with
    | _ kq ih8 =>
    intro i M1 hk8 h0 h1 h2 h3 h4
    have e21 := h1 21 i (by decide) (by omega)
    have e22 := h1 22 i (by decide) (by omega)
    refine z_iload dX1_leaveOut_8 rfl ?_
    refine z_bipush dX1_leaveOut_10 ⟨by decide, by decide⟩ (by decide) ?_
    refine z_icmp_ge (tgt := 75) dX1_leaveOut_12 (by decide) (fun c1 => ?_) (fun c1 => ?_)
    · refine z_vret rfl (by decide) rfl (Nat.sub_self _) dX1_leaveOut_75 ?_
      exact ⟨h1, by omega, by omega, fun k q1 q2 => (h3 k q1 q2).1, fun v q => h4 v (by have := q.2.1; omega) q⟩
    · refine z_aload_nr dX1_leaveOut_15 rfl ?_
      refine z_getr (b := 21) fl_X1_11 rfl (by decide) rf_20_0 rfl dX1_leaveOut_16 ?_
      refine z_iload dX1_leaveOut_19 rfl ?_
      refine z_zald rfl (by decide) (by omega) (by omega) dX1_leaveOut_21 (fun x2 hx2 bx2 => ?_)
      refine z_if_eq (tgt := 69) dX1_leaveOut_22 (by decide) (fun c3 => ?_) (fun c3 => ?_)
      · refine z_iinc (loc2 := fun vq => [fr 20, fi li, fi one, fi two, fi vq]) dX1_leaveOut_69 rfl (by decide) (by omega) (fun _ => rfl) (fun x4 hx4 => ?_)
        refine z_goto (tgt := 8) dX1_leaveOut_72 (by decide) ?_
        have hI : (∀ b j, b ≠ 27 → ¬ (b = 20 ∧ j = 7) → M1 b j = M b j) ∧ (0 ≤ M1 20 7 ∧ M1 20 7 ≤ x4) ∧ (∀ k, 0 ≤ k → k < M1 20 7 → sel M li one two (M1 27 k) ∧ M1 27 k < x4) ∧ (∀ v, v < x4 → sel M li one two v → ∃ k, 0 ≤ k ∧ k < M1 20 7 ∧ M1 27 k = v) := by
          first
          | (refine ⟨h1, by omega, fun k q1 q2 => ⟨(h3 k q1 q2).1, by have := (h3 k q1 q2).2; omega⟩, fun v q1 q2 => ?_⟩
             by_cases ev : v = i
             · exfalso
               subst ev
               obtain ⟨-, -, s1, s2, s3, s4⟩ := q2
               omega
             · exact h4 v (by omega) q2)
          | (have hs : sel M li one two i := ⟨by omega, by omega, by omega, by omega, by omega, by omega⟩
             have e1 : M1 20 7 = M1 20 7 + 1 := by subst_vars; rw [st_same]
             have e2 : ∀ k, M1 27 k = if k = M1 20 7 then i else M1 27 k := by intro k; subst_vars; simp [st]
             have e3 : ∀ b j, b ≠ 27 → ¬ (b = 20 ∧ j = 7) → M1 b j = M1 b j := by intro b j q1 q2; subst_vars; unfold st; rw [if_neg q2, if_neg (fun q => q1 q.1)]
             refine ⟨fun b j q1 q2 => (e3 b j q1 q2).trans (h1 b j q1 q2), by omega, fun k q1 q2 => ?_, fun v q1 q2 => ?_⟩
             · rw [e2]
               by_cases ek : k = M1 20 7
               · rw [if_pos ek]; exact ⟨hs, by omega⟩
               · rw [if_neg ek]; have := h3 k q1 (by omega); exact ⟨this.1, by omega⟩
             · by_cases ev : v = i
               · exact ⟨M1 20 7, by omega, by omega, by rw [e2, if_pos rfl, ev]⟩
               · obtain ⟨k, k1, k2, k3⟩ := h4 v (by omega) q2
                 exact ⟨k, k1, by omega, by rw [e2, if_neg (by omega)]; exact k3⟩)
        exact ih8 _ (by omega) x4 M1 rfl (by omega) (hI.1) (hI.2.1) (hI.2.2.1) (hI.2.2.2)
      · refine z_aload_nr dX1_leaveOut_25 rfl ?_
        refine z_getr (b := 22) fl_X1_15 rfl (by decide) rf_20_1 rfl dX1_leaveOut_26 ?_
        refine z_iload dX1_leaveOut_29 rfl ?_
        refine z_iald rfl (by decide) (by omega) (by omega) dX1_leaveOut_31 (fun x5 hx5 bx5 => ?_)
        refine z_iload_n dX1_leaveOut_32 rfl ?_
        refine z_icmp_eq (tgt := 69) dX1_leaveOut_33 (by decide) (fun c6 => ?_) (fun c6 => ?_)
        · refine z_iinc (loc2 := fun vq => [fr 20, fi li, fi one, fi two, fi vq]) dX1_leaveOut_69 rfl (by decide) (by omega) (fun _ => rfl) (fun x7 hx7 => ?_)
          refine z_goto (tgt := 8) dX1_leaveOut_72 (by decide) ?_
          have hI : (∀ b j, b ≠ 27 → ¬ (b = 20 ∧ j = 7) → M1 b j = M b j) ∧ (0 ≤ M1 20 7 ∧ M1 20 7 ≤ x7) ∧ (∀ k, 0 ≤ k → k < M1 20 7 → sel M li one two (M1 27 k) ∧ M1 27 k < x7) ∧ (∀ v, v < x7 → sel M li one two v → ∃ k, 0 ≤ k ∧ k < M1 20 7 ∧ M1 27 k = v) := by
            first
            | (refine ⟨h1, by omega, fun k q1 q2 => ⟨(h3 k q1 q2).1, by have := (h3 k q1 q2).2; omega⟩, fun v q1 q2 => ?_⟩
               by_cases ev : v = i
               · exfalso
                 subst ev
                 obtain ⟨-, -, s1, s2, s3, s4⟩ := q2
                 omega
               · exact h4 v (by omega) q2)
            | (have hs : sel M li one two i := ⟨by omega, by omega, by omega, by omega, by omega, by omega⟩
               have e1 : M1 20 7 = M1 20 7 + 1 := by subst_vars; rw [st_same]
               have e2 : ∀ k, M1 27 k = if k = M1 20 7 then i else M1 27 k := by intro k; subst_vars; simp [st]
               have e3 : ∀ b j, b ≠ 27 → ¬ (b = 20 ∧ j = 7) → M1 b j = M1 b j := by intro b j q1 q2; subst_vars; unfold st; rw [if_neg q2, if_neg (fun q => q1 q.1)]
               refine ⟨fun b j q1 q2 => (e3 b j q1 q2).trans (h1 b j q1 q2), by omega, fun k q1 q2 => ?_, fun v q1 q2 => ?_⟩
               · rw [e2]
                 by_cases ek : k = M1 20 7
                 · rw [if_pos ek]; exact ⟨hs, by omega⟩
                 · rw [if_neg ek]; have := h3 k q1 (by omega); exact ⟨this.1, by omega⟩
               · by_cases ev : v = i
                 · exact ⟨M1 20 7, by omega, by omega, by rw [e2, if_pos rfl, ev]⟩
                 · obtain ⟨k, k1, k2, k3⟩ := h4 v (by omega) q2
                   exact ⟨k, k1, by omega, by rw [e2, if_neg (by omega)]; exact k3⟩)
          exact ih8 _ (by omega) x7 M1 rfl (by omega) (hI.1) (hI.2.1) (hI.2.2.1) (hI.2.2.2)
        · refine z_iload dX1_leaveOut_36 rfl ?_
          refine z_iload_n dX1_leaveOut_38 rfl ?_
          refine z_icmp_eq (tgt := 69) dX1_leaveOut_39 (by decide) (fun c8 => ?_) (fun c8 => ?_)
          · refine z_iinc (loc2 := fun vq => [fr 20, fi li, fi one, fi two, fi vq]) dX1_leaveOut_69 rfl (by decide) (by omega) (fun _ => rfl) (fun x9 hx9 => ?_)
            refine z_goto (tgt := 8) dX1_leaveOut_72 (by decide) ?_
            have hI : (∀ b j, b ≠ 27 → ¬ (b = 20 ∧ j = 7) → M1 b j = M b j) ∧ (0 ≤ M1 20 7 ∧ M1 20 7 ≤ x9) ∧ (∀ k, 0 ≤ k → k < M1 20 7 → sel M li one two (M1 27 k) ∧ M1 27 k < x9) ∧ (∀ v, v < x9 → sel M li one two v → ∃ k, 0 ≤ k ∧ k < M1 20 7 ∧ M1 27 k = v) := by
              first
              | (refine ⟨h1, by omega, fun k q1 q2 => ⟨(h3 k q1 q2).1, by have := (h3 k q1 q2).2; omega⟩, fun v q1 q2 => ?_⟩
                 by_cases ev : v = i
                 · exfalso
                   subst ev
                   obtain ⟨-, -, s1, s2, s3, s4⟩ := q2
                   omega
                 · exact h4 v (by omega) q2)
              | (have hs : sel M li one two i := ⟨by omega, by omega, by omega, by omega, by omega, by omega⟩
                 have e1 : M1 20 7 = M1 20 7 + 1 := by subst_vars; rw [st_same]
                 have e2 : ∀ k, M1 27 k = if k = M1 20 7 then i else M1 27 k := by intro k; subst_vars; simp [st]
                 have e3 : ∀ b j, b ≠ 27 → ¬ (b = 20 ∧ j = 7) → M1 b j = M1 b j := by intro b j q1 q2; subst_vars; unfold st; rw [if_neg q2, if_neg (fun q => q1 q.1)]
                 refine ⟨fun b j q1 q2 => (e3 b j q1 q2).trans (h1 b j q1 q2), by omega, fun k q1 q2 => ?_, fun v q1 q2 => ?_⟩
                 · rw [e2]
                   by_cases ek : k = M1 20 7
                   · rw [if_pos ek]; exact ⟨hs, by omega⟩
                   · rw [if_neg ek]; have := h3 k q1 (by omega); exact ⟨this.1, by omega⟩
                 · by_cases ev : v = i
                   · exact ⟨M1 20 7, by omega, by omega, by rw [e2, if_pos rfl, ev]⟩
                   · obtain ⟨k, k1, k2, k3⟩ := h4 v (by omega) q2
                     exact ⟨k, k1, by omega, by rw [e2, if_neg (by omega)]; exact k3⟩)
            exact ih8 _ (by omega) x9 M1 rfl (by omega) (hI.1) (hI.2.1) (hI.2.2.1) (hI.2.2.2)
          · refine z_iload dX1_leaveOut_42 rfl ?_
            refine z_iload_n dX1_leaveOut_44 rfl ?_
            refine z_icmp_eq (tgt := 69) dX1_leaveOut_45 (by decide) (fun c10 => ?_) (fun c10 => ?_)
            · refine z_iinc (loc2 := fun vq => [fr 20, fi li, fi one, fi two, fi vq]) dX1_leaveOut_69 rfl (by decide) (by omega) (fun _ => rfl) (fun x11 hx11 => ?_)
              refine z_goto (tgt := 8) dX1_leaveOut_72 (by decide) ?_
              have hI : (∀ b j, b ≠ 27 → ¬ (b = 20 ∧ j = 7) → M1 b j = M b j) ∧ (0 ≤ M1 20 7 ∧ M1 20 7 ≤ x11) ∧ (∀ k, 0 ≤ k → k < M1 20 7 → sel M li one two (M1 27 k) ∧ M1 27 k < x11) ∧ (∀ v, v < x11 → sel M li one two v → ∃ k, 0 ≤ k ∧ k < M1 20 7 ∧ M1 27 k = v) := by
                first
                | (refine ⟨h1, by omega, fun k q1 q2 => ⟨(h3 k q1 q2).1, by have := (h3 k q1 q2).2; omega⟩, fun v q1 q2 => ?_⟩
                   by_cases ev : v = i
                   · exfalso
                     subst ev
                     obtain ⟨-, -, s1, s2, s3, s4⟩ := q2
                     omega
                   · exact h4 v (by omega) q2)
                | (have hs : sel M li one two i := ⟨by omega, by omega, by omega, by omega, by omega, by omega⟩
                   have e1 : M1 20 7 = M1 20 7 + 1 := by subst_vars; rw [st_same]
                   have e2 : ∀ k, M1 27 k = if k = M1 20 7 then i else M1 27 k := by intro k; subst_vars; simp [st]
                   have e3 : ∀ b j, b ≠ 27 → ¬ (b = 20 ∧ j = 7) → M1 b j = M1 b j := by intro b j q1 q2; subst_vars; unfold st; rw [if_neg q2, if_neg (fun q => q1 q.1)]
                   refine ⟨fun b j q1 q2 => (e3 b j q1 q2).trans (h1 b j q1 q2), by omega, fun k q1 q2 => ?_, fun v q1 q2 => ?_⟩
                   · rw [e2]
                     by_cases ek : k = M1 20 7
                     · rw [if_pos ek]; exact ⟨hs, by omega⟩
                     · rw [if_neg ek]; have := h3 k q1 (by omega); exact ⟨this.1, by omega⟩
                   · by_cases ev : v = i
                     · exact ⟨M1 20 7, by omega, by omega, by rw [e2, if_pos rfl, ev]⟩
                     · obtain ⟨k, k1, k2, k3⟩ := h4 v (by omega) q2
                       exact ⟨k, k1, by omega, by rw [e2, if_neg (by omega)]; exact k3⟩)
              exact ih8 _ (by omega) x11 M1 rfl (by omega) (hI.1) (hI.2.1) (hI.2.2.1) (hI.2.2.2)
            · refine z_aload_nr dX1_leaveOut_48 rfl ?_
              refine z_getr (b := 27) fl_X1_31 rfl (by decide) rf_20_6 rfl dX1_leaveOut_49 ?_
              refine z_aload_nr dX1_leaveOut_52 rfl ?_
              refine z_geti (kz := 7) fl_X1_34 rfl (by decide) rfl dX1_leaveOut_53 (fun x12 hx12 bx12 => ?_)
              refine z_iload dX1_leaveOut_56 rfl ?_
              refine z_iast rfl (by decide) (by omega) (by omega) dX1_leaveOut_58 (fun Mz13 hMz13 => ?_)
              refine z_aload_nr dX1_leaveOut_59 rfl ?_
              refine z_dup rfl dX1_leaveOut_60 ?_
              refine z_geti (kz := 7) fl_X1_34 rfl (by decide) rfl dX1_leaveOut_61 (fun x14 hx14 bx14 => ?_)
              rw [hMz13, st_cell (by decide)] at hx14
              refine z_iconst dX1_leaveOut_64 ⟨by decide, by decide⟩ ?_
              first | refine z_iaddN dX1_leaveOut_65 (by omega) (fun x15 hx15 => ?_) | refine z_iadd dX1_leaveOut_65 (fun x15 hx15 => ?_)
              refine z_puti (kz := 7) fl_X1_34 rfl (by decide) rfl nr_20_7 dX1_leaveOut_66 (fun Mz16 hMz16 => ?_)
              refine z_iinc (loc2 := fun vq => [fr 20, fi li, fi one, fi two, fi vq]) dX1_leaveOut_69 rfl (by decide) (by omega) (fun _ => rfl) (fun x17 hx17 => ?_)
              refine z_goto (tgt := 8) dX1_leaveOut_72 (by decide) ?_
              have hI : (∀ b j, b ≠ 27 → ¬ (b = 20 ∧ j = 7) → Mz16 b j = M b j) ∧ (0 ≤ Mz16 20 7 ∧ Mz16 20 7 ≤ x17) ∧ (∀ k, 0 ≤ k → k < Mz16 20 7 → sel M li one two (Mz16 27 k) ∧ Mz16 27 k < x17) ∧ (∀ v, v < x17 → sel M li one two v → ∃ k, 0 ≤ k ∧ k < Mz16 20 7 ∧ Mz16 27 k = v) := by
                first
                | (refine ⟨h1, by omega, fun k q1 q2 => ⟨(h3 k q1 q2).1, by have := (h3 k q1 q2).2; omega⟩, fun v q1 q2 => ?_⟩
                   by_cases ev : v = i
                   · exfalso
                     subst ev
                     obtain ⟨-, -, s1, s2, s3, s4⟩ := q2
                     omega
                   · exact h4 v (by omega) q2)
                | (have hs : sel M li one two i := ⟨by omega, by omega, by omega, by omega, by omega, by omega⟩
                   have e1 : Mz16 20 7 = M1 20 7 + 1 := by subst_vars; rw [st_same]
                   have e2 : ∀ k, Mz16 27 k = if k = M1 20 7 then i else M1 27 k := by intro k; subst_vars; simp [st]
                   have e3 : ∀ b j, b ≠ 27 → ¬ (b = 20 ∧ j = 7) → Mz16 b j = M1 b j := by intro b j q1 q2; subst_vars; unfold st; rw [if_neg q2, if_neg (fun q => q1 q.1)]
                   refine ⟨fun b j q1 q2 => (e3 b j q1 q2).trans (h1 b j q1 q2), by omega, fun k q1 q2 => ?_, fun v q1 q2 => ?_⟩
                   · rw [e2]
                     by_cases ek : k = M1 20 7
                     · rw [if_pos ek]; exact ⟨hs, by omega⟩
                     · rw [if_neg ek]; have := h3 k q1 (by omega); exact ⟨this.1, by omega⟩
                   · by_cases ev : v = i
                     · exact ⟨M1 20 7, by omega, by omega, by rw [e2, if_pos rfl, ev]⟩
                     · obtain ⟨k, k1, k2, k3⟩ := h4 v (by omega) q2
                       exact ⟨k, k1, by omega, by rw [e2, if_neg (by omega)]; exact k3⟩)
              exact ih8 _ (by omega) x17 Mz16 rfl (by omega) (hI.1) (hI.2.1) (hI.2.2.1) (hI.2.2.2)
  refine z_aload_nr dX1_leaveOut_0 rfl ?_
  refine z_iconst dX1_leaveOut_1 ⟨by decide, by decide⟩ ?_
  refine z_puti (kz := 7) fl_X1_34 rfl (by decide) rfl nr_20_7 dX1_leaveOut_2 (fun Mz18 hMz18 => ?_)
  refine z_iconst dX1_leaveOut_5 ⟨by decide, by decide⟩ ?_
  refine z_istore (loc2 := [fr 20, fi li, fi one, fi two, fi 0]) dX1_leaveOut_6 (by decide) rfl ?_
  exact lp8 _ 0 Mz18 rfl (by omega) (fun b j q1 q2 => by rw [hMz18]; unfold st; rw [if_neg q2]) (by rw [hMz18, st_same]; omega) (fun k q1 q2 => by rw [hMz18, st_same] at q2; omega) (fun v q1 q2 => by have := q2.1; omega)
/-- what findEnds leaves behind: lower and upper ends of the homes, and which are tied -/
def FE (M M2 : FMem) : Prop := (∀ b j, b ≠ 28 → b ≠ 29 → b ≠ 31 → b ≠ 32 → b ≠ 33 → M2 b j = M b j) ∧ ∀ h, 0 ≤ h → h < 10 → (M2 33 h = 0 ∧ FreeD (Sat (EdX M 1)) 16 h) ∨ (M2 33 h = 1 ∧ MaxD (Sat (EdX M 1)) 16 h (M2 32 h) ∧ MaxD (Sat (EdX M 1)) h 16 (-(M2 31 h)) ∧ -1000000000 ≤ M2 32 h ∧ M2 32 h ≤ 1000000000 ∧ -1000000000 ≤ M2 31 h ∧ M2 31 h ≤ 1000000000)
theorem NetOk_off {M M2 : FMem} (h : ∀ b j, b = 20 ∨ (23 ≤ b ∧ b ≤ 27) → M2 b j = M b j) (hN : NetOk M) : NetOk M2 := by
  unfold NetOk at hN ⊢
  simp only [h 20 _ (Or.inl rfl), h 23 _ (Or.inr (by omega)), h 24 _ (Or.inr (by omega)), h 25 _ (Or.inr (by omega)), h 26 _ (Or.inr (by omega)), h 27 _ (Or.inr (by omega))]
  exact hN
theorem EdX_off {M M2 : FMem} (h : ∀ b j, b = 20 ∨ (23 ≤ b ∧ b ≤ 27) → M2 b j = M b j) (what : Int) : EdX M2 what = EdX M what := by
  funext p a b w
  unfold EdX onW baW
  simp only [h 20 _ (Or.inl rfl), h 23 _ (Or.inr (by omega)), h 24 _ (Or.inr (by omega)), h 25 _ (Or.inr (by omega)), h 26 _ (Or.inr (by omega)), h 27 _ (Or.inr (by omega))]
set_option maxHeartbeats 400000 in
theorem A_X1_findEnds (l : Launch) (g : Cx) (M : FMem) (hN : NetOk M) (hx : ∃ x, Sat (EdX M 1) x) : AMv l g true fi_X1_findEnds [fr 20] 93 M (fun M2 => FE M M2) := by
  refine AMv_intro [fr 20, fu] (by decide) (knall rfl) (Nat.le_of_ble_eq_true rfl) rfl ?_
  intro hNV hM0 μ
  have lp53 : ∀ (kq : Nat) (h : Int) (M3 : FMem) (Mc : FMem) (Md : FMem), (10 - h).toNat = kq → (0 ≤ h ∧ h ≤ 10) → ((∀ b j, b ≠ 28 → b ≠ 29 → b ≠ 31 → b ≠ 32 → b ≠ 33 → Mc b j = M b j) ∧ ∀ v, 0 ≤ v → v < 10 → (Mc 33 v = 0 ∧ FreeD (Sat (EdX M 1)) 16 v) ∨ (Mc 33 v = 1 ∧ MaxD (Sat (EdX M 1)) 16 v (Mc 32 v) ∧ -1000000000 ≤ Mc 32 v ∧ Mc 32 v ≤ 1000000000)) → (RF Mc 0 16 Md) → (∀ b j, b ≠ 31 → M3 b j = Md b j) → (∀ v, 0 ≤ v → v < h → M3 31 v = -(Md 28 v)) → Wa l g true fi_X1_findEnds 93 μ (Zv g true fi_X1_findEnds 93 μ (fun M2 => FE M M2)) 53 [] [fr 20, fi h] 93 M3 := by
    intro kq
    induction kq using Nat.strongRecOn with
    | _ kq ih53 =>
    intro h M3 Mc Md hk53 h0 hc0 hd0 h1 h2
    have e28 := h1 28 h (by decide)
    refine z_iload_n dX1_findEnds_53 rfl ?_
    refine z_bipush dX1_findEnds_54 ⟨by decide, by decide⟩ (by decide) ?_
    refine z_icmp_ge (tgt := 77) dX1_findEnds_56 (by decide) (fun c1 => ?_) (fun c1 => ?_)
    · refine z_vret rfl (by decide) rfl (Nat.sub_self _) dX1_findEnds_77 ?_
      have hE : EdX Mc 0 = EdX M 0 := EdX_off (fun b j q => hc0.1 b j (by omega) (by omega) (by omega) (by omega) (by omega)) 0
      obtain ⟨x, hx⟩ := hx
      have hx0 : Sat (EdX Mc 0) (fun v => -(x v)) := by rw [hE]; exact Sat0.mpr (by simpa using hx)
      refine ⟨fun b j q1 q2 q3 q4 q5 => by rw [h1 b j q3, hd0.1 b j q1 q2]; exact hc0.1 b j q1 q2 q3 q4 q5, fun v q1 q2 => ?_⟩
      have hv : nd v := ⟨q1, by omega⟩
      have t1 : M3 33 v = Mc 33 v := (h1 _ v (by decide)).trans (hd0.1 _ v (by decide) (by decide))
      have t2 : M3 32 v = Mc 32 v := (h1 _ v (by decide)).trans (hd0.1 _ v (by decide) (by decide))
      have t3 := h2 v q1 (by omega)
      rw [t1, t2, t3]
      have hbd := RF_bound hd0 hv
      by_cases hw : Md 28 v = 2000000000
      · have hno := RF_free hd0 (by omega) hx0 hv hw
        rw [hE] at hno
        rcases hc0.2 v q1 q2 with ⟨a1, a2⟩ | ⟨a1, a2, a3⟩
        · exact Or.inl ⟨a1, a2⟩
        · exact (MaxD_free a2 (Free0 hno)).elim
      · have hmx := RF_max hd0 (by omega) hx0 hv hw
        rw [hE] at hmx
        rcases hc0.2 v q1 q2 with ⟨a1, a2⟩ | ⟨a1, a2, a3⟩
        · exact (MaxD_free (Max0 hmx) (FreeD_sym a2)).elim
        · exact Or.inr ⟨a1, a2, by rw [Int.neg_neg]; exact Max0 hmx, by omega, by omega, by omega, by omega⟩
    · refine z_aload_nr dX1_findEnds_59 rfl ?_
      refine z_getr (b := 31) fl_X1_50 rfl (by decide) rf_20_12 rfl dX1_findEnds_60 ?_
      refine z_iload_n dX1_findEnds_63 rfl ?_
      refine z_aload_nr dX1_findEnds_64 rfl ?_
      refine z_iload_n dX1_findEnds_65 rfl ?_
      refine z_iconst dX1_findEnds_66 ⟨by decide, by decide⟩ ?_
      refine z_callVip (n2 := 93) (A_X1_bound0 l g M3 h (by omega) (by have := RF_bound hd0 (v := h) (by omega); omega)) cb_X1_bound cl_X1_80 (clr0 rfl rfl (by decide) (by decide)) rfl (by decide) ⟨_, rfl, rfl⟩ rfl (by decide) rfl (Nat.le_of_ble_eq_true rfl) rfl dX1_findEnds_67 (fun x2 bx2 hx2 => ?_)
      refine z_iast rfl (by decide) (by omega) (by omega) dX1_findEnds_70 (fun Mz3 hMz3 => ?_)
      refine z_iinc (loc2 := fun vq => [fr 20, fi vq]) dX1_findEnds_71 rfl (by decide) (by omega) (fun _ => rfl) (fun x4 hx4 => ?_)
      refine z_goto (tgt := 53) dX1_findEnds_74 (by decide) ?_
      exact ih53 _ (by omega) x4 Mz3 Mc Md rfl (by omega) (hc0) (hd0) (fun b j q => by subst_vars; rw [st_cell q]; exact h1 b j q) (fun v q1 q2 => by subst_vars; rw [st_at]; split; (rename_i e; subst e; omega); exact h2 v q1 (by omega))
  have lp9 : ∀ (kq : Nat) (h : Int) (M1 : FMem) (Mb : FMem), (10 - h).toNat = kq → (0 ≤ h ∧ h ≤ 10) → (RF M 1 16 Mb) → (∀ b j, b ≠ 32 → b ≠ 33 → M1 b j = Mb b j) → (∀ v, 0 ≤ v → v < h → (M1 33 v = 0 ∧ FreeD (Sat (EdX M 1)) 16 v) ∨ (M1 33 v = 1 ∧ MaxD (Sat (EdX M 1)) 16 v (M1 32 v) ∧ -1000000000 ≤ M1 32 v ∧ M1 32 v ≤ 1000000000)) → Wa l g true fi_X1_findEnds 93 μ (Zv g true fi_X1_findEnds 93 μ (fun M2 => FE M M2)) 9 [] [fr 20, fi h] 93 M1 := by
    intro kq
    induction kq using Nat.strongRecOn with
    | _ kq ih9 =>
    intro h M1 Mb hk9 h0 hRF h1 h2
    have e28 := h1 28 h (by decide) (by decide)
    refine z_iload_n dX1_findEnds_9 rfl ?_
    refine z_bipush dX1_findEnds_10 ⟨by decide, by decide⟩ (by decide) ?_
    refine z_icmp_ge (tgt := 44) dX1_findEnds_12 (by decide) (fun c5 => ?_) (fun c5 => ?_)
    · refine z_aload_nr dX1_findEnds_44 rfl ?_
      refine z_bipush dX1_findEnds_45 ⟨by decide, by decide⟩ (by decide) ?_
      refine z_iconst dX1_findEnds_47 ⟨by decide, by decide⟩ ?_
      refine z_callVv (n2 := 93) (A_X1_reach0 l g M1 16 (by omega) (NetOk_off (fun b j q => (h1 b j (by omega) (by omega)).trans (hRF.1 b j (by omega) (by omega))) hN) (by obtain ⟨x, hx⟩ := hx; exact ⟨fun v => -(x v), by rw [EdX_off (fun b j q => (h1 b j (by omega) (by omega)).trans (hRF.1 b j (by omega) (by omega)))]; exact Sat0.mpr (by simpa using hx)⟩)) cb_X1_reach cl_X1_72 (clr0 rfl rfl (by decide) (by decide)) rfl (by decide) ⟨_, rfl, rfl⟩ rfl (by decide) rfl (Nat.le_of_ble_eq_true rfl) rfl dX1_findEnds_48 (fun Mz6 kMz6 hc6 => ?_)
      have hRF0 := hc6
      refine z_iconst dX1_findEnds_51 ⟨by decide, by decide⟩ ?_
      refine z_istore_n (loc2 := [fr 20, fi 0]) dX1_findEnds_52 (by decide) rfl ?_
      exact lp53 _ 0 Mz6 M1 Mz6 rfl (by omega) (⟨fun b j q1 q2 q3 q4 q5 => (h1 b j q4 q5).trans (hRF.1 b j q1 q2), fun v q1 q2 => h2 v q1 (by omega)⟩) (hRF0) (fun b j _ => rfl) (fun v _ h => by omega)
    · refine z_aload_nr dX1_findEnds_15 rfl ?_
      refine z_getr (b := 33) fl_X1_56 rfl (by decide) rf_20_14 rfl dX1_findEnds_16 ?_
      refine z_iload_n dX1_findEnds_19 rfl ?_
      refine z_aload_nr dX1_findEnds_20 rfl ?_
      refine z_iload_n dX1_findEnds_21 rfl ?_
      refine z_callVip (n2 := 93) (A_X1_isReached l g M1 h (by omega)) cb_X1_isReached cl_X1_76 (clr0 rfl rfl (by decide) (by decide)) rfl (by decide) ⟨_, rfl, rfl⟩ rfl (by decide) rfl (Nat.le_of_ble_eq_true rfl) rfl dX1_findEnds_22 (fun x7 bx7 hx7 => ?_)
      have i7 := if10 hx7
      refine z_zast rfl (by decide) (by omega) (by omega) (by split at * <;> omega) dX1_findEnds_25 (fun Mz8 hMz8 => ?_)
      refine z_aload_nr dX1_findEnds_26 rfl ?_
      refine z_getr (b := 32) fl_X1_53 rfl (by decide) rf_20_13 rfl dX1_findEnds_27 ?_
      refine z_iload_n dX1_findEnds_30 rfl ?_
      refine z_aload_nr dX1_findEnds_31 rfl ?_
      refine z_iload_n dX1_findEnds_32 rfl ?_
      refine z_iconst dX1_findEnds_33 ⟨by decide, by decide⟩ ?_
      refine z_callVip (n2 := 93) (A_X1_bound1 l g Mz8 h (by omega)) cb_X1_bound cl_X1_80 (clr0 rfl rfl (by decide) (by decide)) rfl (by decide) ⟨_, rfl, rfl⟩ rfl (by decide) rfl (Nat.le_of_ble_eq_true rfl) rfl dX1_findEnds_34 (fun x9 bx9 hx9 => ?_)
      refine z_iast rfl (by decide) (by omega) (by omega) dX1_findEnds_37 (fun Mz10 hMz10 => ?_)
      refine z_iinc (loc2 := fun vq => [fr 20, fi vq]) dX1_findEnds_38 rfl (by decide) (by omega) (fun _ => rfl) (fun x11 hx11 => ?_)
      refine z_goto (tgt := 9) dX1_findEnds_41 (by decide) ?_
      have hnew : (Mz10 33 h = 0 ∧ FreeD (Sat (EdX M 1)) 16 h) ∨ (Mz10 33 h = 1 ∧ MaxD (Sat (EdX M 1)) 16 h (Mz10 32 h) ∧ -1000000000 ≤ Mz10 32 h ∧ Mz10 32 h ≤ 1000000000) := by
        obtain ⟨x, hx⟩ := hx
        have hh : nd h := ⟨by omega, by omega⟩
        have hbd := RF_bound hRF hh
        subst_vars
        rw [st_same, st_cell (by decide), st_same]
        rw [st_cell (by decide), e28]
        by_cases hw : Mb 28 h = 2000000000
        · rw [if_pos hw]; exact Or.inl ⟨rfl, RF_free hRF (by omega) hx hh hw⟩
        · rw [if_neg hw]; exact Or.inr ⟨rfl, RF_max hRF (by omega) hx hh hw, by omega, by omega⟩
      exact ih9 _ (by omega) x11 Mz10 Mb rfl (by omega) (hRF) (fun b j q r => by subst_vars; rw [st_cell q, st_cell r]; exact h1 b j q r) (fun v q1 q2 => by by_cases e : v = h; (rw [e]; exact hnew); (have hz := h2 v q1 (by omega); subst_vars; simp only [st, e, and_false, if_false]; exact hz))
  refine z_aload_nr dX1_findEnds_0 rfl ?_
  refine z_bipush dX1_findEnds_1 ⟨by decide, by decide⟩ (by decide) ?_
  refine z_iconst dX1_findEnds_3 ⟨by decide, by decide⟩ ?_
  refine z_callVv (n2 := 93) (A_X1_reach1 l g M 16 (by omega) (hN) (hx)) cb_X1_reach cl_X1_72 (clr0 rfl rfl (by decide) (by decide)) rfl (by decide) ⟨_, rfl, rfl⟩ rfl (by decide) rfl (Nat.le_of_ble_eq_true rfl) rfl dX1_findEnds_4 (fun Mz12 kMz12 hc12 => ?_)
  have hRF := hc12
  refine z_iconst dX1_findEnds_7 ⟨by decide, by decide⟩ ?_
  refine z_istore_n (loc2 := [fr 20, fi 0]) dX1_findEnds_8 (by decide) rfl ?_
  exact lp9 _ 0 Mz12 Mz12 rfl (by omega) (hRF) (fun b j _ _ => rfl) (fun v _ h => by omega)
set_option maxHeartbeats 400000 in
theorem A_X1_liesWithinFar (l : Launch) (g : Cx) (M : FMem) (h : Int) (hh : 0 ≤ h ∧ h < 10) : AMi l g true fi_X1_liesWithinFar [fr 20, fi h] 93 M (fun r M2 => M2 = M ∧ (fun r => r = b01 (M 33 h = 1 ∧ 0 ≤ M 31 h ∧ M 32 h ≤ 40000)) r) := by
  refine AMi_intro [fr 20, fi h] (by decide) (knall rfl) (Nat.le_of_ble_eq_true rfl) rfl ?_
  intro hNV hM0 μ
  have bh : N32 h := hNV (fi h) (by simp)
  refine z_aload_nr dX1_liesWithinFar_0 rfl ?_
  refine z_getr (b := 33) fl_X1_56 rfl (by decide) rf_20_14 rfl dX1_liesWithinFar_1 ?_
  refine z_iload_n dX1_liesWithinFar_4 rfl ?_
  refine z_zald rfl (by decide) (by omega) (by omega) dX1_liesWithinFar_5 (fun x1 hx1 bx1 => ?_)
  refine z_if_eq (tgt := 33) dX1_liesWithinFar_6 (by decide) (fun c2 => ?_) (fun c2 => ?_)
  · refine z_iconst dX1_liesWithinFar_33 ⟨by decide, by decide⟩ ?_
    refine z_zret rfl (by omega) (by decide) rfl (Nat.sub_self _) dX1_liesWithinFar_34 ?_
    refine ⟨rfl, ?_⟩
    unfold b01
    first | (rw [if_pos (by omega)]) | (rw [if_neg (by omega)])
  · refine z_aload_nr dX1_liesWithinFar_9 rfl ?_
    refine z_getr (b := 31) fl_X1_50 rfl (by decide) rf_20_12 rfl dX1_liesWithinFar_10 ?_
    refine z_iload_n dX1_liesWithinFar_13 rfl ?_
    refine z_iald rfl (by decide) (by omega) (by omega) dX1_liesWithinFar_14 (fun x3 hx3 bx3 => ?_)
    refine z_if_lt (tgt := 33) dX1_liesWithinFar_15 (by decide) (fun c4 => ?_) (fun c4 => ?_)
    · refine z_iconst dX1_liesWithinFar_33 ⟨by decide, by decide⟩ ?_
      refine z_zret rfl (by omega) (by decide) rfl (Nat.sub_self _) dX1_liesWithinFar_34 ?_
      refine ⟨rfl, ?_⟩
      unfold b01
      first | (rw [if_pos (by omega)]) | (rw [if_neg (by omega)])
    · refine z_aload_nr dX1_liesWithinFar_18 rfl ?_
      refine z_getr (b := 32) fl_X1_53 rfl (by decide) rf_20_13 rfl dX1_liesWithinFar_19 ?_
      refine z_iload_n dX1_liesWithinFar_22 rfl ?_
      refine z_iald rfl (by decide) (by omega) (by omega) dX1_liesWithinFar_23 (fun x5 hx5 bx5 => ?_)
      refine z_ldc (c := 40000) cn_X1_83 ⟨by decide, by decide⟩ dX1_liesWithinFar_24 ?_
      refine z_icmp_gt (tgt := 33) dX1_liesWithinFar_26 (by decide) (fun c6 => ?_) (fun c6 => ?_)
      · refine z_iconst dX1_liesWithinFar_33 ⟨by decide, by decide⟩ ?_
        refine z_zret rfl (by omega) (by decide) rfl (Nat.sub_self _) dX1_liesWithinFar_34 ?_
        refine ⟨rfl, ?_⟩
        unfold b01
        first | (rw [if_pos (by omega)]) | (rw [if_neg (by omega)])
      · refine z_iconst dX1_liesWithinFar_29 ⟨by decide, by decide⟩ ?_
        refine z_goto (tgt := 34) dX1_liesWithinFar_30 (by decide) ?_
        refine z_zret rfl (by omega) (by decide) rfl (Nat.sub_self _) dX1_liesWithinFar_34 ?_
        refine ⟨rfl, ?_⟩
        unfold b01
        first | (rw [if_pos (by omega)]) | (rw [if_neg (by omega)])
