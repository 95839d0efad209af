/-! ===== Strife: widening, blame ===== -/
/-- rows of a net that is loaded, widened by w -/
def SatW (M : FMem) (w : Int) (x : Int → Int) : Prop := Sat (EdX (st M 20 8 w) 1) x
theorem NetOk_w {M : FMem} (h : NetOk M) {w : Int} (h0 : 0 ≤ w) (h1 : w ≤ 131072) : NetOk (st M 20 8 w) := by
  unfold NetOk at h ⊢
  simp only [st_cell (show (23 : Nat) ≠ 20 by decide), st_cell (show (24 : Nat) ≠ 20 by decide), st_cell (show (25 : Nat) ≠ 20 by decide), st_cell (show (26 : Nat) ≠ 20 by decide), st_cell (show (27 : Nat) ≠ 20 by decide), st_same, st_at]
  simp
  exact ⟨h.1, h.2.1, h0, h1, h.2.2.2.2⟩
theorem SatW_iff {M : FMem} {w : Int} {x : Int → Int} : SatW M w x ↔ ∀ k, 0 ≤ k → k < M 20 7 → x (M 24 (M 27 k)) ≤ x (M 23 (M 27 k)) + (M 26 (M 27 k) + w) ∧ x (M 23 (M 27 k)) ≤ x (M 24 (M 27 k)) + (-(M 25 (M 27 k)) + w) := by
  unfold SatW
  rw [Sat1]
  unfold TS
  simp only [st_cell (show (23 : Nat) ≠ 20 by decide), st_cell (show (24 : Nat) ≠ 20 by decide), st_cell (show (25 : Nat) ≠ 20 by decide), st_cell (show (26 : Nat) ≠ 20 by decide), st_cell (show (27 : Nat) ≠ 20 by decide), st_same, st_at]
  simp
theorem SatW_mono {M : FMem} {w w' : Int} (h : w ≤ w') {x : Int → Int} (hx : SatW M w x) : SatW M w' x := by
  rw [SatW_iff] at hx ⊢
  intro k k0 k1
  have := hx k k0 k1
  omega
theorem SatW_big {M : FMem} (hN : NetOk M) : SatW M 131072 (fun _ => 0) := by
  rw [SatW_iff]
  intro k k0 k1
  have := hN.2.2.2.2 k k0 k1
  omega
theorem SatW_off {M M2 : FMem} (h : ∀ b j, 23 ≤ b ∧ b ≤ 27 → M2 b j = M b j) (h7 : M2 20 7 = M 20 7) (w : Int) : SatW M2 w = SatW M w := by
  funext x
  apply propext
  rw [SatW_iff, SatW_iff]
  simp only [h 23 _ (by omega), h 24 _ (by omega), h 25 _ (by omega), h 26 _ (by omega), h 27 _ (by omega), h7]
theorem SatW_self {M : FMem} {w : Int} (h : M 20 8 = w) : Sat (EdX M 1) = SatW M w := by
  funext x
  apply propext
  rw [Sat1, SatW_iff]
  unfold TS
  rw [h]
theorem st_st (M : FMem) (a : Nat) (i v w : Int) : st (st M a i v) a i w = st M a i w := by
  funext b j
  unfold st
  split <;> rfl
theorem NetOk_n8 {M M2 : FMem} (h : ∀ b j, (b < 20 ∨ (20 < b ∧ b < 28) ∨ 29 < b ∨ (b = 20 ∧ j ≠ 8)) → M2 b j = M b j) (hN : NetOk M) : NetOk (st M2 20 8 (M 20 8)) := by
  refine NetOk_off (M := M) (fun b j q => ?_) hN
  unfold st
  split
  · rename_i e; rw [e.1, e.2]
  · rename_i e; exact h b j (by omega)
def pow2 (m : Int) : Prop := m = 65536 ∨ m = 32768 ∨ m = 16384 ∨ m = 8192 ∨ m = 4096 ∨ m = 2048 ∨ m = 1024 ∨ m = 512 ∨ m = 256 ∨ m = 128 ∨ m = 64 ∨ m = 32 ∨ m = 16 ∨ m = 8 ∨ m = 4 ∨ m = 2 ∨ m = 1
theorem pow2_half {m : Int} (h : pow2 m) : (m = 1 ∧ m.tdiv 2 = 0) ∨ (pow2 (m.tdiv 2) ∧ m = 2 * m.tdiv 2 ∧ 1 ≤ m.tdiv 2) := by
  unfold pow2 at h
  rcases h with rfl | rfl | rfl | rfl | rfl | rfl | rfl | rfl | rfl | rfl | rfl | rfl | rfl | rfl | rfl | rfl | rfl
  all_goals first | exact Or.inl ⟨rfl, by decide⟩ | exact Or.inr ⟨by unfold pow2; decide, by decide, by decide⟩
theorem pow2_b {m : Int} (h : pow2 m) : 1 ≤ m ∧ m ≤ 65536 := by unfold pow2 at h; omega
set_option maxHeartbeats 400000 in
theorem A_X4_leastWidening (l : Launch) (g : Cx) (M : FMem) (hN : NetOk M) (h8 : M 20 8 = 0) : AMi l g true fi_X4_leastWidening [fr 34, fr 20] 93 M (fun q M2 => (∀ b j, (b < 20 ∨ (20 < b ∧ b < 28) ∨ 29 < b ∨ (b = 20 ∧ j ≠ 8)) → M2 b j = M b j) ∧ (0 ≤ q ∧ q ≤ 131072) ∧ Feas (SatW M q) ∧ ∀ w, 0 ≤ w → w < q → ¬ Feas (SatW M w)) := by
  refine AMi_intro [fr 34, fr 20, fu, fu] (by decide) (knall rfl) (Nat.le_of_ble_eq_true rfl) rfl ?_
  intro hNV hM0 μ
  have lp14 : ∀ (kq : Nat) (tl m : Int) (M1 : FMem), m.toNat = kq → ((m = 0 ∧ Feas (SatW M (tl + 1))) ∨ (pow2 m ∧ Feas (SatW M (tl + 2 * m)))) → (∀ b j, (b < 20 ∨ (20 < b ∧ b < 28) ∨ 29 < b ∨ (b = 20 ∧ j ≠ 8)) → M1 b j = M b j) → (¬ Feas (SatW M tl)) → (0 ≤ tl ∧ tl + 2 * m ≤ 131072 ∧ tl ≤ 131071) → Wa l g true fi_X4_leastWidening 93 μ (Zi g true fi_X4_leastWidening 93 μ (fun q M2 => (∀ b j, (b < 20 ∨ (20 < b ∧ b < 28) ∨ 29 < b ∨ (b = 20 ∧ j ≠ 8)) → M2 b j = M b j) ∧ (0 ≤ q ∧ q ≤ 131072) ∧ Feas (SatW M q) ∧ ∀ w, 0 ≤ w → w < q → ¬ Feas (SatW M w))) 14 [] [fr 34, fr 20, fi tl, fi m] 93 M1 := by
    intro kq
    induction kq using Nat.strongRecOn with
    | _ kq ih14 =>
    intro tl m M1 hk14 h0 h1 h2 h3
    refine z_iload_n dX4_leastWidening_14 rfl ?_
    refine z_if_le (tgt := 47) dX4_leastWidening_15 (by decide) (fun c1 => ?_) (fun c1 => ?_)
    · refine z_iload_n dX4_leastWidening_47 rfl ?_
      refine z_iconst dX4_leastWidening_48 ⟨by decide, by decide⟩ ?_
      first | refine z_iaddN dX4_leastWidening_49 (by omega) (fun x2 hx2 => ?_) | refine z_iadd dX4_leastWidening_49 (fun x2 hx2 => ?_)
      refine z_iret rfl (by decide) rfl (Nat.sub_self _) dX4_leastWidening_50 ?_
      refine ⟨h1, by omega, ?_, fun w w0 w1 ⟨x, hx⟩ => h2 ⟨x, SatW_mono (by omega) hx⟩⟩
      rcases h0 with z | z
      · rw [show x2 = tl + 1 by omega]; exact z.2
      · have := pow2_b z.1; omega
    · have hp : pow2 m := by rcases h0 with z | z; omega; exact z.1
      have hpb := pow2_b hp
      refine z_aload_nr dX4_leastWidening_18 rfl ?_
      refine z_iload_n dX4_leastWidening_19 rfl ?_
      refine z_iload_n dX4_leastWidening_20 rfl ?_
      first | refine z_iaddN dX4_leastWidening_21 (by omega) (fun x3 hx3 => ?_) | refine z_iadd dX4_leastWidening_21 (fun x3 hx3 => ?_)
      obtain ⟨wv, hwv⟩ : ∃ y, y = x3 := ⟨_, rfl⟩
      refine z_callVv (n2 := 93) (A_X1_widen l g M1 x3) cb_X1_widen cl_X4_35 (clr0 rfl rfl (by decide) (by decide)) rfl (by decide) ⟨_, rfl, rfl⟩ rfl (by decide) rfl (Nat.le_of_ble_eq_true rfl) rfl dX4_leastWidening_22 (fun Mz4 kMz4 hc4 => ?_)
      have hw := hc4
      rw [← hwv] at hw
      have hNw : NetOk Mz4 := by
        have := NetOk_w (w := wv) (NetOk_n8 h1 hN) (by omega) (by omega)
        rw [hw]
        rw [st_st] at this
        exact this
      have hof1 : ∀ b j, (b < 20 ∨ (20 < b ∧ b < 28) ∨ 29 < b ∨ (b = 20 ∧ j ≠ 8)) → Mz4 b j = M b j := by
        intro b j q
        rw [hw]
        by_cases e : b = 20 ∧ j = 8
        · omega
        · unfold st; rw [if_neg e]; exact h1 b j q
      have hS : Sat (EdX Mz4 1) = SatW M wv := by
        rw [SatW_self (w := wv) (by rw [hw, st_same])]
        exact SatW_off (fun b j q => hof1 b j (by omega)) (hof1 20 7 (by omega)) wv
      refine z_iload_n dX4_leastWidening_25 rfl ?_
      refine z_aload_nr dX4_leastWidening_26 rfl ?_
      refine z_callVi (n2 := 93) (A_X1_quarrels l g Mz4 (hNw)) cb_X1_quarrels cl_X4_30 (clr0 rfl rfl (by decide) (by decide)) rfl (by decide) ⟨_, rfl, rfl⟩ rfl (by decide) rfl (Nat.le_of_ble_eq_true rfl) rfl dX4_leastWidening_27 (fun x5 Mz5 bx5 kMz5 hc5 => ?_)
      have hof2 : ∀ b j, (b < 20 ∨ (20 < b ∧ b < 28) ∨ 29 < b ∨ (b = 20 ∧ j ≠ 8)) → Mz5 b j = M b j := fun b j q => (hc5.1 b j (by omega) (by omega)).trans (hof1 b j q)
      have hqq : (x5 = 0 ∧ Feas (SatW M wv)) ∨ (x5 = 1 ∧ ¬ Feas (SatW M wv)) := by
        rw [hS] at hc5
        rcases hc5.2 with ⟨q1, x, q2, -⟩ | ⟨q1, q2⟩
        · exact Or.inl ⟨q1, x, q2⟩
        · exact Or.inr ⟨q1, fun ⟨x, hx⟩ => q2 x hx⟩
      refine z_if_eq (tgt := 37) dX4_leastWidening_30 (by decide) (fun c6 => ?_) (fun c6 => ?_)
      · refine z_iconst dX4_leastWidening_37 ⟨by decide, by decide⟩ ?_
        first | refine z_iaddN dX4_leastWidening_38 (by omega) (fun x7 hx7 => ?_) | refine z_iadd dX4_leastWidening_38 (fun x7 hx7 => ?_)
        refine z_istore_n (loc2 := [fr 34, fr 20, fi x7, fi m]) dX4_leastWidening_39 (by decide) rfl ?_
        refine z_iload_n dX4_leastWidening_40 rfl ?_
        refine z_iconst dX4_leastWidening_41 ⟨by decide, by decide⟩ ?_
        refine z_idiv dX4_leastWidening_42 (by omega) (by have := pow2_half hp; have := pow2_b hp; omega) (fun x8 hx8 => ?_)
        refine z_istore_n (loc2 := [fr 34, fr 20, fi x7, fi x8]) dX4_leastWidening_43 (by decide) rfl ?_
        refine z_goto (tgt := 14) dX4_leastWidening_44 (by decide) ?_
        have hst : (¬ Feas (SatW M x7)) ∧ Feas (SatW M (x7 + m)) := by
          have hqx := hqq
          rcases hqx with ⟨q1, q2⟩ | ⟨q1, q2⟩
          · first
            | (exfalso; omega)
            | (rw [show x7 = tl by omega, show tl + m = wv by omega]; exact ⟨h2, q2⟩)
          · first
            | (exfalso; omega)
            | (rw [show x7 = wv by omega]; refine ⟨q2, ?_⟩; rw [show wv + m = tl + 2 * m by omega]; rcases h0 with z | z; (have := pow2_b hp; omega); exact z.2)
        exact ih14 _ (by have := pow2_half hp; omega) x7 x8 Mz5 rfl (by rw [hx8]; rcases pow2_half hp with z | z; (refine Or.inl ⟨z.2, ?_⟩; rw [← z.1]; exact hst.2); (refine Or.inr ⟨z.1, ?_⟩; rw [← z.2.1]; exact hst.2)) (hof2) (hst.1) (by have := pow2_half hp; omega)
      · refine z_iload_n dX4_leastWidening_33 rfl ?_
        refine z_goto (tgt := 38) dX4_leastWidening_34 (by decide) ?_
        first | refine z_iaddN dX4_leastWidening_38 (by omega) (fun x9 hx9 => ?_) | refine z_iadd dX4_leastWidening_38 (fun x9 hx9 => ?_)
        refine z_istore_n (loc2 := [fr 34, fr 20, fi x9, fi m]) dX4_leastWidening_39 (by decide) rfl ?_
        refine z_iload_n dX4_leastWidening_40 rfl ?_
        refine z_iconst dX4_leastWidening_41 ⟨by decide, by decide⟩ ?_
        refine z_idiv dX4_leastWidening_42 (by omega) (by have := pow2_half hp; have := pow2_b hp; omega) (fun x10 hx10 => ?_)
        refine z_istore_n (loc2 := [fr 34, fr 20, fi x9, fi x10]) dX4_leastWidening_43 (by decide) rfl ?_
        refine z_goto (tgt := 14) dX4_leastWidening_44 (by decide) ?_
        have hst : (¬ Feas (SatW M x9)) ∧ Feas (SatW M (x9 + m)) := by
          have hqx := hqq
          rcases hqx with ⟨q1, q2⟩ | ⟨q1, q2⟩
          · first
            | (exfalso; omega)
            | (rw [show x9 = tl by omega, show tl + m = wv by omega]; exact ⟨h2, q2⟩)
          · first
            | (exfalso; omega)
            | (rw [show x9 = wv by omega]; refine ⟨q2, ?_⟩; rw [show wv + m = tl + 2 * m by omega]; rcases h0 with z | z; (have := pow2_b hp; omega); exact z.2)
        exact ih14 _ (by have := pow2_half hp; omega) x9 x10 Mz5 rfl (by rw [hx10]; rcases pow2_half hp with z | z; (refine Or.inl ⟨z.2, ?_⟩; rw [← z.1]; exact hst.2); (refine Or.inr ⟨z.1, ?_⟩; rw [← z.2.1]; exact hst.2)) (hof2) (hst.1) (by have := pow2_half hp; omega)
  refine z_aload_nr dX4_leastWidening_0 rfl ?_
  refine z_callVi (n2 := 93) (A_X1_quarrels l g M (hN)) cb_X1_quarrels cl_X4_30 (clr0 rfl rfl (by decide) (by decide)) rfl (by decide) ⟨_, rfl, rfl⟩ rfl (by decide) rfl (Nat.le_of_ble_eq_true rfl) rfl dX4_leastWidening_1 (fun x11 Mz11 bx11 kMz11 hc11 => ?_)
  have hS0 := SatW_self h8
  have hof0 : ∀ b j, (b < 20 ∨ (20 < b ∧ b < 28) ∨ 29 < b ∨ (b = 20 ∧ j ≠ 8)) → Mz11 b j = M b j := fun b j q => hc11.1 b j (by omega) (by omega)
  have hqq : (x11 = 0 ∧ Feas (SatW M 0)) ∨ (x11 = 1 ∧ ¬ Feas (SatW M 0)) := by
    rw [hS0] at hc11
    rcases hc11.2 with ⟨q1, x, q2, -⟩ | ⟨q1, q2⟩
    · exact Or.inl ⟨q1, x, q2⟩
    · exact Or.inr ⟨q1, fun ⟨x, hx⟩ => q2 x hx⟩
  refine z_if_ne (tgt := 9) dX4_leastWidening_4 (by decide) (fun c12 => ?_) (fun c12 => ?_)
  · have hnf : ¬ Feas (SatW M 0) := by rcases hqq with q | q; omega; exact q.2
    refine z_iconst dX4_leastWidening_9 ⟨by decide, by decide⟩ ?_
    refine z_istore_n (loc2 := [fr 34, fr 20, fi 0, fu]) dX4_leastWidening_10 (by decide) rfl ?_
    refine z_ldc (c := 65536) cn_X4_34 ⟨by decide, by decide⟩ dX4_leastWidening_11 ?_
    refine z_istore_n (loc2 := [fr 34, fr 20, fi 0, fi 65536]) dX4_leastWidening_13 (by decide) rfl ?_
    exact lp14 _ 0 65536 Mz11 rfl (Or.inr ⟨Or.inl rfl, _, SatW_big hN⟩) (hof0) (hnf) (by omega)
  · refine z_iconst dX4_leastWidening_7 ⟨by decide, by decide⟩ ?_
    refine z_iret rfl (by decide) rfl (Nat.sub_self _) dX4_leastWidening_8 ?_
    refine ⟨hof0, by omega, ?_, fun w w0 w1 => by omega⟩
    rcases hqq with q | q
    · exact q.2
    · omega
