/-! ===== the reference's reader: words, clauses ===== -/
abbrev TWp (M M2 : FMem) : Prop := (∀ b j, ¬ (b = 60 ∧ (j = 36 ∨ j = 39 ∨ j = 40)) → M2 b j = M b j) ∧ M2 60 36 = (rn (isL (tm M)) (M 60 35) (sk (tm M) (M 60 35) (M 60 36))) ∧ M2 60 39 = (sk (tm M) (M 60 35) (M 60 36)) ∧ M2 60 40 = (rn (isL (tm M)) (M 60 35) (sk (tm M) (M 60 35) (M 60 36))) - (sk (tm M) (M 60 35) (M 60 36))
theorem TW_x {t : Int → Int} {n : Int} {s : PS} {M Mw : FMem} (hQ : Qs t n s M) (hf : s.1.1 = 0) (hS : SOk n s) (tw : TWp M Mw) : offS M Mw ∧ tm Mw = t ∧ Mw 60 35 = n ∧ Mw 60 37 = 0 ∧ Mw 60 38 = -1 ∧ Mw 60 39 = sk t n s.1.2.2 ∧ Mw 60 36 = rn (isL t) n (sk t n s.1.2.2) ∧ Mw 60 40 = rn (isL t) n (sk t n s.1.2.2) - sk t n s.1.2.2 ∧ (0 ≤ sk t n s.1.2.2 ∧ sk t n s.1.2.2 ≤ rn (isL t) n (sk t n s.1.2.2) ∧ rn (isL t) n (sk t n s.1.2.2) ≤ n) := by
  obtain ⟨a, b, c, d⟩ := tw
  obtain ⟨q1, q2, q3, q4, -⟩ := hQ
  obtain ⟨p1, p2, p3⟩ := q4 hf
  have ho : offS M Mw := fun b j q => a b j (by omega)
  have hx := offS_tx ho
  have hs := hS hf
  have hb := sk_b (t := t) hs.1 hs.2
  rw [q1, q2, p1] at b c d
  exact ⟨ho, hx.1.trans q1, hx.2.trans q2, (a 60 37 (by decide)).trans p2, (a 60 38 (by decide)).trans p3, c, b, d, hb.1, rn_ge _ _ _, rn_le hb.2⟩
theorem word_pre {t : Int → Int} {n : Int} {s : PS} {M Mw : FMem} (hQ : Qs t n s M) (hf : s.1.1 = 0) (hS : SOk n s) (hn : 0 ≤ n ∧ n ≤ 240) (tw : TWp M Mw) : (0 ≤ Mw 60 39 ∧ 0 ≤ Mw 60 40) ∧ Mw 60 39 + Mw 60 40 ≤ Mw 60 35 ∧ Mw 60 35 ≤ 240 ∧ rn (isL (tm Mw)) (Mw 60 35) (Mw 60 39) = Mw 60 39 + Mw 60 40 := by
  obtain ⟨-, x2, x3, -, -, x6, -, x8, x9⟩ := TW_x hQ hf hS tw
  rw [x2, x3, x6, x8]
  exact ⟨⟨by omega, by omega⟩, by omega, by omega, by omega⟩
theorem word_op {t : Int → Int} {n x w r : Int} {s : PS} {j : Nat} {M Mw M2 : FMem} (hj : j < 11) (hQ : Qs t n s M) (hf : s.1.1 = 0) (hS : SOk n s) (tw : TWp M Mw) (iw : ((x = 1 ∧ isW (tm Mw) (Mw 60 35) (Mw 60 39) j) ∨ (x = 0 ∧ ¬ isW (tm Mw) (Mw 60 35) (Mw 60 39) j))) (hw : w = Mw 60 39) (wt : ((x = 0 ∧ Mw 60 37 = 0 ∧ r = 0 ∧ M2 = st (st Mw 60 37 1) 60 38 w) ∨ (¬ (x = 0 ∧ Mw 60 37 = 0) ∧ M2 = Mw ∧ ((r = 1 ∧ Mw 60 37 = 0) ∨ (r = 0 ∧ Mw 60 37 ≠ 0))))) : offS M M2 ∧ Qs t n (opW t n j s) M2 := by
  obtain ⟨x1, x2, x3, x4, x5, x6, x7, x8, x9⟩ := TW_x hQ hf hS tw
  rw [x2, x3, x6] at iw
  rcases iw with ⟨i1, i2⟩ | ⟨i1, i2⟩
  · have hop : opW t n j s = ((0, 0, sk t n s.1.2.2 + wl j), s.2) := by unfold opW; rw [if_pos hf, if_pos i2]
    rcases wt with z | z
    · omega
    · rw [z.2.1]
      exact ⟨x1, Qs_ok hQ x1 (by rw [hop]) (by rw [x7]; exact isW_run hj i2) x4 x5⟩
  · have hop : opW t n j s = ((1, sk t n s.1.2.2, 0), s.2) := by unfold opW; rw [if_pos hf, if_neg i2]
    rcases wt with z | z
    · have ho : offS M M2 := by rw [z.2.2.2]; exact offS_st (offS_st x1 (by omega)) (by omega)
      refine ⟨ho, Qs_no hQ ho (by rw [hop]) (by decide) ?_ ?_⟩
      · rw [z.2.2.2, st_at, if_neg (by decide), st_same]
      · rw [z.2.2.2, st_same, hw, x6]
    · exact absurd ⟨i1, x4⟩ z.1
theorem word_opA {t : Int → Int} {n x w r gd : Int} {s : PS} {M Mw M2 : FMem} (hQ : Qs t n s M) (hf : s.1.1 = 0) (hS : SOk n s) (tw : TWp M Mw) (i9 : ((x = 1 ∧ isW (tm Mw) (Mw 60 35) (Mw 60 39) 9) ∨ (x = 0 ∧ ¬ isW (tm Mw) (Mw 60 35) (Mw 60 39) 9))) (ig : (gd = 1 ∧ (isW (tm Mw) (Mw 60 35) (Mw 60 39) 9 ∨ isW (tm Mw) (Mw 60 35) (Mw 60 39) 10)) ∨ (gd = 0 ∧ ¬ (isW (tm Mw) (Mw 60 35) (Mw 60 39) 9 ∨ isW (tm Mw) (Mw 60 35) (Mw 60 39) 10))) (hw : w = Mw 60 39) (wt : ((gd = 0 ∧ Mw 60 37 = 0 ∧ r = 0 ∧ M2 = st (st Mw 60 37 1) 60 38 w) ∨ (¬ (gd = 0 ∧ Mw 60 37 = 0) ∧ M2 = Mw ∧ ((r = 1 ∧ Mw 60 37 = 0) ∨ (r = 0 ∧ Mw 60 37 ≠ 0))))) : offS M M2 ∧ Qs t n (opA t n s) M2 ∧ x = abv t n s := by
  have hx := TW_x hQ hf hS tw
  obtain ⟨x1, x2, x3, x4, x5, x6, x7, x8, x9⟩ := hx
  rw [x2, x3, x6] at i9 ig
  have hab : x = abv t n s := by
    unfold abv
    rcases i9 with z | z
    · rw [c01_t z.2]; exact z.1
    · rw [c01_f z.2]; exact z.1
  by_cases h9 : isW t n (sk t n s.1.2.2) 9
  · have hA : opA t n s = ((0, 0, sk t n s.1.2.2 + wl 9), s.2) := by unfold opA; rw [if_pos ⟨hf, h9⟩]; unfold opW; rw [if_pos hf, if_pos h9]
    have hg1 : gd = 1 := by
      rcases ig with z | z
      · exact z.1
      · exact absurd (Or.inl h9) z.2
    rcases wt with z | z
    · omega
    · rw [z.2.1]
      exact ⟨x1, Qs_ok hQ x1 (by rw [hA]) (by rw [x7]; exact isW_run (by decide) h9) x4 x5, hab⟩
  · have hA : opA t n s = opW t n 10 s := by unfold opA; rw [if_neg (fun z => h9 z.2)]
    have ib : (gd = 1 ∧ isW (tm Mw) (Mw 60 35) (Mw 60 39) 10) ∨ (gd = 0 ∧ ¬ isW (tm Mw) (Mw 60 35) (Mw 60 39) 10) := by
      rw [x2, x3, x6]
      rcases ig with z | z
      · exact Or.inl ⟨z.1, z.2.resolve_left h9⟩
      · exact Or.inr ⟨z.1, fun y => z.2 (Or.inr y)⟩
    have := word_op (j := 10) (by decide) hQ hf hS tw ib hw wt
    rw [hA]
    exact ⟨this.1, this.2, hab⟩
theorem cdw_0 : (5 : Int) = wl 0 ∧ ∀ k, 0 ≤ k → k < wl 0 → cd6 99 108 97 105 109 0 k = wc 0 k := by
  have h0 : (5 : Int) = wl 0 := by decide +kernel
  refine ⟨h0, fun k k0 k1 => ?_⟩
  rw [← h0] at k1
  have hk : k = 0 ∨ k = 1 ∨ k = 2 ∨ k = 3 ∨ k = 4 := by omega
  rcases hk with rfl | rfl | rfl | rfl | rfl <;> decide +kernel
theorem cdw_1 : (4 : Int) = wl 1 ∧ ∀ k, 0 ≤ k → k < wl 1 → cd6 115 111 114 116 0 0 k = wc 1 k := by
  have h0 : (4 : Int) = wl 1 := by decide +kernel
  refine ⟨h0, fun k k0 k1 => ?_⟩
  rw [← h0] at k1
  have hk : k = 0 ∨ k = 1 ∨ k = 2 ∨ k = 3 := by omega
  rcases hk with rfl | rfl | rfl | rfl <;> decide +kernel
theorem cdw_2 : (4 : Int) = wl 2 ∧ ∀ k, 0 ≤ k → k < wl 2 → cd6 100 117 115 116 0 0 k = wc 2 k := by
  have h0 : (4 : Int) = wl 2 := by decide +kernel
  refine ⟨h0, fun k k0 k1 => ?_⟩
  rw [← h0] at k1
  have hk : k = 0 ∨ k = 1 ∨ k = 2 ∨ k = 3 := by omega
  rcases hk with rfl | rfl | rfl | rfl <;> decide +kernel
theorem cdw_3 : (4 : Int) = wl 3 ∧ ∀ k, 0 ≤ k → k < wl 3 → cd6 98 108 117 114 0 0 k = wc 3 k := by
  have h0 : (4 : Int) = wl 3 := by decide +kernel
  refine ⟨h0, fun k k0 k1 => ?_⟩
  rw [← h0] at k1
  have hk : k = 0 ∨ k = 1 ∨ k = 2 ∨ k = 3 := by omega
  rcases hk with rfl | rfl | rfl | rfl <;> decide +kernel
theorem cdw_4 : (3 : Int) = wl 4 ∧ ∀ k, 0 ≤ k → k < wl 4 → cd6 111 119 110 0 0 0 k = wc 4 k := by
  have h0 : (3 : Int) = wl 4 := by decide +kernel
  refine ⟨h0, fun k k0 k1 => ?_⟩
  rw [← h0] at k1
  have hk : k = 0 ∨ k = 1 ∨ k = 2 := by omega
  rcases hk with rfl | rfl | rfl <;> decide +kernel
theorem cdw_5 : (4 : Int) = wl 5 ∧ ∀ k, 0 ≤ k → k < wl 5 → cd6 116 105 109 101 0 0 k = wc 5 k := by
  have h0 : (4 : Int) = wl 5 := by decide +kernel
  refine ⟨h0, fun k k0 k1 => ?_⟩
  rw [← h0] at k1
  have hk : k = 0 ∨ k = 1 ∨ k = 2 ∨ k = 3 := by omega
  rcases hk with rfl | rfl | rfl | rfl <;> decide +kernel
theorem cdw_6 : (2 : Int) = wl 6 ∧ ∀ k, 0 ≤ k → k < wl 6 → cd6 116 111 0 0 0 0 k = wc 6 k := by
  have h0 : (2 : Int) = wl 6 := by decide +kernel
  refine ⟨h0, fun k k0 k1 => ?_⟩
  rw [← h0] at k1
  have hk : k = 0 ∨ k = 1 := by omega
  rcases hk with rfl | rfl <;> decide +kernel
theorem cdw_7 : (6 : Int) = wl 7 ∧ ∀ k, 0 ≤ k → k < wl 7 → cd6 99 111 108 111 117 114 k = wc 7 k := by
  have h0 : (6 : Int) = wl 7 := by decide +kernel
  refine ⟨h0, fun k k0 k1 => ?_⟩
  rw [← h0] at k1
  have hk : k = 0 ∨ k = 1 ∨ k = 2 ∨ k = 3 ∨ k = 4 ∨ k = 5 := by omega
  rcases hk with rfl | rfl | rfl | rfl | rfl | rfl <;> decide +kernel
theorem cdw_8 : (2 : Int) = wl 8 ∧ ∀ k, 0 ≤ k → k < wl 8 → cd6 98 121 0 0 0 0 k = wc 8 k := by
  have h0 : (2 : Int) = wl 8 := by decide +kernel
  refine ⟨h0, fun k k0 k1 => ?_⟩
  rw [← h0] at k1
  have hk : k = 0 ∨ k = 1 := by omega
  rcases hk with rfl | rfl <;> decide +kernel
theorem cdw_9 : (5 : Int) = wl 9 ∧ ∀ k, 0 ≤ k → k < wl 9 → cd6 97 98 111 118 101 0 k = wc 9 k := by
  have h0 : (5 : Int) = wl 9 := by decide +kernel
  refine ⟨h0, fun k k0 k1 => ?_⟩
  rw [← h0] at k1
  have hk : k = 0 ∨ k = 1 ∨ k = 2 ∨ k = 3 ∨ k = 4 := by omega
  rcases hk with rfl | rfl | rfl | rfl | rfl <;> decide +kernel
theorem cdw_10 : (5 : Int) = wl 10 ∧ ∀ k, 0 ≤ k → k < wl 10 → cd6 98 101 108 111 119 0 k = wc 10 k := by
  have h0 : (5 : Int) = wl 10 := by decide +kernel
  refine ⟨h0, fun k k0 k1 => ?_⟩
  rw [← h0] at k1
  have hk : k = 0 ∨ k = 1 ∨ k = 2 ∨ k = 3 ∨ k = 4 := by omega
  rcases hk with rfl | rfl | rfl | rfl | rfl <;> decide +kernel
set_option maxHeartbeats 400000 in
theorem A_X8_takeTo (l : Launch) (g : Cx) (M : FMem) (t : Int → Int) (n : Int) (s : PS) (hQ : Qs t n s M) (hS : SOk n s) (hn : 0 ≤ n ∧ n ≤ 240) : AMi l g true fi_X8_takeTo [fr 60] 93 M (fun r M2 => offS M M2 ∧ Qs t n (opW t n 6 s) M2) := by
  refine AMi_intro [fr 60] (by decide) (knall rfl) (Nat.le_of_ble_eq_true rfl) rfl ?_
  intro hNV hM0 μ
  have hq1 := hQ.1
  have hq2 := hQ.2.1
  have hq0 := hQ.2.2.1
  have hfo : M 60 37 = s.1.1 := by
    by_cases e : s.1.1 = 0
    · rw [(hQ.2.2.2.1 e).2.1, e]
    · exact (hQ.2.2.2.2 e).1
  refine z_aload_nr dX8_takeTo_0 rfl ?_
  refine z_geti (kz := 37) fl_X8_205 rfl (by decide) rfl dX8_takeTo_1 (fun x1 hx1 bx1 => ?_)
  refine z_if_le (tgt := 9) dX8_takeTo_4 (by decide) (fun c2 => ?_) (fun c2 => ?_)
  · have hf0 : s.1.1 = 0 := by omega
    have hR1 := hQ.2.2.2.1 hf0
    have hsp := hS hf0
    refine z_aload_nr dX8_takeTo_9 rfl ?_
    skip
    refine z_callVv (n2 := 93) (A_X8_takeWord l g M (by omega) (by omega)) cb_X8_takeWord cl_X8_231 (clr0 rfl rfl (by decide) (by decide)) rfl (by decide) ⟨_, rfl, rfl⟩ rfl (by decide) rfl (Nat.le_of_ble_eq_true rfl) rfl dX8_takeTo_10 (fun Mz3 kMz3 hc3 => ?_)
    have tw := hc3
    have wp := word_pre hQ hf0 hS hn tw
    refine z_aload_nr dX8_takeTo_13 rfl ?_
    refine z_aload_nr dX8_takeTo_14 rfl ?_
    refine z_iconst dX8_takeTo_15 ⟨by decide, by decide⟩ ?_
    refine z_bipush dX8_takeTo_16 ⟨by decide, by decide⟩ (by decide) ?_
    refine z_bipush dX8_takeTo_18 ⟨by decide, by decide⟩ (by decide) ?_
    refine z_iconst dX8_takeTo_20 ⟨by decide, by decide⟩ ?_
    refine z_iconst dX8_takeTo_21 ⟨by decide, by decide⟩ ?_
    refine z_iconst dX8_takeTo_22 ⟨by decide, by decide⟩ ?_
    refine z_iconst dX8_takeTo_23 ⟨by decide, by decide⟩ ?_
    refine z_callVip (n2 := 93) (A_X8_isWord l g Mz3 2 116 111 0 0 0 0 6 (by decide) (cdw_6.1) (cdw_6.2) (wp.1) (wp.2.1) (wp.2.2.1) (wp.2.2.2)) cb_X8_isWord cl_X8_234 (clr0 rfl rfl (by decide) (by decide)) rfl (by decide) ⟨_, rfl, rfl⟩ rfl (by decide) rfl (Nat.le_of_ble_eq_true rfl) rfl dX8_takeTo_24 (fun x4 bx4 hx4 => ?_)
    have iw := hx4
    refine z_iconst dX8_takeTo_27 ⟨by decide, by decide⟩ ?_
    refine z_aload_nr dX8_takeTo_28 rfl ?_
    refine z_geti (kz := 39) fl_X8_212 rfl (by decide) rfl dX8_takeTo_29 (fun x5 hx5 bx5 => ?_)
    have hwf := hx5
    refine z_callVi (n2 := 93) (A_X8_want l g Mz3 x4 1 x5 (by omega) (by decide)) cb_X8_want cl_X8_226 (clr0 rfl rfl (by decide) (by decide)) rfl (by decide) ⟨_, rfl, rfl⟩ rfl (by decide) rfl (Nat.le_of_ble_eq_true rfl) rfl dX8_takeTo_32 (fun x6 Mz6 bx6 kMz6 hc6 => ?_)
    have wt := hc6
    refine z_zret rfl (by omega) (by decide) rfl (Nat.sub_self _) dX8_takeTo_35 ?_
    exact word_op (by decide) hQ hf0 hS tw iw hwf wt
  · refine z_iconst dX8_takeTo_7 ⟨by decide, by decide⟩ ?_
    refine z_zret rfl (by omega) (by decide) rfl (Nat.sub_self _) dX8_takeTo_8 ?_
    refine ⟨offS_rfl M, ?_⟩
    rw [opW_f (by omega)]
    exact hQ
