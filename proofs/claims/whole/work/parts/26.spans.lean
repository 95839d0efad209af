/-! ===== spans of the tellings ===== -/
def evGS (t1 c0 c1 t c : Int) : Int := t1 * t + (if c < 0 then c0 else c1) * c
def evLS (t0 c0 c1 t c : Int) : Int := t0 * t + (if c < 0 then c1 else c0) * c
def lowS (k fs se bl ev dq : Int) : Int := if k = 0 then fs - se + (-ev) / 1000 + (-dq) / 10 - bl else fs - bl
def highS (k fs se bl ev dq : Int) : Int := if k = 0 then fs + se - ev / 1000 - dq / 10 + bl else se + bl
/-- a telling as it was told: kind, list, sort, home, its two numbers, time, colour -/
def TelOk (k li so ho fs se t c : Int) : Prop := (0 ≤ li ∧ li ≤ 5) ∧ ((k = 0 ∧ 0 ≤ so ∧ so ≤ 5 ∧ 0 ≤ ho ∧ ho ≤ 9 ∧ -5000 ≤ fs ∧ fs ≤ 30000 ∧ 0 ≤ se ∧ se ≤ 999 ∧ 0 ≤ t ∧ t ≤ 3000 ∧ -500 ≤ c ∧ c ≤ 3000) ∨ (k = 1 ∧ so = -1 ∧ 0 ≤ ho ∧ ho ≤ 9 ∧ -40000 ≤ fs ∧ fs ≤ se ∧ se ≤ 40000) ∨ (k = 2 ∧ 0 ≤ so ∧ so ≤ 5 ∧ ho = -1 ∧ -40000 ≤ fs ∧ fs ≤ se ∧ se ≤ 40000))
theorem ev_b {a b c t u : Int} (ha : -9999 ≤ a ∧ a ≤ 9999) (hb : -9999 ≤ b ∧ b ≤ 9999) (hc : -9999 ≤ c ∧ c ≤ 9999) (ht : 0 ≤ t ∧ t ≤ 3000) (hu : -500 ≤ u ∧ u ≤ 3000) : (-59994000 ≤ evGS a b c t u ∧ evGS a b c t u ≤ 59994000) ∧ (-59994000 ≤ evLS a b c t u ∧ evLS a b c t u ≤ 59994000) := by
  have h1 := mulb ha (show -3000 ≤ t ∧ t ≤ 3000 by omega)
  have h2 := mulb hb (show -3000 ≤ u ∧ u ≤ 3000 by omega)
  have h3 := mulb hc (show -3000 ≤ u ∧ u ≤ 3000 by omega)
  unfold evGS evLS
  split <;> omega
/-- the rules that a rules object holds are in bounds -/
def RulX (M : FMem) (r : Nat) : Prop := (∀ s, 0 ≤ s → s < 6 → -9999 ≤ M (r + 1) s ∧ M (r + 1) s ≤ M (r + 2) s ∧ M (r + 2) s ≤ 9999 ∧ -9999 ≤ M (r + 3) s ∧ M (r + 3) s ≤ M (r + 4) s ∧ M (r + 4) s ≤ 9999) ∧ (∀ l, 0 ≤ l → l < 6 → 0 ≤ M (r + 5) l ∧ M (r + 5) l ≤ 999) ∧ (0 ≤ M r 5 ∧ M r 5 ≤ M r 6 ∧ M r 6 ≤ 99) ∧ (0 ≤ M r 7 ∧ M r 7 ≤ 9999) ∧ (0 ≤ M r 11 ∧ M r 11 ≤ 8) ∧ ∀ k, 0 ≤ k → k < M r 11 → 0 ≤ M (r + 6) k ∧ M (r + 6) k ≤ 9 ∧ -40000 ≤ M (r + 7) k ∧ M (r + 7) k ≤ 40000
def RedX (M : FMem) : Prop := ∀ h, 0 ≤ h → h < 10 → 0 ≤ M 15 h ∧ M 15 h ≤ M 16 h ∧ M 16 h ≤ 2000
def TelX (M : FMem) (i : Int) : Prop := TelOk (M 2 i) (M 3 i) (M 4 i) (M 5 i) (M 6 i) (M 7 i) (M 8 i) (M 9 i)
def lowX (M : FMem) (r : Nat) (i : Int) : Int := lowS (M 2 i) (M 6 i) (M 7 i) (M (r + 5) (M 3 i)) (evGS (M (r + 2) (M 4 i)) (M (r + 3) (M 4 i)) (M (r + 4) (M 4 i)) (M 8 i) (M 9 i)) (M 16 (M 5 i) * M r 6)
def highX (M : FMem) (r : Nat) (i : Int) : Int := highS (M 2 i) (M 6 i) (M 7 i) (M (r + 5) (M 3 i)) (evLS (M (r + 1) (M 4 i)) (M (r + 3) (M 4 i)) (M (r + 4) (M 4 i)) (M 8 i) (M 9 i)) (M 15 (M 5 i) * M r 5)
set_option maxHeartbeats 400000 in
theorem A_J9_floorDiv_7cf53 (l : Launch) (g : Cx) (M : FMem) (x : Int) : AMi l g true fi_J9_floorDiv_7cf53 [fi x, fi 1000] 93 M (fun r M2 => M2 = M ∧ (fun r => r = x / 1000) r) := by
  refine AMi_introF [fi x, fi 1000, fu] (by decide +kernel) (knall rfl) (Nat.le_of_ble_eq_true rfl) rfl ?_
  intro hNV hM0 μ
  have bx : N32 x := hNV (fi x) (by simp)
  have hcs := tdiv_cs x 1000 (by decide)
  refine z_iload_n dJ9_floorDiv_7cf53_0 rfl ?_
  refine z_iload_n dJ9_floorDiv_7cf53_1 rfl ?_
  refine z_idiv dJ9_floorDiv_7cf53_2 (by omega) (by omega) (fun x1 hx1 => ?_)
  refine z_istore_n (loc2 := [fi x, fi 1000, fi x1]) dJ9_floorDiv_7cf53_3 (by decide) rfl ?_
  refine z_iload_n dJ9_floorDiv_7cf53_4 rfl ?_
  refine z_iload_n dJ9_floorDiv_7cf53_5 rfl ?_
  refine z_ixor dJ9_floorDiv_7cf53_6 (fun x2 hx2 bx2 => ?_)
  have hxn := xor32_neg bx
  rw [← hx2] at hxn
  refine z_if_ge (tgt := 21) dJ9_floorDiv_7cf53_7 (by decide) (fun c3 => ?_) (fun c3 => ?_)
  · refine z_iload_n dJ9_floorDiv_7cf53_21 rfl ?_
    refine z_iret rfl (by decide) rfl (Nat.sub_self _) dJ9_floorDiv_7cf53_22 ?_
    refine ⟨rfl, ?_⟩
    omega
  · refine z_iload_n dJ9_floorDiv_7cf53_10 rfl ?_
    refine z_iload_n dJ9_floorDiv_7cf53_11 rfl ?_
    first | refine z_imulN dJ9_floorDiv_7cf53_12 (by omega) (fun x4 hx4 => ?_) | refine z_imul dJ9_floorDiv_7cf53_12 (fun x4 hx4 => ?_)
    refine z_iload_n dJ9_floorDiv_7cf53_13 rfl ?_
    refine z_icmp_eq (tgt := 21) dJ9_floorDiv_7cf53_14 (by decide) (fun c5 => ?_) (fun c5 => ?_)
    · refine z_iload_n dJ9_floorDiv_7cf53_21 rfl ?_
      refine z_iret rfl (by decide) rfl (Nat.sub_self _) dJ9_floorDiv_7cf53_22 ?_
      refine ⟨rfl, ?_⟩
      omega
    · refine z_iload_n dJ9_floorDiv_7cf53_17 rfl ?_
      refine z_iconst dJ9_floorDiv_7cf53_18 ⟨by decide, by decide⟩ ?_
      first | refine z_isubN dJ9_floorDiv_7cf53_19 (by omega) (fun x6 hx6 => ?_) | refine z_isub dJ9_floorDiv_7cf53_19 (fun x6 hx6 => ?_)
      refine z_iret rfl (by decide) rfl (Nat.sub_self _) dJ9_floorDiv_7cf53_20 ?_
      refine ⟨rfl, ?_⟩
      omega
set_option maxHeartbeats 400000 in
theorem A_J9_floorDiv_f86c9 (l : Launch) (g : Cx) (M : FMem) (x : Int) (hb : -4611686018427387904 ≤ x ∧ x ≤ 4611686018427387904) : AMl l g true fi_J9_floorDiv_f86c9 [fl x, fl 1000] 93 M (fun r M2 => M2 = M ∧ (fun r => r = x / 1000) r) := by
  refine AMl_introF [fl x, fu, fl 1000, fu, fu, fu] (by decide +kernel) (knall rfl) (Nat.le_of_ble_eq_true rfl) rfl ?_
  intro hNV hM0 μ
  have bx : N64 x := hNV (fl x) (by simp)
  have hcs := tdiv_cs x 1000 (by decide)
  refine z_lload_n dJ9_floorDiv_f86c9_0 rfl ?_
  refine z_lload_n dJ9_floorDiv_f86c9_1 rfl ?_
  refine z_ldiv dJ9_floorDiv_f86c9_2 (by omega) (by omega) (fun x1 hx1 => ?_)
  refine z_lstore (loc2 := [fl x, fu, fl 1000, fu, fl x1, fu]) dJ9_floorDiv_f86c9_3 (by decide) rfl ?_
  refine z_lload_n dJ9_floorDiv_f86c9_5 rfl ?_
  refine z_lload_n dJ9_floorDiv_f86c9_6 rfl ?_
  refine z_lxor dJ9_floorDiv_f86c9_7 (fun x2 hx2 bx2 => ?_)
  have hxn := xor64_neg bx
  rw [← hx2] at hxn
  refine z_lconst0 dJ9_floorDiv_f86c9_8 ?_
  refine z_lcmp_ge (tgt := 27) dJ9_floorDiv_f86c9_9 dJ9_floorDiv_f86c9_10 (by decide) (fun c3 => ?_) (fun c3 => ?_)
  · refine z_lload dJ9_floorDiv_f86c9_27 rfl ?_
    refine z_lret rfl (by decide) rfl (Nat.sub_self _) dJ9_floorDiv_f86c9_29 ?_
    refine ⟨rfl, ?_⟩
    omega
  · refine z_lload dJ9_floorDiv_f86c9_13 rfl ?_
    refine z_lload_n dJ9_floorDiv_f86c9_15 rfl ?_
    first | refine z_lmulN dJ9_floorDiv_f86c9_16 (by omega) (fun x4 hx4 => ?_) | refine z_lmul dJ9_floorDiv_f86c9_16 (fun x4 hx4 => ?_)
    refine z_lload_n dJ9_floorDiv_f86c9_17 rfl ?_
    refine z_lcmp_eq (tgt := 27) dJ9_floorDiv_f86c9_18 dJ9_floorDiv_f86c9_19 (by decide) (fun c5 => ?_) (fun c5 => ?_)
    · refine z_lload dJ9_floorDiv_f86c9_27 rfl ?_
      refine z_lret rfl (by decide) rfl (Nat.sub_self _) dJ9_floorDiv_f86c9_29 ?_
      refine ⟨rfl, ?_⟩
      omega
    · refine z_lload dJ9_floorDiv_f86c9_22 rfl ?_
      refine z_lconst1 dJ9_floorDiv_f86c9_24 ?_
      first | refine z_lsubN dJ9_floorDiv_f86c9_25 (by omega) (fun x6 hx6 => ?_) | refine z_lsub dJ9_floorDiv_f86c9_25 (fun x6 hx6 => ?_)
      refine z_lret rfl (by decide) rfl (Nat.sub_self _) dJ9_floorDiv_f86c9_26 ?_
      refine ⟨rfl, ?_⟩
      omega
set_option maxHeartbeats 400000 in
theorem A_J9_max_f86c9 (l : Launch) (g : Cx) (M : FMem) (x z : Int) : AMl l g true fi_J9_max_f86c9 [fl x, fl z] 93 M (fun r M2 => M2 = M ∧ (fun r => r = if x < z then z else x) r) := by
  refine AMl_introF [fl x, fu, fl z, fu] (by decide +kernel) (knall rfl) (Nat.le_of_ble_eq_true rfl) rfl ?_
  intro hNV hM0 μ
  have bx : N64 x := hNV (fl x) (by simp)
  have bz : N64 z := hNV (fl z) (by simp)
  refine z_lload_n dJ9_max_f86c9_0 rfl ?_
  refine z_lload_n dJ9_max_f86c9_1 rfl ?_
  refine z_lcmp_lt (tgt := 10) dJ9_max_f86c9_2 dJ9_max_f86c9_3 (by decide) (fun c1 => ?_) (fun c1 => ?_)
  · refine z_lload_n dJ9_max_f86c9_10 rfl ?_
    refine z_lret rfl (by decide) rfl (Nat.sub_self _) dJ9_max_f86c9_11 ?_
    refine ⟨rfl, ?_⟩
    first | (rw [if_pos (by omega)]) | (rw [if_neg (by omega)])
  · refine z_lload_n dJ9_max_f86c9_6 rfl ?_
    refine z_goto (tgt := 11) dJ9_max_f86c9_7 (by decide) ?_
    refine z_lret rfl (by decide) rfl (Nat.sub_self _) dJ9_max_f86c9_11 ?_
    refine ⟨rfl, ?_⟩
    first | (rw [if_pos (by omega)]) | (rw [if_neg (by omega)])
set_option maxHeartbeats 400000 in
theorem A_J9_max_7cf53 (l : Launch) (g : Cx) (M : FMem) (x z : Int) : AMi l g true fi_J9_max_7cf53 [fi x, fi z] 93 M (fun r M2 => M2 = M ∧ (fun r => r = if x < z then z else x) r) := by
  refine AMi_introF [fi x, fi z] (by decide +kernel) (knall rfl) (Nat.le_of_ble_eq_true rfl) rfl ?_
  intro hNV hM0 μ
  have bx : N32 x := hNV (fi x) (by simp)
  have bz : N32 z := hNV (fi z) (by simp)
  refine z_iload_n dJ9_max_7cf53_0 rfl ?_
  refine z_iload_n dJ9_max_7cf53_1 rfl ?_
  refine z_icmp_lt (tgt := 9) dJ9_max_7cf53_2 (by decide) (fun c1 => ?_) (fun c1 => ?_)
  · refine z_iload_n dJ9_max_7cf53_9 rfl ?_
    refine z_iret rfl (by decide) rfl (Nat.sub_self _) dJ9_max_7cf53_10 ?_
    refine ⟨rfl, ?_⟩
    first | (rw [if_pos (by omega)]) | (rw [if_neg (by omega)])
  · refine z_iload_n dJ9_max_7cf53_5 rfl ?_
    refine z_goto (tgt := 10) dJ9_max_7cf53_6 (by decide) ?_
    refine z_iret rfl (by decide) rfl (Nat.sub_self _) dJ9_max_7cf53_10 ?_
    refine ⟨rfl, ?_⟩
    first | (rw [if_pos (by omega)]) | (rw [if_neg (by omega)])
set_option maxHeartbeats 400000 in
theorem A_J9_min_7cf53 (l : Launch) (g : Cx) (M : FMem) (x z : Int) : AMi l g true fi_J9_min_7cf53 [fi x, fi z] 93 M (fun r M2 => M2 = M ∧ (fun r => r = if z < x then z else x) r) := by
  refine AMi_introF [fi x, fi z] (by decide +kernel) (knall rfl) (Nat.le_of_ble_eq_true rfl) rfl ?_
  intro hNV hM0 μ
  have bx : N32 x := hNV (fi x) (by simp)
  have bz : N32 z := hNV (fi z) (by simp)
  refine z_iload_n dJ9_min_7cf53_0 rfl ?_
  refine z_iload_n dJ9_min_7cf53_1 rfl ?_
  refine z_icmp_gt (tgt := 9) dJ9_min_7cf53_2 (by decide) (fun c1 => ?_) (fun c1 => ?_)
  · refine z_iload_n dJ9_min_7cf53_9 rfl ?_
    refine z_iret rfl (by decide) rfl (Nat.sub_self _) dJ9_min_7cf53_10 ?_
    refine ⟨rfl, ?_⟩
    first | (rw [if_pos (by omega)]) | (rw [if_neg (by omega)])
  · refine z_iload_n dJ9_min_7cf53_5 rfl ?_
    refine z_goto (tgt := 10) dJ9_min_7cf53_6 (by decide) ?_
    refine z_iret rfl (by decide) rfl (Nat.sub_self _) dJ9_min_7cf53_10 ?_
    refine ⟨rfl, ?_⟩
    first | (rw [if_pos (by omega)]) | (rw [if_neg (by omega)])
set_option maxHeartbeats 400000 in
theorem A_X0_leastOf42 (l : Launch) (g : Cx) (M : FMem) (h : Int) (hh : 0 ≤ h ∧ h < 10) (hR : RedX M) (hU : RulX M 42) : AMi l g true fi_X0_leastOf [fr 14, fi h, fr 42] 93 M (fun r M2 => M2 = M ∧ (fun q => q = M 15 h * M 42 5 / 10) r) := by
  refine AMi_intro [fr 14, fi h, fr 42] (by decide) (knall rfl) (Nat.le_of_ble_eq_true rfl) rfl ?_
  intro hNV hM0 μ
  have bh : N32 h := hNV (fi h) (by simp)
  have h1 := hR h hh.1 hh.2
  have h2 := hU.2.2.1
  have hm := mulb (A := 2000) (B := 99) (show -2000 ≤ M 15 h ∧ M 15 h ≤ 2000 by omega) (show -99 ≤ M 42 5 ∧ M 42 5 ≤ 99 by omega)
  have hm0 : 0 ≤ M 15 h * M 42 5 := Int.mul_nonneg (by omega) (by omega)
  have hcs := tdiv_cs (M 15 h * M 42 5) 10 (by decide)
  refine z_aload_nr dX0_leastOf_0 rfl ?_
  refine z_getr (b := 15) fl_X0_9 rfl (by decide) rf_14_0 rfl dX0_leastOf_1 ?_
  refine z_iload_n dX0_leastOf_4 rfl ?_
  refine z_iald rfl (by decide) (by omega) (by omega) dX0_leastOf_5 (fun x1 hx1 bx1 => ?_)
  refine z_aload_nr dX0_leastOf_6 rfl ?_
  refine z_geti (kz := 5) fl_X0_18 rfl (by decide) rfl dX0_leastOf_7 (fun x2 hx2 bx2 => ?_)
  refine z_imulN dX0_leastOf_10 (by subst_vars; omega) (fun x3 hx3 => ?_)
  refine z_bipush dX0_leastOf_11 ⟨by decide, by decide⟩ (by decide) ?_
  refine z_idiv dX0_leastOf_13 (by omega) (by subst_vars; omega) (fun x4 hx4 => ?_)
  refine z_iret rfl (by decide) rfl (Nat.sub_self _) dX0_leastOf_14 ?_
  refine ⟨rfl, ?_⟩
  subst_vars
  omega
set_option maxHeartbeats 400000 in
theorem A_X0_greatestOf42 (l : Launch) (g : Cx) (M : FMem) (h : Int) (hh : 0 ≤ h ∧ h < 10) (hR : RedX M) (hU : RulX M 42) : AMi l g true fi_X0_greatestOf [fr 14, fi h, fr 42] 93 M (fun r M2 => M2 = M ∧ (fun q => q = -((-(M 16 h * M 42 6)) / 10)) r) := by
  refine AMi_intro [fr 14, fi h, fr 42] (by decide) (knall rfl) (Nat.le_of_ble_eq_true rfl) rfl ?_
  intro hNV hM0 μ
  have bh : N32 h := hNV (fi h) (by simp)
  have h1 := hR h hh.1 hh.2
  have h2 := hU.2.2.1
  have hm := mulb (A := 2000) (B := 99) (show -2000 ≤ M 16 h ∧ M 16 h ≤ 2000 by omega) (show -99 ≤ M 42 6 ∧ M 42 6 ≤ 99 by omega)
  have hm0 : 0 ≤ M 16 h * M 42 6 := Int.mul_nonneg (by omega) (by omega)
  have hcs := tdiv_cs (M 16 h * M 42 6 + 9) 10 (by decide)
  refine z_aload_nr dX0_greatestOf_0 rfl ?_
  refine z_getr (b := 16) fl_X0_15 rfl (by decide) rf_14_1 rfl dX0_greatestOf_1 ?_
  refine z_iload_n dX0_greatestOf_4 rfl ?_
  refine z_iald rfl (by decide) (by omega) (by omega) dX0_greatestOf_5 (fun x1 hx1 bx1 => ?_)
  refine z_aload_nr dX0_greatestOf_6 rfl ?_
  refine z_geti (kz := 6) fl_X0_24 rfl (by decide) rfl dX0_greatestOf_7 (fun x2 hx2 bx2 => ?_)
  refine z_imulN dX0_greatestOf_10 (by subst_vars; omega) (fun x3 hx3 => ?_)
  refine z_bipush dX0_greatestOf_11 ⟨by decide, by decide⟩ (by decide) ?_
  refine z_iaddN dX0_greatestOf_13 (by subst_vars; omega) (fun x4 hx4 => ?_)
  refine z_bipush dX0_greatestOf_14 ⟨by decide, by decide⟩ (by decide) ?_
  refine z_idiv dX0_greatestOf_16 (by omega) (by subst_vars; omega) (fun x5 hx5 => ?_)
  refine z_iret rfl (by decide) rfl (Nat.sub_self _) dX0_greatestOf_17 ?_
  refine ⟨rfl, ?_⟩
  subst_vars
  omega
set_option maxHeartbeats 400000 in
theorem A_X3_evenGreatest42 (l : Launch) (g : Cx) (M : FMem) (s t c : Int) (hs : 0 ≤ s ∧ s < 6) (ht : 0 ≤ t ∧ t ≤ 3000) (hc : -500 ≤ c ∧ c ≤ 3000) (hU : RulX M 42) : AMi l g true fi_X3_evenGreatest [fr 42, fi s, fi t, fi c] 93 M (fun r M2 => M2 = M ∧ (fun q => q = evGS (M 44 s) (M 45 s) (M 46 s) t c) r) := by
  refine AMi_intro [fr 42, fi s, fi t, fi c, fu] (by decide) (knall rfl) (Nat.le_of_ble_eq_true rfl) rfl ?_
  intro hNV hM0 μ
  have bs : N32 s := hNV (fi s) (by simp)
  have bt : N32 t := hNV (fi t) (by simp)
  have bc : N32 c := hNV (fi c) (by simp)
  have h1 := hU.1 s hs.1 hs.2
  simp only [Nat.reduceAdd] at h1
  have m1 := mulb (A := 9999) (B := 3000) (show -9999 ≤ M 43 s ∧ M 43 s ≤ 9999 by omega) (show -3000 ≤ t ∧ t ≤ 3000 by omega)
  have m2 := mulb (A := 9999) (B := 3000) (show -9999 ≤ M 44 s ∧ M 44 s ≤ 9999 by omega) (show -3000 ≤ t ∧ t ≤ 3000 by omega)
  have m3 := mulb (A := 9999) (B := 3000) (show -9999 ≤ M 45 s ∧ M 45 s ≤ 9999 by omega) (show -3000 ≤ c ∧ c ≤ 3000 by omega)
  have m4 := mulb (A := 9999) (B := 3000) (show -9999 ≤ M 46 s ∧ M 46 s ≤ 9999 by omega) (show -3000 ≤ c ∧ c ≤ 3000 by omega)
  refine z_iload_n dX3_evenGreatest_0 rfl ?_
  refine z_if_ge (tgt := 13) dX3_evenGreatest_1 (by decide) (fun c1 => ?_) (fun c1 => ?_)
  · refine z_aload_nr dX3_evenGreatest_13 rfl ?_
    refine z_getr (b := 46) fl_X3_21 rfl (by decide) rf_42_3 rfl dX3_evenGreatest_14 ?_
    refine z_iload_n dX3_evenGreatest_17 rfl ?_
    refine z_iald rfl (by decide) (by omega) (by omega) dX3_evenGreatest_18 (fun x2 hx2 bx2 => ?_)
    refine z_istore (loc2 := [fr 42, fi s, fi t, fi c, fi x2]) dX3_evenGreatest_19 (by decide) rfl ?_
    refine z_aload_nr dX3_evenGreatest_21 rfl ?_
    refine z_getr (b := 44) fl_X3_15 rfl (by decide) rf_42_1 rfl dX3_evenGreatest_22 ?_
    refine z_iload_n dX3_evenGreatest_25 rfl ?_
    refine z_iald rfl (by decide) (by omega) (by omega) dX3_evenGreatest_26 (fun x3 hx3 bx3 => ?_)
    refine z_iload_n dX3_evenGreatest_27 rfl ?_
    refine z_imulN dX3_evenGreatest_28 (by subst_vars; omega) (fun x4 hx4 => ?_)
    refine z_iload dX3_evenGreatest_29 rfl ?_
    refine z_iload_n dX3_evenGreatest_31 rfl ?_
    refine z_imulN dX3_evenGreatest_32 (by subst_vars; omega) (fun x5 hx5 => ?_)
    refine z_iaddN dX3_evenGreatest_33 (by subst_vars; omega) (fun x6 hx6 => ?_)
    refine z_iret rfl (by decide) rfl (Nat.sub_self _) dX3_evenGreatest_34 ?_
    refine ⟨rfl, ?_⟩
    unfold evGS
    first | rw [if_pos (by omega)] | rw [if_neg (by omega)]
    subst_vars
    omega
  · refine z_aload_nr dX3_evenGreatest_4 rfl ?_
    refine z_getr (b := 45) fl_X3_18 rfl (by decide) rf_42_2 rfl dX3_evenGreatest_5 ?_
    refine z_iload_n dX3_evenGreatest_8 rfl ?_
    refine z_iald rfl (by decide) (by omega) (by omega) dX3_evenGreatest_9 (fun x7 hx7 bx7 => ?_)
    refine z_goto (tgt := 19) dX3_evenGreatest_10 (by decide) ?_
    refine z_istore (loc2 := [fr 42, fi s, fi t, fi c, fi x7]) dX3_evenGreatest_19 (by decide) rfl ?_
    refine z_aload_nr dX3_evenGreatest_21 rfl ?_
    refine z_getr (b := 44) fl_X3_15 rfl (by decide) rf_42_1 rfl dX3_evenGreatest_22 ?_
    refine z_iload_n dX3_evenGreatest_25 rfl ?_
    refine z_iald rfl (by decide) (by omega) (by omega) dX3_evenGreatest_26 (fun x8 hx8 bx8 => ?_)
    refine z_iload_n dX3_evenGreatest_27 rfl ?_
    refine z_imulN dX3_evenGreatest_28 (by subst_vars; omega) (fun x9 hx9 => ?_)
    refine z_iload dX3_evenGreatest_29 rfl ?_
    refine z_iload_n dX3_evenGreatest_31 rfl ?_
    refine z_imulN dX3_evenGreatest_32 (by subst_vars; omega) (fun x10 hx10 => ?_)
    refine z_iaddN dX3_evenGreatest_33 (by subst_vars; omega) (fun x11 hx11 => ?_)
    refine z_iret rfl (by decide) rfl (Nat.sub_self _) dX3_evenGreatest_34 ?_
    refine ⟨rfl, ?_⟩
    unfold evGS
    first | rw [if_pos (by omega)] | rw [if_neg (by omega)]
    subst_vars
    omega
set_option maxHeartbeats 400000 in
theorem A_X3_evenLeast42 (l : Launch) (g : Cx) (M : FMem) (s t c : Int) (hs : 0 ≤ s ∧ s < 6) (ht : 0 ≤ t ∧ t ≤ 3000) (hc : -500 ≤ c ∧ c ≤ 3000) (hU : RulX M 42) : AMi l g true fi_X3_evenLeast [fr 42, fi s, fi t, fi c] 93 M (fun r M2 => M2 = M ∧ (fun q => q = evLS (M 43 s) (M 45 s) (M 46 s) t c) r) := by
  refine AMi_intro [fr 42, fi s, fi t, fi c, fu] (by decide) (knall rfl) (Nat.le_of_ble_eq_true rfl) rfl ?_
  intro hNV hM0 μ
  have bs : N32 s := hNV (fi s) (by simp)
  have bt : N32 t := hNV (fi t) (by simp)
  have bc : N32 c := hNV (fi c) (by simp)
  have h1 := hU.1 s hs.1 hs.2
  simp only [Nat.reduceAdd] at h1
  have m1 := mulb (A := 9999) (B := 3000) (show -9999 ≤ M 43 s ∧ M 43 s ≤ 9999 by omega) (show -3000 ≤ t ∧ t ≤ 3000 by omega)
  have m2 := mulb (A := 9999) (B := 3000) (show -9999 ≤ M 44 s ∧ M 44 s ≤ 9999 by omega) (show -3000 ≤ t ∧ t ≤ 3000 by omega)
  have m3 := mulb (A := 9999) (B := 3000) (show -9999 ≤ M 45 s ∧ M 45 s ≤ 9999 by omega) (show -3000 ≤ c ∧ c ≤ 3000 by omega)
  have m4 := mulb (A := 9999) (B := 3000) (show -9999 ≤ M 46 s ∧ M 46 s ≤ 9999 by omega) (show -3000 ≤ c ∧ c ≤ 3000 by omega)
  refine z_iload_n dX3_evenLeast_0 rfl ?_
  refine z_if_ge (tgt := 13) dX3_evenLeast_1 (by decide) (fun c1 => ?_) (fun c1 => ?_)
  · refine z_aload_nr dX3_evenLeast_13 rfl ?_
    refine z_getr (b := 45) fl_X3_18 rfl (by decide) rf_42_2 rfl dX3_evenLeast_14 ?_
    refine z_iload_n dX3_evenLeast_17 rfl ?_
    refine z_iald rfl (by decide) (by omega) (by omega) dX3_evenLeast_18 (fun x2 hx2 bx2 => ?_)
    refine z_istore (loc2 := [fr 42, fi s, fi t, fi c, fi x2]) dX3_evenLeast_19 (by decide) rfl ?_
    refine z_aload_nr dX3_evenLeast_21 rfl ?_
    refine z_getr (b := 43) fl_X3_9 rfl (by decide) rf_42_0 rfl dX3_evenLeast_22 ?_
    refine z_iload_n dX3_evenLeast_25 rfl ?_
    refine z_iald rfl (by decide) (by omega) (by omega) dX3_evenLeast_26 (fun x3 hx3 bx3 => ?_)
    refine z_iload_n dX3_evenLeast_27 rfl ?_
    refine z_imulN dX3_evenLeast_28 (by subst_vars; omega) (fun x4 hx4 => ?_)
    refine z_iload dX3_evenLeast_29 rfl ?_
    refine z_iload_n dX3_evenLeast_31 rfl ?_
    refine z_imulN dX3_evenLeast_32 (by subst_vars; omega) (fun x5 hx5 => ?_)
    refine z_iaddN dX3_evenLeast_33 (by subst_vars; omega) (fun x6 hx6 => ?_)
    refine z_iret rfl (by decide) rfl (Nat.sub_self _) dX3_evenLeast_34 ?_
    refine ⟨rfl, ?_⟩
    unfold evLS
    first | rw [if_pos (by omega)] | rw [if_neg (by omega)]
    subst_vars
    omega
  · refine z_aload_nr dX3_evenLeast_4 rfl ?_
    refine z_getr (b := 46) fl_X3_21 rfl (by decide) rf_42_3 rfl dX3_evenLeast_5 ?_
    refine z_iload_n dX3_evenLeast_8 rfl ?_
    refine z_iald rfl (by decide) (by omega) (by omega) dX3_evenLeast_9 (fun x7 hx7 bx7 => ?_)
    refine z_goto (tgt := 19) dX3_evenLeast_10 (by decide) ?_
    refine z_istore (loc2 := [fr 42, fi s, fi t, fi c, fi x7]) dX3_evenLeast_19 (by decide) rfl ?_
    refine z_aload_nr dX3_evenLeast_21 rfl ?_
    refine z_getr (b := 43) fl_X3_9 rfl (by decide) rf_42_0 rfl dX3_evenLeast_22 ?_
    refine z_iload_n dX3_evenLeast_25 rfl ?_
    refine z_iald rfl (by decide) (by omega) (by omega) dX3_evenLeast_26 (fun x8 hx8 bx8 => ?_)
    refine z_iload_n dX3_evenLeast_27 rfl ?_
    refine z_imulN dX3_evenLeast_28 (by subst_vars; omega) (fun x9 hx9 => ?_)
    refine z_iload dX3_evenLeast_29 rfl ?_
    refine z_iload_n dX3_evenLeast_31 rfl ?_
    refine z_imulN dX3_evenLeast_32 (by subst_vars; omega) (fun x10 hx10 => ?_)
    refine z_iaddN dX3_evenLeast_33 (by subst_vars; omega) (fun x11 hx11 => ?_)
    refine z_iret rfl (by decide) rfl (Nat.sub_self _) dX3_evenLeast_34 ?_
    refine ⟨rfl, ?_⟩
    unfold evLS
    first | rw [if_pos (by omega)] | rw [if_neg (by omega)]
    subst_vars
    omega
set_option maxHeartbeats 400000 in
theorem A_X7_lowOf42 (l : Launch) (g : Cx) (M : FMem) (i : Int) (hi : 0 ≤ i ∧ i < 80) (hT : TelX M i) (hr : M 0 6 = 42) (hR : RedX M) (hU : RulX M 42) : AMi l g true fi_X7_lowOf [fr 0, fi i] 93 M (fun r M2 => M2 = M ∧ (fun q => q = lowX M 42 i ∧ -100000 ≤ q ∧ q ≤ 100000) r) := by
  refine AMi_intro [fr 0, fi i, fu, fu, fu] (by decide) (knall rfl) (Nat.le_of_ble_eq_true rfl) rfl ?_
  intro hNV hM0 μ
  have bi : N32 i := hNV (fi i) (by simp)
  have hT' := hT
  unfold TelX TelOk at hT'
  have hbl := hU.2.1 (M 3 i) (by omega) (by omega)
  simp only [Nat.reduceAdd] at hbl
  have hdq := hU.2.2.1
  refine z_aload_nr dX7_lowOf_0 rfl ?_
  refine z_getr (b := 1) fl_X7_10 rfl (by decide) rf_0_0 rfl dX7_lowOf_1 ?_
  refine z_getr (b := 6) fl_X7_337 rfl (by decide) rf_1_4 rfl dX7_lowOf_4 ?_
  refine z_iload_n dX7_lowOf_7 rfl ?_
  refine z_iald rfl (by decide) (by omega) (by omega) dX7_lowOf_8 (fun x1 hx1 bx1 => ?_)
  refine z_aload_nr dX7_lowOf_9 rfl ?_
  refine z_getv (b := 42) (kz := 6) fl_X7_54 rfl (by decide) rfl (fun _ => by first | assumption | omega | simp_all) dX7_lowOf_10 ?_
  refine z_getr (b := 47) fl_X7_204 rfl (by decide) rf_42_4 rfl dX7_lowOf_13 ?_
  refine z_aload_nr dX7_lowOf_16 rfl ?_
  refine z_getr (b := 1) fl_X7_10 rfl (by decide) rf_0_0 rfl dX7_lowOf_17 ?_
  refine z_getr (b := 3) fl_X7_138 rfl (by decide) rf_1_1 rfl dX7_lowOf_20 ?_
  refine z_iload_n dX7_lowOf_23 rfl ?_
  refine z_iald rfl (by decide) (by omega) (by omega) dX7_lowOf_24 (fun x2 hx2 bx2 => ?_)
  refine z_iald rfl (by decide) (by omega) (by omega) dX7_lowOf_25 (fun x3 hx3 bx3 => ?_)
  have hb5 : x3 = M 47 (M 3 i) := by subst_vars; rfl
  have hbz := hbl
  first | refine z_isubN dX7_lowOf_26 (by omega) (fun x4 hx4 => ?_) | refine z_isub dX7_lowOf_26 (fun x4 hx4 => ?_)
  refine z_istore_n (loc2 := [fr 0, fi i, fi x4, fu, fu]) dX7_lowOf_27 (by decide) rfl ?_
  have hblx : x4 = M 6 i - M 47 (M 3 i) := by subst_vars; rfl
  refine z_aload_nr dX7_lowOf_28 rfl ?_
  refine z_getr (b := 1) fl_X7_10 rfl (by decide) rf_0_0 rfl dX7_lowOf_29 ?_
  refine z_getr (b := 2) fl_X7_135 rfl (by decide) rf_1_0 rfl dX7_lowOf_32 ?_
  refine z_iload_n dX7_lowOf_35 rfl ?_
  refine z_iald rfl (by decide) (by omega) (by omega) dX7_lowOf_36 (fun x5 hx5 bx5 => ?_)
  refine z_if_eq (tgt := 42) dX7_lowOf_37 (by decide) (fun c6 => ?_) (fun c6 => ?_)
  · refine z_aload_nr dX7_lowOf_42 rfl ?_
    refine z_getv (b := 42) (kz := 6) fl_X7_54 rfl (by decide) rfl (fun _ => by first | assumption | omega | simp_all) dX7_lowOf_43 ?_
    refine z_aload_nr dX7_lowOf_46 rfl ?_
    refine z_getr (b := 1) fl_X7_10 rfl (by decide) rf_0_0 rfl dX7_lowOf_47 ?_
    refine z_getr (b := 4) fl_X7_141 rfl (by decide) rf_1_2 rfl dX7_lowOf_50 ?_
    refine z_iload_n dX7_lowOf_53 rfl ?_
    refine z_iald rfl (by decide) (by omega) (by omega) dX7_lowOf_54 (fun x7 hx7 bx7 => ?_)
    refine z_aload_nr dX7_lowOf_55 rfl ?_
    refine z_getr (b := 1) fl_X7_10 rfl (by decide) rf_0_0 rfl dX7_lowOf_56 ?_
    refine z_getr (b := 8) fl_X7_339 rfl (by decide) rf_1_6 rfl dX7_lowOf_59 ?_
    refine z_iload_n dX7_lowOf_62 rfl ?_
    refine z_iald rfl (by decide) (by omega) (by omega) dX7_lowOf_63 (fun x8 hx8 bx8 => ?_)
    refine z_aload_nr dX7_lowOf_64 rfl ?_
    refine z_getr (b := 1) fl_X7_10 rfl (by decide) rf_0_0 rfl dX7_lowOf_65 ?_
    refine z_getr (b := 9) fl_X7_342 rfl (by decide) rf_1_7 rfl dX7_lowOf_68 ?_
    refine z_iload_n dX7_lowOf_71 rfl ?_
    refine z_iald rfl (by decide) (by omega) (by omega) dX7_lowOf_72 (fun x9 hx9 bx9 => ?_)
    refine z_callVip (n2 := 93) (A_X3_evenGreatest42 l g M x7 x8 x9 (by omega) (by omega) (by omega) (hU)) cb_X3_evenGreatest cl_X7_345 (clr0 rfl rfl (by decide) (by decide)) rfl (by decide) ⟨_, rfl, rfl⟩ rfl (by decide) rfl (Nat.le_of_ble_eq_true rfl) rfl dX7_lowOf_73 (fun x10 bx10 hx10 => ?_)
    have hss := hU.1 (M 4 i) (by omega) (by omega)
    simp only [Nat.reduceAdd] at hss
    have hevb := ev_b (a := M 44 (M 4 i)) (b := M 45 (M 4 i)) (c := M 46 (M 4 i)) (t := M 8 i) (u := M 9 i) (by omega) (by omega) (by omega) (by omega) (by omega)
    have hev : x10 = evGS (M 44 (M 4 i)) (M 45 (M 4 i)) (M 46 (M 4 i)) (M 8 i) (M 9 i) := by subst_vars; rfl
    rw [← hev] at hevb
    refine z_istore_n (loc2 := [fr 0, fi i, fi x4, fi x10, fu]) dX7_lowOf_76 (by decide) rfl ?_
    refine z_aload_nr dX7_lowOf_77 rfl ?_
    refine z_getr (b := 1) fl_X7_10 rfl (by decide) rf_0_0 rfl dX7_lowOf_78 ?_
    refine z_getr (b := 7) fl_X7_348 rfl (by decide) rf_1_5 rfl dX7_lowOf_81 ?_
    refine z_iload_n dX7_lowOf_84 rfl ?_
    refine z_iald rfl (by decide) (by omega) (by omega) dX7_lowOf_85 (fun x11 hx11 bx11 => ?_)
    refine z_istore (loc2 := [fr 0, fi i, fi x4, fi x10, fi x11]) dX7_lowOf_86 (by decide) rfl ?_
    refine z_iload_n dX7_lowOf_88 rfl ?_
    refine z_iload dX7_lowOf_89 rfl ?_
    first | refine z_isubN dX7_lowOf_91 (by omega) (fun x12 hx12 => ?_) | refine z_isub dX7_lowOf_91 (fun x12 hx12 => ?_)
    refine z_iload_n dX7_lowOf_92 rfl ?_
    refine z_inegN dX7_lowOf_93 (by omega) (fun x13 hx13 => ?_)
    refine z_sipush dX7_lowOf_94 ⟨by decide, by decide⟩ (by decide) ?_
    refine z_callSip (n2 := 93) (A_J9_floorDiv_7cf53 l g M x13) cb_J9_floorDiv_7cf53 cl_X7_350 (clr0 rfl rfl (by decide) (by decide)) rfl (by decide) rfl (Nat.le_of_ble_eq_true rfl) rfl dX7_lowOf_97 (fun x14 bx14 hx14 => ?_)
    first | refine z_iaddN dX7_lowOf_100 (by omega) (fun x15 hx15 => ?_) | refine z_iadd dX7_lowOf_100 (fun x15 hx15 => ?_)
    refine z_aload_nr dX7_lowOf_101 rfl ?_
    refine z_getr (b := 14) fl_X7_19 rfl (by decide) rf_0_1 rfl dX7_lowOf_102 ?_
    refine z_aload_nr dX7_lowOf_105 rfl ?_
    refine z_getr (b := 1) fl_X7_10 rfl (by decide) rf_0_0 rfl dX7_lowOf_106 ?_
    refine z_getr (b := 5) fl_X7_144 rfl (by decide) rf_1_3 rfl dX7_lowOf_109 ?_
    refine z_iload_n dX7_lowOf_112 rfl ?_
    refine z_iald rfl (by decide) (by omega) (by omega) dX7_lowOf_113 (fun x16 hx16 bx16 => ?_)
    refine z_aload_nr dX7_lowOf_114 rfl ?_
    refine z_getv (b := 42) (kz := 6) fl_X7_54 rfl (by decide) rfl (fun _ => by first | assumption | omega | simp_all) dX7_lowOf_115 ?_
    refine z_callVip (n2 := 93) (A_X0_greatestOf42 l g M x16 (by omega) (hR) (hU)) cb_X0_greatestOf cl_X7_353 (clr0 rfl rfl (by decide) (by decide)) rfl (by decide) ⟨_, rfl, rfl⟩ rfl (by decide) rfl (Nat.le_of_ble_eq_true rfl) rfl dX7_lowOf_118 (fun x17 bx17 hx17 => ?_)
    have hdust : x17 = -((-(M 16 (M 5 i) * M 42 6)) / 10) := by subst_vars; rfl
    have hrd := hR (M 5 i) (by omega) (by omega)
    have hmm := mulb (A := 2000) (B := 99) (show -2000 ≤ M 16 (M 5 i) ∧ M 16 (M 5 i) ≤ 2000 by omega) (show -99 ≤ M 42 6 ∧ M 42 6 ≤ 99 by omega)
    have hmn : 0 ≤ M 16 (M 5 i) * M 42 6 := Int.mul_nonneg (by omega) (by omega)
    first | refine z_isubN dX7_lowOf_121 (by omega) (fun x18 hx18 => ?_) | refine z_isub dX7_lowOf_121 (fun x18 hx18 => ?_)
    refine z_iret rfl (by decide) rfl (Nat.sub_self _) dX7_lowOf_122 ?_
    refine ⟨rfl, ?_⟩
    unfold lowX lowS
    simp only [Nat.reduceAdd]
    rw [if_pos (by omega), ← hev]
    omega
  · refine z_iload_n dX7_lowOf_40 rfl ?_
    refine z_iret rfl (by decide) rfl (Nat.sub_self _) dX7_lowOf_41 ?_
    refine ⟨rfl, ?_⟩
    unfold lowX lowS
    simp only [Nat.reduceAdd]
    rw [if_neg (by omega)]
    omega
set_option maxHeartbeats 400000 in
theorem A_X7_highOf42 (l : Launch) (g : Cx) (M : FMem) (i : Int) (hi : 0 ≤ i ∧ i < 80) (hT : TelX M i) (hr : M 0 6 = 42) (hR : RedX M) (hU : RulX M 42) : AMi l g true fi_X7_highOf [fr 0, fi i] 93 M (fun r M2 => M2 = M ∧ (fun q => q = highX M 42 i ∧ -100000 ≤ q ∧ q ≤ 100000) r) := by
  refine AMi_intro [fr 0, fi i, fu, fu, fu] (by decide) (knall rfl) (Nat.le_of_ble_eq_true rfl) rfl ?_
  intro hNV hM0 μ
  have bi : N32 i := hNV (fi i) (by simp)
  have hT' := hT
  unfold TelX TelOk at hT'
  have hbl := hU.2.1 (M 3 i) (by omega) (by omega)
  simp only [Nat.reduceAdd] at hbl
  have hdq := hU.2.2.1
  refine z_aload_nr dX7_highOf_0 rfl ?_
  refine z_getr (b := 1) fl_X7_10 rfl (by decide) rf_0_0 rfl dX7_highOf_1 ?_
  refine z_getr (b := 7) fl_X7_348 rfl (by decide) rf_1_5 rfl dX7_highOf_4 ?_
  refine z_iload_n dX7_highOf_7 rfl ?_
  refine z_iald rfl (by decide) (by omega) (by omega) dX7_highOf_8 (fun x1 hx1 bx1 => ?_)
  refine z_aload_nr dX7_highOf_9 rfl ?_
  refine z_getv (b := 42) (kz := 6) fl_X7_54 rfl (by decide) rfl (fun _ => by first | assumption | omega | simp_all) dX7_highOf_10 ?_
  refine z_getr (b := 47) fl_X7_204 rfl (by decide) rf_42_4 rfl dX7_highOf_13 ?_
  refine z_aload_nr dX7_highOf_16 rfl ?_
  refine z_getr (b := 1) fl_X7_10 rfl (by decide) rf_0_0 rfl dX7_highOf_17 ?_
  refine z_getr (b := 3) fl_X7_138 rfl (by decide) rf_1_1 rfl dX7_highOf_20 ?_
  refine z_iload_n dX7_highOf_23 rfl ?_
  refine z_iald rfl (by decide) (by omega) (by omega) dX7_highOf_24 (fun x2 hx2 bx2 => ?_)
  refine z_iald rfl (by decide) (by omega) (by omega) dX7_highOf_25 (fun x3 hx3 bx3 => ?_)
  have hb5 : x3 = M 47 (M 3 i) := by subst_vars; rfl
  have hbz := hbl
  first | refine z_iaddN dX7_highOf_26 (by omega) (fun x4 hx4 => ?_) | refine z_iadd dX7_highOf_26 (fun x4 hx4 => ?_)
  refine z_istore_n (loc2 := [fr 0, fi i, fi x4, fu, fu]) dX7_highOf_27 (by decide) rfl ?_
  have hblx : x4 = M 7 i + M 47 (M 3 i) := by subst_vars; rfl
  refine z_aload_nr dX7_highOf_28 rfl ?_
  refine z_getr (b := 1) fl_X7_10 rfl (by decide) rf_0_0 rfl dX7_highOf_29 ?_
  refine z_getr (b := 2) fl_X7_135 rfl (by decide) rf_1_0 rfl dX7_highOf_32 ?_
  refine z_iload_n dX7_highOf_35 rfl ?_
  refine z_iald rfl (by decide) (by omega) (by omega) dX7_highOf_36 (fun x5 hx5 bx5 => ?_)
  refine z_if_eq (tgt := 42) dX7_highOf_37 (by decide) (fun c6 => ?_) (fun c6 => ?_)
  · refine z_aload_nr dX7_highOf_42 rfl ?_
    refine z_getv (b := 42) (kz := 6) fl_X7_54 rfl (by decide) rfl (fun _ => by first | assumption | omega | simp_all) dX7_highOf_43 ?_
    refine z_aload_nr dX7_highOf_46 rfl ?_
    refine z_getr (b := 1) fl_X7_10 rfl (by decide) rf_0_0 rfl dX7_highOf_47 ?_
    refine z_getr (b := 4) fl_X7_141 rfl (by decide) rf_1_2 rfl dX7_highOf_50 ?_
    refine z_iload_n dX7_highOf_53 rfl ?_
    refine z_iald rfl (by decide) (by omega) (by omega) dX7_highOf_54 (fun x7 hx7 bx7 => ?_)
    refine z_aload_nr dX7_highOf_55 rfl ?_
    refine z_getr (b := 1) fl_X7_10 rfl (by decide) rf_0_0 rfl dX7_highOf_56 ?_
    refine z_getr (b := 8) fl_X7_339 rfl (by decide) rf_1_6 rfl dX7_highOf_59 ?_
    refine z_iload_n dX7_highOf_62 rfl ?_
    refine z_iald rfl (by decide) (by omega) (by omega) dX7_highOf_63 (fun x8 hx8 bx8 => ?_)
    refine z_aload_nr dX7_highOf_64 rfl ?_
    refine z_getr (b := 1) fl_X7_10 rfl (by decide) rf_0_0 rfl dX7_highOf_65 ?_
    refine z_getr (b := 9) fl_X7_342 rfl (by decide) rf_1_7 rfl dX7_highOf_68 ?_
    refine z_iload_n dX7_highOf_71 rfl ?_
    refine z_iald rfl (by decide) (by omega) (by omega) dX7_highOf_72 (fun x9 hx9 bx9 => ?_)
    refine z_callVip (n2 := 93) (A_X3_evenLeast42 l g M x7 x8 x9 (by omega) (by omega) (by omega) (hU)) cb_X3_evenLeast cl_X7_357 (clr0 rfl rfl (by decide) (by decide)) rfl (by decide) ⟨_, rfl, rfl⟩ rfl (by decide) rfl (Nat.le_of_ble_eq_true rfl) rfl dX7_highOf_73 (fun x10 bx10 hx10 => ?_)
    have hss := hU.1 (M 4 i) (by omega) (by omega)
    simp only [Nat.reduceAdd] at hss
    have hevb := ev_b (a := M 43 (M 4 i)) (b := M 45 (M 4 i)) (c := M 46 (M 4 i)) (t := M 8 i) (u := M 9 i) (by omega) (by omega) (by omega) (by omega) (by omega)
    have hev : x10 = evLS (M 43 (M 4 i)) (M 45 (M 4 i)) (M 46 (M 4 i)) (M 8 i) (M 9 i) := by subst_vars; rfl
    rw [← hev] at hevb
    refine z_istore_n (loc2 := [fr 0, fi i, fi x4, fi x10, fu]) dX7_highOf_76 (by decide) rfl ?_
    refine z_aload_nr dX7_highOf_77 rfl ?_
    refine z_getr (b := 1) fl_X7_10 rfl (by decide) rf_0_0 rfl dX7_highOf_78 ?_
    refine z_getr (b := 6) fl_X7_337 rfl (by decide) rf_1_4 rfl dX7_highOf_81 ?_
    refine z_iload_n dX7_highOf_84 rfl ?_
    refine z_iald rfl (by decide) (by omega) (by omega) dX7_highOf_85 (fun x11 hx11 bx11 => ?_)
    refine z_istore (loc2 := [fr 0, fi i, fi x4, fi x10, fi x11]) dX7_highOf_86 (by decide) rfl ?_
    refine z_iload dX7_highOf_88 rfl ?_
    refine z_iload_n dX7_highOf_90 rfl ?_
    first | refine z_iaddN dX7_highOf_91 (by omega) (fun x12 hx12 => ?_) | refine z_iadd dX7_highOf_91 (fun x12 hx12 => ?_)
    refine z_iload_n dX7_highOf_92 rfl ?_
    refine z_sipush dX7_highOf_93 ⟨by decide, by decide⟩ (by decide) ?_
    refine z_callSip (n2 := 93) (A_J9_floorDiv_7cf53 l g M x10) cb_J9_floorDiv_7cf53 cl_X7_350 (clr0 rfl rfl (by decide) (by decide)) rfl (by decide) rfl (Nat.le_of_ble_eq_true rfl) rfl dX7_highOf_96 (fun x13 bx13 hx13 => ?_)
    first | refine z_isubN dX7_highOf_99 (by omega) (fun x14 hx14 => ?_) | refine z_isub dX7_highOf_99 (fun x14 hx14 => ?_)
    refine z_aload_nr dX7_highOf_100 rfl ?_
    refine z_getr (b := 14) fl_X7_19 rfl (by decide) rf_0_1 rfl dX7_highOf_101 ?_
    refine z_aload_nr dX7_highOf_104 rfl ?_
    refine z_getr (b := 1) fl_X7_10 rfl (by decide) rf_0_0 rfl dX7_highOf_105 ?_
    refine z_getr (b := 5) fl_X7_144 rfl (by decide) rf_1_3 rfl dX7_highOf_108 ?_
    refine z_iload_n dX7_highOf_111 rfl ?_
    refine z_iald rfl (by decide) (by omega) (by omega) dX7_highOf_112 (fun x15 hx15 bx15 => ?_)
    refine z_aload_nr dX7_highOf_113 rfl ?_
    refine z_getv (b := 42) (kz := 6) fl_X7_54 rfl (by decide) rfl (fun _ => by first | assumption | omega | simp_all) dX7_highOf_114 ?_
    refine z_callVip (n2 := 93) (A_X0_leastOf42 l g M x15 (by omega) (hR) (hU)) cb_X0_leastOf cl_X7_360 (clr0 rfl rfl (by decide) (by decide)) rfl (by decide) ⟨_, rfl, rfl⟩ rfl (by decide) rfl (Nat.le_of_ble_eq_true rfl) rfl dX7_highOf_117 (fun x16 bx16 hx16 => ?_)
    have hdust : x16 = M 15 (M 5 i) * M 42 5 / 10 := by subst_vars; rfl
    have hrd := hR (M 5 i) (by omega) (by omega)
    have hmm := mulb (A := 2000) (B := 99) (show -2000 ≤ M 15 (M 5 i) ∧ M 15 (M 5 i) ≤ 2000 by omega) (show -99 ≤ M 42 5 ∧ M 42 5 ≤ 99 by omega)
    have hmn : 0 ≤ M 15 (M 5 i) * M 42 5 := Int.mul_nonneg (by omega) (by omega)
    first | refine z_isubN dX7_highOf_120 (by omega) (fun x17 hx17 => ?_) | refine z_isub dX7_highOf_120 (fun x17 hx17 => ?_)
    refine z_iret rfl (by decide) rfl (Nat.sub_self _) dX7_highOf_121 ?_
    refine ⟨rfl, ?_⟩
    unfold highX highS
    simp only [Nat.reduceAdd]
    rw [if_pos (by omega), ← hev]
    omega
  · refine z_iload_n dX7_highOf_40 rfl ?_
    refine z_iret rfl (by decide) rfl (Nat.sub_self _) dX7_highOf_41 ?_
    refine ⟨rfl, ?_⟩
    unfold highX highS
    simp only [Nat.reduceAdd]
    rw [if_neg (by omega)]
    omega
set_option maxHeartbeats 400000 in
theorem A_X0_leastOf51 (l : Launch) (g : Cx) (M : FMem) (h : Int) (hh : 0 ≤ h ∧ h < 10) (hR : RedX M) (hU : RulX M 51) : AMi l g true fi_X0_leastOf [fr 14, fi h, fr 51] 93 M (fun r M2 => M2 = M ∧ (fun q => q = M 15 h * M 51 5 / 10) r) := by
  refine AMi_intro [fr 14, fi h, fr 51] (by decide) (knall rfl) (Nat.le_of_ble_eq_true rfl) rfl ?_
  intro hNV hM0 μ
  have bh : N32 h := hNV (fi h) (by simp)
  have h1 := hR h hh.1 hh.2
  have h2 := hU.2.2.1
  have hm := mulb (A := 2000) (B := 99) (show -2000 ≤ M 15 h ∧ M 15 h ≤ 2000 by omega) (show -99 ≤ M 51 5 ∧ M 51 5 ≤ 99 by omega)
  have hm0 : 0 ≤ M 15 h * M 51 5 := Int.mul_nonneg (by omega) (by omega)
  have hcs := tdiv_cs (M 15 h * M 51 5) 10 (by decide)
  refine z_aload_nr dX0_leastOf_0 rfl ?_
  refine z_getr (b := 15) fl_X0_9 rfl (by decide) rf_14_0 rfl dX0_leastOf_1 ?_
  refine z_iload_n dX0_leastOf_4 rfl ?_
  refine z_iald rfl (by decide) (by omega) (by omega) dX0_leastOf_5 (fun x1 hx1 bx1 => ?_)
  refine z_aload_nr dX0_leastOf_6 rfl ?_
  refine z_geti (kz := 5) fl_X0_18 rfl (by decide) rfl dX0_leastOf_7 (fun x2 hx2 bx2 => ?_)
  refine z_imulN dX0_leastOf_10 (by subst_vars; omega) (fun x3 hx3 => ?_)
  refine z_bipush dX0_leastOf_11 ⟨by decide, by decide⟩ (by decide) ?_
  refine z_idiv dX0_leastOf_13 (by omega) (by subst_vars; omega) (fun x4 hx4 => ?_)
  refine z_iret rfl (by decide) rfl (Nat.sub_self _) dX0_leastOf_14 ?_
  refine ⟨rfl, ?_⟩
  subst_vars
  omega
set_option maxHeartbeats 400000 in
theorem A_X0_greatestOf51 (l : Launch) (g : Cx) (M : FMem) (h : Int) (hh : 0 ≤ h ∧ h < 10) (hR : RedX M) (hU : RulX M 51) : AMi l g true fi_X0_greatestOf [fr 14, fi h, fr 51] 93 M (fun r M2 => M2 = M ∧ (fun q => q = -((-(M 16 h * M 51 6)) / 10)) r) := by
  refine AMi_intro [fr 14, fi h, fr 51] (by decide) (knall rfl) (Nat.le_of_ble_eq_true rfl) rfl ?_
  intro hNV hM0 μ
  have bh : N32 h := hNV (fi h) (by simp)
  have h1 := hR h hh.1 hh.2
  have h2 := hU.2.2.1
  have hm := mulb (A := 2000) (B := 99) (show -2000 ≤ M 16 h ∧ M 16 h ≤ 2000 by omega) (show -99 ≤ M 51 6 ∧ M 51 6 ≤ 99 by omega)
  have hm0 : 0 ≤ M 16 h * M 51 6 := Int.mul_nonneg (by omega) (by omega)
  have hcs := tdiv_cs (M 16 h * M 51 6 + 9) 10 (by decide)
  refine z_aload_nr dX0_greatestOf_0 rfl ?_
  refine z_getr (b := 16) fl_X0_15 rfl (by decide) rf_14_1 rfl dX0_greatestOf_1 ?_
  refine z_iload_n dX0_greatestOf_4 rfl ?_
  refine z_iald rfl (by decide) (by omega) (by omega) dX0_greatestOf_5 (fun x1 hx1 bx1 => ?_)
  refine z_aload_nr dX0_greatestOf_6 rfl ?_
  refine z_geti (kz := 6) fl_X0_24 rfl (by decide) rfl dX0_greatestOf_7 (fun x2 hx2 bx2 => ?_)
  refine z_imulN dX0_greatestOf_10 (by subst_vars; omega) (fun x3 hx3 => ?_)
  refine z_bipush dX0_greatestOf_11 ⟨by decide, by decide⟩ (by decide) ?_
  refine z_iaddN dX0_greatestOf_13 (by subst_vars; omega) (fun x4 hx4 => ?_)
  refine z_bipush dX0_greatestOf_14 ⟨by decide, by decide⟩ (by decide) ?_
  refine z_idiv dX0_greatestOf_16 (by omega) (by subst_vars; omega) (fun x5 hx5 => ?_)
  refine z_iret rfl (by decide) rfl (Nat.sub_self _) dX0_greatestOf_17 ?_
  refine ⟨rfl, ?_⟩
  subst_vars
  omega
set_option maxHeartbeats 400000 in
theorem A_X3_evenGreatest51 (l : Launch) (g : Cx) (M : FMem) (s t c : Int) (hs : 0 ≤ s ∧ s < 6) (ht : 0 ≤ t ∧ t ≤ 3000) (hc : -500 ≤ c ∧ c ≤ 3000) (hU : RulX M 51) : AMi l g true fi_X3_evenGreatest [fr 51, fi s, fi t, fi c] 93 M (fun r M2 => M2 = M ∧ (fun q => q = evGS (M 53 s) (M 54 s) (M 55 s) t c) r) := by
  refine AMi_intro [fr 51, fi s, fi t, fi c, fu] (by decide) (knall rfl) (Nat.le_of_ble_eq_true rfl) rfl ?_
  intro hNV hM0 μ
  have bs : N32 s := hNV (fi s) (by simp)
  have bt : N32 t := hNV (fi t) (by simp)
  have bc : N32 c := hNV (fi c) (by simp)
  have h1 := hU.1 s hs.1 hs.2
  simp only [Nat.reduceAdd] at h1
  have m1 := mulb (A := 9999) (B := 3000) (show -9999 ≤ M 52 s ∧ M 52 s ≤ 9999 by omega) (show -3000 ≤ t ∧ t ≤ 3000 by omega)
  have m2 := mulb (A := 9999) (B := 3000) (show -9999 ≤ M 53 s ∧ M 53 s ≤ 9999 by omega) (show -3000 ≤ t ∧ t ≤ 3000 by omega)
  have m3 := mulb (A := 9999) (B := 3000) (show -9999 ≤ M 54 s ∧ M 54 s ≤ 9999 by omega) (show -3000 ≤ c ∧ c ≤ 3000 by omega)
  have m4 := mulb (A := 9999) (B := 3000) (show -9999 ≤ M 55 s ∧ M 55 s ≤ 9999 by omega) (show -3000 ≤ c ∧ c ≤ 3000 by omega)
  refine z_iload_n dX3_evenGreatest_0 rfl ?_
  refine z_if_ge (tgt := 13) dX3_evenGreatest_1 (by decide) (fun c1 => ?_) (fun c1 => ?_)
  · refine z_aload_nr dX3_evenGreatest_13 rfl ?_
    refine z_getr (b := 55) fl_X3_21 rfl (by decide) rf_51_3 rfl dX3_evenGreatest_14 ?_
    refine z_iload_n dX3_evenGreatest_17 rfl ?_
    refine z_iald rfl (by decide) (by omega) (by omega) dX3_evenGreatest_18 (fun x2 hx2 bx2 => ?_)
    refine z_istore (loc2 := [fr 51, fi s, fi t, fi c, fi x2]) dX3_evenGreatest_19 (by decide) rfl ?_
    refine z_aload_nr dX3_evenGreatest_21 rfl ?_
    refine z_getr (b := 53) fl_X3_15 rfl (by decide) rf_51_1 rfl dX3_evenGreatest_22 ?_
    refine z_iload_n dX3_evenGreatest_25 rfl ?_
    refine z_iald rfl (by decide) (by omega) (by omega) dX3_evenGreatest_26 (fun x3 hx3 bx3 => ?_)
    refine z_iload_n dX3_evenGreatest_27 rfl ?_
    refine z_imulN dX3_evenGreatest_28 (by subst_vars; omega) (fun x4 hx4 => ?_)
    refine z_iload dX3_evenGreatest_29 rfl ?_
    refine z_iload_n dX3_evenGreatest_31 rfl ?_
    refine z_imulN dX3_evenGreatest_32 (by subst_vars; omega) (fun x5 hx5 => ?_)
    refine z_iaddN dX3_evenGreatest_33 (by subst_vars; omega) (fun x6 hx6 => ?_)
    refine z_iret rfl (by decide) rfl (Nat.sub_self _) dX3_evenGreatest_34 ?_
    refine ⟨rfl, ?_⟩
    unfold evGS
    first | rw [if_pos (by omega)] | rw [if_neg (by omega)]
    subst_vars
    omega
  · refine z_aload_nr dX3_evenGreatest_4 rfl ?_
    refine z_getr (b := 54) fl_X3_18 rfl (by decide) rf_51_2 rfl dX3_evenGreatest_5 ?_
    refine z_iload_n dX3_evenGreatest_8 rfl ?_
    refine z_iald rfl (by decide) (by omega) (by omega) dX3_evenGreatest_9 (fun x7 hx7 bx7 => ?_)
    refine z_goto (tgt := 19) dX3_evenGreatest_10 (by decide) ?_
    refine z_istore (loc2 := [fr 51, fi s, fi t, fi c, fi x7]) dX3_evenGreatest_19 (by decide) rfl ?_
    refine z_aload_nr dX3_evenGreatest_21 rfl ?_
    refine z_getr (b := 53) fl_X3_15 rfl (by decide) rf_51_1 rfl dX3_evenGreatest_22 ?_
    refine z_iload_n dX3_evenGreatest_25 rfl ?_
    refine z_iald rfl (by decide) (by omega) (by omega) dX3_evenGreatest_26 (fun x8 hx8 bx8 => ?_)
    refine z_iload_n dX3_evenGreatest_27 rfl ?_
    refine z_imulN dX3_evenGreatest_28 (by subst_vars; omega) (fun x9 hx9 => ?_)
    refine z_iload dX3_evenGreatest_29 rfl ?_
    refine z_iload_n dX3_evenGreatest_31 rfl ?_
    refine z_imulN dX3_evenGreatest_32 (by subst_vars; omega) (fun x10 hx10 => ?_)
    refine z_iaddN dX3_evenGreatest_33 (by subst_vars; omega) (fun x11 hx11 => ?_)
    refine z_iret rfl (by decide) rfl (Nat.sub_self _) dX3_evenGreatest_34 ?_
    refine ⟨rfl, ?_⟩
    unfold evGS
    first | rw [if_pos (by omega)] | rw [if_neg (by omega)]
    subst_vars
    omega
set_option maxHeartbeats 400000 in
theorem A_X3_evenLeast51 (l : Launch) (g : Cx) (M : FMem) (s t c : Int) (hs : 0 ≤ s ∧ s < 6) (ht : 0 ≤ t ∧ t ≤ 3000) (hc : -500 ≤ c ∧ c ≤ 3000) (hU : RulX M 51) : AMi l g true fi_X3_evenLeast [fr 51, fi s, fi t, fi c] 93 M (fun r M2 => M2 = M ∧ (fun q => q = evLS (M 52 s) (M 54 s) (M 55 s) t c) r) := by
  refine AMi_intro [fr 51, fi s, fi t, fi c, fu] (by decide) (knall rfl) (Nat.le_of_ble_eq_true rfl) rfl ?_
  intro hNV hM0 μ
  have bs : N32 s := hNV (fi s) (by simp)
  have bt : N32 t := hNV (fi t) (by simp)
  have bc : N32 c := hNV (fi c) (by simp)
  have h1 := hU.1 s hs.1 hs.2
  simp only [Nat.reduceAdd] at h1
  have m1 := mulb (A := 9999) (B := 3000) (show -9999 ≤ M 52 s ∧ M 52 s ≤ 9999 by omega) (show -3000 ≤ t ∧ t ≤ 3000 by omega)
  have m2 := mulb (A := 9999) (B := 3000) (show -9999 ≤ M 53 s ∧ M 53 s ≤ 9999 by omega) (show -3000 ≤ t ∧ t ≤ 3000 by omega)
  have m3 := mulb (A := 9999) (B := 3000) (show -9999 ≤ M 54 s ∧ M 54 s ≤ 9999 by omega) (show -3000 ≤ c ∧ c ≤ 3000 by omega)
  have m4 := mulb (A := 9999) (B := 3000) (show -9999 ≤ M 55 s ∧ M 55 s ≤ 9999 by omega) (show -3000 ≤ c ∧ c ≤ 3000 by omega)
  refine z_iload_n dX3_evenLeast_0 rfl ?_
  refine z_if_ge (tgt := 13) dX3_evenLeast_1 (by decide) (fun c1 => ?_) (fun c1 => ?_)
  · refine z_aload_nr dX3_evenLeast_13 rfl ?_
    refine z_getr (b := 54) fl_X3_18 rfl (by decide) rf_51_2 rfl dX3_evenLeast_14 ?_
    refine z_iload_n dX3_evenLeast_17 rfl ?_
    refine z_iald rfl (by decide) (by omega) (by omega) dX3_evenLeast_18 (fun x2 hx2 bx2 => ?_)
    refine z_istore (loc2 := [fr 51, fi s, fi t, fi c, fi x2]) dX3_evenLeast_19 (by decide) rfl ?_
    refine z_aload_nr dX3_evenLeast_21 rfl ?_
    refine z_getr (b := 52) fl_X3_9 rfl (by decide) rf_51_0 rfl dX3_evenLeast_22 ?_
    refine z_iload_n dX3_evenLeast_25 rfl ?_
    refine z_iald rfl (by decide) (by omega) (by omega) dX3_evenLeast_26 (fun x3 hx3 bx3 => ?_)
    refine z_iload_n dX3_evenLeast_27 rfl ?_
    refine z_imulN dX3_evenLeast_28 (by subst_vars; omega) (fun x4 hx4 => ?_)
    refine z_iload dX3_evenLeast_29 rfl ?_
    refine z_iload_n dX3_evenLeast_31 rfl ?_
    refine z_imulN dX3_evenLeast_32 (by subst_vars; omega) (fun x5 hx5 => ?_)
    refine z_iaddN dX3_evenLeast_33 (by subst_vars; omega) (fun x6 hx6 => ?_)
    refine z_iret rfl (by decide) rfl (Nat.sub_self _) dX3_evenLeast_34 ?_
    refine ⟨rfl, ?_⟩
    unfold evLS
    first | rw [if_pos (by omega)] | rw [if_neg (by omega)]
    subst_vars
    omega
  · refine z_aload_nr dX3_evenLeast_4 rfl ?_
    refine z_getr (b := 55) fl_X3_21 rfl (by decide) rf_51_3 rfl dX3_evenLeast_5 ?_
    refine z_iload_n dX3_evenLeast_8 rfl ?_
    refine z_iald rfl (by decide) (by omega) (by omega) dX3_evenLeast_9 (fun x7 hx7 bx7 => ?_)
    refine z_goto (tgt := 19) dX3_evenLeast_10 (by decide) ?_
    refine z_istore (loc2 := [fr 51, fi s, fi t, fi c, fi x7]) dX3_evenLeast_19 (by decide) rfl ?_
    refine z_aload_nr dX3_evenLeast_21 rfl ?_
    refine z_getr (b := 52) fl_X3_9 rfl (by decide) rf_51_0 rfl dX3_evenLeast_22 ?_
    refine z_iload_n dX3_evenLeast_25 rfl ?_
    refine z_iald rfl (by decide) (by omega) (by omega) dX3_evenLeast_26 (fun x8 hx8 bx8 => ?_)
    refine z_iload_n dX3_evenLeast_27 rfl ?_
    refine z_imulN dX3_evenLeast_28 (by subst_vars; omega) (fun x9 hx9 => ?_)
    refine z_iload dX3_evenLeast_29 rfl ?_
    refine z_iload_n dX3_evenLeast_31 rfl ?_
    refine z_imulN dX3_evenLeast_32 (by subst_vars; omega) (fun x10 hx10 => ?_)
    refine z_iaddN dX3_evenLeast_33 (by subst_vars; omega) (fun x11 hx11 => ?_)
    refine z_iret rfl (by decide) rfl (Nat.sub_self _) dX3_evenLeast_34 ?_
    refine ⟨rfl, ?_⟩
    unfold evLS
    first | rw [if_pos (by omega)] | rw [if_neg (by omega)]
    subst_vars
    omega
set_option maxHeartbeats 400000 in
theorem A_X7_lowOf51 (l : Launch) (g : Cx) (M : FMem) (i : Int) (hi : 0 ≤ i ∧ i < 80) (hT : TelX M i) (hr : M 0 6 = 51) (hR : RedX M) (hU : RulX M 51) : AMi l g true fi_X7_lowOf [fr 0, fi i] 93 M (fun r M2 => M2 = M ∧ (fun q => q = lowX M 51 i ∧ -100000 ≤ q ∧ q ≤ 100000) r) := by
  refine AMi_intro [fr 0, fi i, fu, fu, fu] (by decide) (knall rfl) (Nat.le_of_ble_eq_true rfl) rfl ?_
  intro hNV hM0 μ
  have bi : N32 i := hNV (fi i) (by simp)
  have hT' := hT
  unfold TelX TelOk at hT'
  have hbl := hU.2.1 (M 3 i) (by omega) (by omega)
  simp only [Nat.reduceAdd] at hbl
  have hdq := hU.2.2.1
  refine z_aload_nr dX7_lowOf_0 rfl ?_
  refine z_getr (b := 1) fl_X7_10 rfl (by decide) rf_0_0 rfl dX7_lowOf_1 ?_
  refine z_getr (b := 6) fl_X7_337 rfl (by decide) rf_1_4 rfl dX7_lowOf_4 ?_
  refine z_iload_n dX7_lowOf_7 rfl ?_
  refine z_iald rfl (by decide) (by omega) (by omega) dX7_lowOf_8 (fun x1 hx1 bx1 => ?_)
  refine z_aload_nr dX7_lowOf_9 rfl ?_
  refine z_getv (b := 51) (kz := 6) fl_X7_54 rfl (by decide) rfl (fun _ => by first | assumption | omega | simp_all) dX7_lowOf_10 ?_
  refine z_getr (b := 56) fl_X7_204 rfl (by decide) rf_51_4 rfl dX7_lowOf_13 ?_
  refine z_aload_nr dX7_lowOf_16 rfl ?_
  refine z_getr (b := 1) fl_X7_10 rfl (by decide) rf_0_0 rfl dX7_lowOf_17 ?_
  refine z_getr (b := 3) fl_X7_138 rfl (by decide) rf_1_1 rfl dX7_lowOf_20 ?_
  refine z_iload_n dX7_lowOf_23 rfl ?_
  refine z_iald rfl (by decide) (by omega) (by omega) dX7_lowOf_24 (fun x2 hx2 bx2 => ?_)
  refine z_iald rfl (by decide) (by omega) (by omega) dX7_lowOf_25 (fun x3 hx3 bx3 => ?_)
  have hb5 : x3 = M 56 (M 3 i) := by subst_vars; rfl
  have hbz := hbl
  first | refine z_isubN dX7_lowOf_26 (by omega) (fun x4 hx4 => ?_) | refine z_isub dX7_lowOf_26 (fun x4 hx4 => ?_)
  refine z_istore_n (loc2 := [fr 0, fi i, fi x4, fu, fu]) dX7_lowOf_27 (by decide) rfl ?_
  have hblx : x4 = M 6 i - M 56 (M 3 i) := by subst_vars; rfl
  refine z_aload_nr dX7_lowOf_28 rfl ?_
  refine z_getr (b := 1) fl_X7_10 rfl (by decide) rf_0_0 rfl dX7_lowOf_29 ?_
  refine z_getr (b := 2) fl_X7_135 rfl (by decide) rf_1_0 rfl dX7_lowOf_32 ?_
  refine z_iload_n dX7_lowOf_35 rfl ?_
  refine z_iald rfl (by decide) (by omega) (by omega) dX7_lowOf_36 (fun x5 hx5 bx5 => ?_)
  refine z_if_eq (tgt := 42) dX7_lowOf_37 (by decide) (fun c6 => ?_) (fun c6 => ?_)
  · refine z_aload_nr dX7_lowOf_42 rfl ?_
    refine z_getv (b := 51) (kz := 6) fl_X7_54 rfl (by decide) rfl (fun _ => by first | assumption | omega | simp_all) dX7_lowOf_43 ?_
    refine z_aload_nr dX7_lowOf_46 rfl ?_
    refine z_getr (b := 1) fl_X7_10 rfl (by decide) rf_0_0 rfl dX7_lowOf_47 ?_
    refine z_getr (b := 4) fl_X7_141 rfl (by decide) rf_1_2 rfl dX7_lowOf_50 ?_
    refine z_iload_n dX7_lowOf_53 rfl ?_
    refine z_iald rfl (by decide) (by omega) (by omega) dX7_lowOf_54 (fun x7 hx7 bx7 => ?_)
    refine z_aload_nr dX7_lowOf_55 rfl ?_
    refine z_getr (b := 1) fl_X7_10 rfl (by decide) rf_0_0 rfl dX7_lowOf_56 ?_
    refine z_getr (b := 8) fl_X7_339 rfl (by decide) rf_1_6 rfl dX7_lowOf_59 ?_
    refine z_iload_n dX7_lowOf_62 rfl ?_
    refine z_iald rfl (by decide) (by omega) (by omega) dX7_lowOf_63 (fun x8 hx8 bx8 => ?_)
    refine z_aload_nr dX7_lowOf_64 rfl ?_
    refine z_getr (b := 1) fl_X7_10 rfl (by decide) rf_0_0 rfl dX7_lowOf_65 ?_
    refine z_getr (b := 9) fl_X7_342 rfl (by decide) rf_1_7 rfl dX7_lowOf_68 ?_
    refine z_iload_n dX7_lowOf_71 rfl ?_
    refine z_iald rfl (by decide) (by omega) (by omega) dX7_lowOf_72 (fun x9 hx9 bx9 => ?_)
    refine z_callVip (n2 := 93) (A_X3_evenGreatest51 l g M x7 x8 x9 (by omega) (by omega) (by omega) (hU)) cb_X3_evenGreatest cl_X7_345 (clr0 rfl rfl (by decide) (by decide)) rfl (by decide) ⟨_, rfl, rfl⟩ rfl (by decide) rfl (Nat.le_of_ble_eq_true rfl) rfl dX7_lowOf_73 (fun x10 bx10 hx10 => ?_)
    have hss := hU.1 (M 4 i) (by omega) (by omega)
    simp only [Nat.reduceAdd] at hss
    have hevb := ev_b (a := M 53 (M 4 i)) (b := M 54 (M 4 i)) (c := M 55 (M 4 i)) (t := M 8 i) (u := M 9 i) (by omega) (by omega) (by omega) (by omega) (by omega)
    have hev : x10 = evGS (M 53 (M 4 i)) (M 54 (M 4 i)) (M 55 (M 4 i)) (M 8 i) (M 9 i) := by subst_vars; rfl
    rw [← hev] at hevb
    refine z_istore_n (loc2 := [fr 0, fi i, fi x4, fi x10, fu]) dX7_lowOf_76 (by decide) rfl ?_
    refine z_aload_nr dX7_lowOf_77 rfl ?_
    refine z_getr (b := 1) fl_X7_10 rfl (by decide) rf_0_0 rfl dX7_lowOf_78 ?_
    refine z_getr (b := 7) fl_X7_348 rfl (by decide) rf_1_5 rfl dX7_lowOf_81 ?_
    refine z_iload_n dX7_lowOf_84 rfl ?_
    refine z_iald rfl (by decide) (by omega) (by omega) dX7_lowOf_85 (fun x11 hx11 bx11 => ?_)
    refine z_istore (loc2 := [fr 0, fi i, fi x4, fi x10, fi x11]) dX7_lowOf_86 (by decide) rfl ?_
    refine z_iload_n dX7_lowOf_88 rfl ?_
    refine z_iload dX7_lowOf_89 rfl ?_
    first | refine z_isubN dX7_lowOf_91 (by omega) (fun x12 hx12 => ?_) | refine z_isub dX7_lowOf_91 (fun x12 hx12 => ?_)
    refine z_iload_n dX7_lowOf_92 rfl ?_
    refine z_inegN dX7_lowOf_93 (by omega) (fun x13 hx13 => ?_)
    refine z_sipush dX7_lowOf_94 ⟨by decide, by decide⟩ (by decide) ?_
    refine z_callSip (n2 := 93) (A_J9_floorDiv_7cf53 l g M x13) cb_J9_floorDiv_7cf53 cl_X7_350 (clr0 rfl rfl (by decide) (by decide)) rfl (by decide) rfl (Nat.le_of_ble_eq_true rfl) rfl dX7_lowOf_97 (fun x14 bx14 hx14 => ?_)
    first | refine z_iaddN dX7_lowOf_100 (by omega) (fun x15 hx15 => ?_) | refine z_iadd dX7_lowOf_100 (fun x15 hx15 => ?_)
    refine z_aload_nr dX7_lowOf_101 rfl ?_
    refine z_getr (b := 14) fl_X7_19 rfl (by decide) rf_0_1 rfl dX7_lowOf_102 ?_
    refine z_aload_nr dX7_lowOf_105 rfl ?_
    refine z_getr (b := 1) fl_X7_10 rfl (by decide) rf_0_0 rfl dX7_lowOf_106 ?_
    refine z_getr (b := 5) fl_X7_144 rfl (by decide) rf_1_3 rfl dX7_lowOf_109 ?_
    refine z_iload_n dX7_lowOf_112 rfl ?_
    refine z_iald rfl (by decide) (by omega) (by omega) dX7_lowOf_113 (fun x16 hx16 bx16 => ?_)
    refine z_aload_nr dX7_lowOf_114 rfl ?_
    refine z_getv (b := 51) (kz := 6) fl_X7_54 rfl (by decide) rfl (fun _ => by first | assumption | omega | simp_all) dX7_lowOf_115 ?_
    refine z_callVip (n2 := 93) (A_X0_greatestOf51 l g M x16 (by omega) (hR) (hU)) cb_X0_greatestOf cl_X7_353 (clr0 rfl rfl (by decide) (by decide)) rfl (by decide) ⟨_, rfl, rfl⟩ rfl (by decide) rfl (Nat.le_of_ble_eq_true rfl) rfl dX7_lowOf_118 (fun x17 bx17 hx17 => ?_)
    have hdust : x17 = -((-(M 16 (M 5 i) * M 51 6)) / 10) := by subst_vars; rfl
    have hrd := hR (M 5 i) (by omega) (by omega)
    have hmm := mulb (A := 2000) (B := 99) (show -2000 ≤ M 16 (M 5 i) ∧ M 16 (M 5 i) ≤ 2000 by omega) (show -99 ≤ M 51 6 ∧ M 51 6 ≤ 99 by omega)
    have hmn : 0 ≤ M 16 (M 5 i) * M 51 6 := Int.mul_nonneg (by omega) (by omega)
    first | refine z_isubN dX7_lowOf_121 (by omega) (fun x18 hx18 => ?_) | refine z_isub dX7_lowOf_121 (fun x18 hx18 => ?_)
    refine z_iret rfl (by decide) rfl (Nat.sub_self _) dX7_lowOf_122 ?_
    refine ⟨rfl, ?_⟩
    unfold lowX lowS
    simp only [Nat.reduceAdd]
    rw [if_pos (by omega), ← hev]
    omega
  · refine z_iload_n dX7_lowOf_40 rfl ?_
    refine z_iret rfl (by decide) rfl (Nat.sub_self _) dX7_lowOf_41 ?_
    refine ⟨rfl, ?_⟩
    unfold lowX lowS
    simp only [Nat.reduceAdd]
    rw [if_neg (by omega)]
    omega
set_option maxHeartbeats 400000 in
theorem A_X7_highOf51 (l : Launch) (g : Cx) (M : FMem) (i : Int) (hi : 0 ≤ i ∧ i < 80) (hT : TelX M i) (hr : M 0 6 = 51) (hR : RedX M) (hU : RulX M 51) : AMi l g true fi_X7_highOf [fr 0, fi i] 93 M (fun r M2 => M2 = M ∧ (fun q => q = highX M 51 i ∧ -100000 ≤ q ∧ q ≤ 100000) r) := by
  refine AMi_intro [fr 0, fi i, fu, fu, fu] (by decide) (knall rfl) (Nat.le_of_ble_eq_true rfl) rfl ?_
  intro hNV hM0 μ
  have bi : N32 i := hNV (fi i) (by simp)
  have hT' := hT
  unfold TelX TelOk at hT'
  have hbl := hU.2.1 (M 3 i) (by omega) (by omega)
  simp only [Nat.reduceAdd] at hbl
  have hdq := hU.2.2.1
  refine z_aload_nr dX7_highOf_0 rfl ?_
  refine z_getr (b := 1) fl_X7_10 rfl (by decide) rf_0_0 rfl dX7_highOf_1 ?_
  refine z_getr (b := 7) fl_X7_348 rfl (by decide) rf_1_5 rfl dX7_highOf_4 ?_
  refine z_iload_n dX7_highOf_7 rfl ?_
  refine z_iald rfl (by decide) (by omega) (by omega) dX7_highOf_8 (fun x1 hx1 bx1 => ?_)
  refine z_aload_nr dX7_highOf_9 rfl ?_
  refine z_getv (b := 51) (kz := 6) fl_X7_54 rfl (by decide) rfl (fun _ => by first | assumption | omega | simp_all) dX7_highOf_10 ?_
  refine z_getr (b := 56) fl_X7_204 rfl (by decide) rf_51_4 rfl dX7_highOf_13 ?_
  refine z_aload_nr dX7_highOf_16 rfl ?_
  refine z_getr (b := 1) fl_X7_10 rfl (by decide) rf_0_0 rfl dX7_highOf_17 ?_
  refine z_getr (b := 3) fl_X7_138 rfl (by decide) rf_1_1 rfl dX7_highOf_20 ?_
  refine z_iload_n dX7_highOf_23 rfl ?_
  refine z_iald rfl (by decide) (by omega) (by omega) dX7_highOf_24 (fun x2 hx2 bx2 => ?_)
  refine z_iald rfl (by decide) (by omega) (by omega) dX7_highOf_25 (fun x3 hx3 bx3 => ?_)
  have hb5 : x3 = M 56 (M 3 i) := by subst_vars; rfl
  have hbz := hbl
  first | refine z_iaddN dX7_highOf_26 (by omega) (fun x4 hx4 => ?_) | refine z_iadd dX7_highOf_26 (fun x4 hx4 => ?_)
  refine z_istore_n (loc2 := [fr 0, fi i, fi x4, fu, fu]) dX7_highOf_27 (by decide) rfl ?_
  have hblx : x4 = M 7 i + M 56 (M 3 i) := by subst_vars; rfl
  refine z_aload_nr dX7_highOf_28 rfl ?_
  refine z_getr (b := 1) fl_X7_10 rfl (by decide) rf_0_0 rfl dX7_highOf_29 ?_
  refine z_getr (b := 2) fl_X7_135 rfl (by decide) rf_1_0 rfl dX7_highOf_32 ?_
  refine z_iload_n dX7_highOf_35 rfl ?_
  refine z_iald rfl (by decide) (by omega) (by omega) dX7_highOf_36 (fun x5 hx5 bx5 => ?_)
  refine z_if_eq (tgt := 42) dX7_highOf_37 (by decide) (fun c6 => ?_) (fun c6 => ?_)
  · refine z_aload_nr dX7_highOf_42 rfl ?_
    refine z_getv (b := 51) (kz := 6) fl_X7_54 rfl (by decide) rfl (fun _ => by first | assumption | omega | simp_all) dX7_highOf_43 ?_
    refine z_aload_nr dX7_highOf_46 rfl ?_
    refine z_getr (b := 1) fl_X7_10 rfl (by decide) rf_0_0 rfl dX7_highOf_47 ?_
    refine z_getr (b := 4) fl_X7_141 rfl (by decide) rf_1_2 rfl dX7_highOf_50 ?_
    refine z_iload_n dX7_highOf_53 rfl ?_
    refine z_iald rfl (by decide) (by omega) (by omega) dX7_highOf_54 (fun x7 hx7 bx7 => ?_)
    refine z_aload_nr dX7_highOf_55 rfl ?_
    refine z_getr (b := 1) fl_X7_10 rfl (by decide) rf_0_0 rfl dX7_highOf_56 ?_
    refine z_getr (b := 8) fl_X7_339 rfl (by decide) rf_1_6 rfl dX7_highOf_59 ?_
    refine z_iload_n dX7_highOf_62 rfl ?_
    refine z_iald rfl (by decide) (by omega) (by omega) dX7_highOf_63 (fun x8 hx8 bx8 => ?_)
    refine z_aload_nr dX7_highOf_64 rfl ?_
    refine z_getr (b := 1) fl_X7_10 rfl (by decide) rf_0_0 rfl dX7_highOf_65 ?_
    refine z_getr (b := 9) fl_X7_342 rfl (by decide) rf_1_7 rfl dX7_highOf_68 ?_
    refine z_iload_n dX7_highOf_71 rfl ?_
    refine z_iald rfl (by decide) (by omega) (by omega) dX7_highOf_72 (fun x9 hx9 bx9 => ?_)
    refine z_callVip (n2 := 93) (A_X3_evenLeast51 l g M x7 x8 x9 (by omega) (by omega) (by omega) (hU)) cb_X3_evenLeast cl_X7_357 (clr0 rfl rfl (by decide) (by decide)) rfl (by decide) ⟨_, rfl, rfl⟩ rfl (by decide) rfl (Nat.le_of_ble_eq_true rfl) rfl dX7_highOf_73 (fun x10 bx10 hx10 => ?_)
    have hss := hU.1 (M 4 i) (by omega) (by omega)
    simp only [Nat.reduceAdd] at hss
    have hevb := ev_b (a := M 52 (M 4 i)) (b := M 54 (M 4 i)) (c := M 55 (M 4 i)) (t := M 8 i) (u := M 9 i) (by omega) (by omega) (by omega) (by omega) (by omega)
    have hev : x10 = evLS (M 52 (M 4 i)) (M 54 (M 4 i)) (M 55 (M 4 i)) (M 8 i) (M 9 i) := by subst_vars; rfl
    rw [← hev] at hevb
    refine z_istore_n (loc2 := [fr 0, fi i, fi x4, fi x10, fu]) dX7_highOf_76 (by decide) rfl ?_
    refine z_aload_nr dX7_highOf_77 rfl ?_
    refine z_getr (b := 1) fl_X7_10 rfl (by decide) rf_0_0 rfl dX7_highOf_78 ?_
    refine z_getr (b := 6) fl_X7_337 rfl (by decide) rf_1_4 rfl dX7_highOf_81 ?_
    refine z_iload_n dX7_highOf_84 rfl ?_
    refine z_iald rfl (by decide) (by omega) (by omega) dX7_highOf_85 (fun x11 hx11 bx11 => ?_)
    refine z_istore (loc2 := [fr 0, fi i, fi x4, fi x10, fi x11]) dX7_highOf_86 (by decide) rfl ?_
    refine z_iload dX7_highOf_88 rfl ?_
    refine z_iload_n dX7_highOf_90 rfl ?_
    first | refine z_iaddN dX7_highOf_91 (by omega) (fun x12 hx12 => ?_) | refine z_iadd dX7_highOf_91 (fun x12 hx12 => ?_)
    refine z_iload_n dX7_highOf_92 rfl ?_
    refine z_sipush dX7_highOf_93 ⟨by decide, by decide⟩ (by decide) ?_
    refine z_callSip (n2 := 93) (A_J9_floorDiv_7cf53 l g M x10) cb_J9_floorDiv_7cf53 cl_X7_350 (clr0 rfl rfl (by decide) (by decide)) rfl (by decide) rfl (Nat.le_of_ble_eq_true rfl) rfl dX7_highOf_96 (fun x13 bx13 hx13 => ?_)
    first | refine z_isubN dX7_highOf_99 (by omega) (fun x14 hx14 => ?_) | refine z_isub dX7_highOf_99 (fun x14 hx14 => ?_)
    refine z_aload_nr dX7_highOf_100 rfl ?_
    refine z_getr (b := 14) fl_X7_19 rfl (by decide) rf_0_1 rfl dX7_highOf_101 ?_
    refine z_aload_nr dX7_highOf_104 rfl ?_
    refine z_getr (b := 1) fl_X7_10 rfl (by decide) rf_0_0 rfl dX7_highOf_105 ?_
    refine z_getr (b := 5) fl_X7_144 rfl (by decide) rf_1_3 rfl dX7_highOf_108 ?_
    refine z_iload_n dX7_highOf_111 rfl ?_
    refine z_iald rfl (by decide) (by omega) (by omega) dX7_highOf_112 (fun x15 hx15 bx15 => ?_)
    refine z_aload_nr dX7_highOf_113 rfl ?_
    refine z_getv (b := 51) (kz := 6) fl_X7_54 rfl (by decide) rfl (fun _ => by first | assumption | omega | simp_all) dX7_highOf_114 ?_
    refine z_callVip (n2 := 93) (A_X0_leastOf51 l g M x15 (by omega) (hR) (hU)) cb_X0_leastOf cl_X7_360 (clr0 rfl rfl (by decide) (by decide)) rfl (by decide) ⟨_, rfl, rfl⟩ rfl (by decide) rfl (Nat.le_of_ble_eq_true rfl) rfl dX7_highOf_117 (fun x16 bx16 hx16 => ?_)
    have hdust : x16 = M 15 (M 5 i) * M 51 5 / 10 := by subst_vars; rfl
    have hrd := hR (M 5 i) (by omega) (by omega)
    have hmm := mulb (A := 2000) (B := 99) (show -2000 ≤ M 15 (M 5 i) ∧ M 15 (M 5 i) ≤ 2000 by omega) (show -99 ≤ M 51 5 ∧ M 51 5 ≤ 99 by omega)
    have hmn : 0 ≤ M 15 (M 5 i) * M 51 5 := Int.mul_nonneg (by omega) (by omega)
    first | refine z_isubN dX7_highOf_120 (by omega) (fun x17 hx17 => ?_) | refine z_isub dX7_highOf_120 (fun x17 hx17 => ?_)
    refine z_iret rfl (by decide) rfl (Nat.sub_self _) dX7_highOf_121 ?_
    refine ⟨rfl, ?_⟩
    unfold highX highS
    simp only [Nat.reduceAdd]
    rw [if_pos (by omega), ← hev]
    omega
  · refine z_iload_n dX7_highOf_40 rfl ?_
    refine z_iret rfl (by decide) rfl (Nat.sub_self _) dX7_highOf_41 ?_
    refine ⟨rfl, ?_⟩
    unfold highX highS
    simp only [Nat.reduceAdd]
    rw [if_neg (by omega)]
    omega
