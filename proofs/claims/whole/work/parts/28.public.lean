/-! ===== answers that a set of rows decides ===== -/
def Feas (S : (Int → Int) → Prop) : Prop := ∃ x, S x
/-- an end of home h: the upper (1), the lower (0) -/
def EndR (S : (Int → Int) → Prop) (what h q : Int) : Prop := (what = 1 ∧ MaxD S 16 h q) ∨ (what = 0 ∧ MaxD S h 16 (-q))
theorem EndR_eq {S : (Int → Int) → Prop} {what h q q' : Int} (a : EndR S what h q) (b : EndR S what h q') : q = q' := by
  rcases a with ⟨a1, a2⟩ | ⟨a1, a2⟩ <;> rcases b with ⟨b1, b2⟩ | ⟨b1, b2⟩
  · exact MaxD_eq a2 b2
  · omega
  · omega
  · have := MaxD_eq a2 b2; omega
theorem EndR_free {S : (Int → Int) → Prop} {what h q : Int} (a : EndR S what h q) (b : FreeD S 16 h) : False := by
  rcases a with ⟨a1, a2⟩ | ⟨a1, a2⟩
  · exact MaxD_free a2 b
  · exact MaxD_free a2 (FreeD_sym b)
def AEnds (S : (Int → Int) → Prop) (home what hid q : Int) : Prop := (¬ Feas S ∧ q = -1000005) ∨ (Feas S ∧ FreeD S 16 home ∧ q = -1000006) ∨ (Feas S ∧ ∃ d, EndR S what home d ∧ q = d + hid)
def ABetw (S : (Int → Int) → Prop) (a b what q : Int) : Prop := (¬ Feas S ∧ q = -1000005) ∨ (Feas S ∧ FreeD S a b ∧ q = -1000006) ∨ (Feas S ∧ ((what = 1 ∧ MaxD S a b q) ∨ (what = 0 ∧ MaxD S b a (-q))))
/-- ends, with its refusals; n tellings, S the rows that the first k tellings allow -/
def PEnds (n : Int) (S : Int → (Int → Int) → Prop) (home k what hid q : Int) : Prop := if ¬ (0 ≤ home ∧ home ≤ 9) then q = -1000001 else if ¬ (k = -1 ∨ (0 ≤ k ∧ k ≤ n)) ∨ ¬ (what = 0 ∨ what = 1) then q = -1000002 else AEnds (S (if k = -1 then n else k)) home what hid q
def PBetw (S : (Int → Int) → Prop) (a b what q : Int) : Prop := if ¬ ((0 ≤ a ∧ a ≤ 9) ∧ (0 ≤ b ∧ b ≤ 9)) then q = -1000001 else if ¬ (what = 0 ∨ what = 1) then q = -1000002 else ABetw S a b what q
theorem PEnds_eq {n : Int} {S : Int → (Int → Int) → Prop} {home k what hid q q' : Int} (a : PEnds n S home k what hid q) (b : PEnds n S home k what hid q') : q = q' := by
  unfold PEnds at a b
  split at a
  · rename_i h; rw [if_pos h] at b; omega
  · rename_i h
    rw [if_neg h] at b
    split at a
    · rename_i h2; rw [if_pos h2] at b; omega
    · rename_i h2
      rw [if_neg h2] at b
      rcases a with ⟨a1, a2⟩ | ⟨a1, a2, a3⟩ | ⟨a1, d, a2, a3⟩ <;> rcases b with ⟨b1, b2⟩ | ⟨b1, b2, b3⟩ | ⟨b1, d', b2, b3⟩ <;> first | omega | exact absurd a1 b1 | exact absurd b1 a1 | exact (EndR_free a2 b2).elim | exact (EndR_free b2 a2).elim | (have := EndR_eq a2 b2; omega)
theorem PBetw_eq {S : (Int → Int) → Prop} {x y what q q' : Int} (a : PBetw S x y what q) (b : PBetw S x y what q') : q = q' := by
  unfold PBetw at a b
  split at a
  · rename_i h; rw [if_pos h] at b; omega
  · rename_i h
    rw [if_neg h] at b
    split at a
    · rename_i h2; rw [if_pos h2] at b; omega
    · rename_i h2
      rw [if_neg h2] at b
      rcases a with ⟨a1, a2⟩ | ⟨a1, a2, a3⟩ | ⟨a1, ⟨a2, a3⟩ | ⟨a2, a3⟩⟩ <;> rcases b with ⟨b1, b2⟩ | ⟨b1, b2, b3⟩ | ⟨b1, ⟨b2, b3⟩ | ⟨b2, b3⟩⟩ <;> first | omega | exact absurd a1 b1 | exact absurd b1 a1 | exact (MaxD_free a3 b2).elim | exact (MaxD_free b3 a2).elim | exact (MaxD_free a3 (FreeD_sym b2)).elim | exact (MaxD_free b3 (FreeD_sym a2)).elim | exact MaxD_eq a3 b3 | (have := MaxD_eq a3 b3; omega)
/-- what a call over the net may change: the net, strife, and the wide's own rows -/
def OffX (M M2 : FMem) : Prop := ∀ b j, b < 20 ∨ 41 < b ∨ b = 38 → M2 b j = M b j
theorem OffX_rfl (M : FMem) : OffX M M := fun _ _ _ => rfl
theorem OffX_tr {M M1 M2 : FMem} (h : OffX M M1) (h' : OffX M1 M2) : OffX M M2 := fun b j q => (h' b j q).trans (h b j q)
/-- the net as it stands ready: loaded, all tried but a list and two tellings -/
def RD (M : FMem) (r : Nat) (kw li one two : Int) (M2 : FMem) : Prop := LD M r kw M2 ∧ NetOk M2 ∧ ∀ x, Sat (EdX M2 1) x ↔ SolT M r kw li one two 0 x
theorem RD_off {M M2 M3 : FMem} {r : Nat} {kw li one two : Int} (h : RD M r kw li one two M2) (h1 : ∀ b j, b < 28 ∨ 36 < b → M3 b j = M2 b j) : RD M r kw li one two M3 := by
  obtain ⟨q1, q2, q3⟩ := h
  refine ⟨LD_off q1 (fun b j q => h1 b j (by omega)) (fun b j q => h1 b j (by omega)) (h1 20 8 (by omega)), NetOk_off (fun b j q => h1 b j (by omega)) q2, fun x => ?_⟩
  rw [EdX_off (fun b j q => h1 b j (by omega)) 1]
  exact q3 x
theorem RD_way {M M2 M3 : FMem} {r : Nat} {kw li one two : Int} (h : RD M r kw li one two M2) (h1 : ∀ b j, b ≠ 28 → b ≠ 29 → M3 b j = M2 b j) : RD M r kw li one two M3 :=
  RD_off h (fun b j q => h1 b j (by omega) (by omega))
theorem RD_leave {M M2 M3 : FMem} {r : Nat} {kw li one two li' one' two' : Int} (h : RD M r kw li one two M2) (hk : kw ≤ 80) (h1 : LOp M2 li' one' two' M3) : RD M r kw li' one' two' M3 := by
  have hl := LD_off h.1 (fun b j q => h1.1 b j (by omega) (by omega)) (fun b j q => h1.1 b j (by omega) (by omega)) (h1.1 20 8 (by decide) (by omega))
  exact ⟨hl, LOp_ok h1 h.1.2.1, fun x => (LOp_sat h1 x).trans (LD_sol h.1 hk li' one' two' x)⟩
theorem RD_load {M M2 : FMem} {r : Nat} {kw : Int} (hk : kw ≤ 80) (h : LD M r kw M2 ∧ ∃ M1, LOp M1 (-1) (-1) (-1) M2 ∧ LD M r kw M1) : RD M r kw (-1) (-1) (-1) M2 := by
  obtain ⟨h1, M1, h2, h3⟩ := h
  exact ⟨h1, LOp_ok h2 h3.2.1, fun x => (LOp_sat h2 x).trans (LD_sol h3 hk _ _ _ x)⟩
/-- what is tried is what is left in -/
def TR (li one two : Int) (M : FMem) : Prop := ∀ k, 0 ≤ k → k < M 20 7 → sel M li one two (M 27 k)
theorem TR_lo {M M2 : FMem} {li one two : Int} (h : LOp M li one two M2) : TR li one two M2 := fun k k0 k1 => (sel_off (fun b j q => h.1 b j (by omega) (by omega)) _ _ _ _).mpr (h.2.2.2.1 k k0 k1)
theorem TR_off {M M2 : FMem} {li one two : Int} (h : TR li one two M) (h1 : ∀ b j, b < 28 → M2 b j = M b j) : TR li one two M2 := by
  intro k k0 k1
  rw [h1 20 7 (by omega)] at k1
  rw [h1 27 _ (by omega), sel_off (fun b j q => h1 b j (by omega))]
  exact h k k0 k1
theorem Sat_eqS {M M2 : FMem} {r : Nat} {kw li one two : Int} (h : RD M r kw li one two M2) : Sat (EdX M2 1) = SolT M r kw li one two 0 := funext fun x => propext (h.2.2 x)
theorem RF_end {M M2 M3 : FMem} {r : Nat} {kw li one two : Int} (h : RD M r kw li one two M2) (hx : Feas (SolT M r kw li one two 0)) {src : Int} (hs : nd src) (hF : RF M2 1 src M3) {v : Int} (hv : nd v) : (M3 28 v = 2000000000 ∧ FreeD (SolT M r kw li one two 0) src v) ∨ (M3 28 v ≠ 2000000000 ∧ MaxD (SolT M r kw li one two 0) src v (M3 28 v) ∧ -1000000000 ≤ M3 28 v ∧ M3 28 v ≤ 1000000000) := by
  obtain ⟨x, hx⟩ := hx
  have hx' := (h.2.2 x).mpr hx
  have hb := RF_bound hF hv
  rw [← Sat_eqS h]
  by_cases hw : M3 28 v = 2000000000
  · exact Or.inl ⟨hw, RF_free hF hs hx' hv hw⟩
  · exact Or.inr ⟨hw, RF_max hF hs hx' hv hw, by omega, by omega⟩
theorem RF_end0 {M M2 M3 : FMem} {r : Nat} {kw li one two : Int} (h : RD M r kw li one two M2) (hx : Feas (SolT M r kw li one two 0)) {src : Int} (hs : nd src) (hF : RF M2 0 src M3) {v : Int} (hv : nd v) : (M3 28 v = 2000000000 ∧ FreeD (SolT M r kw li one two 0) src v) ∨ (M3 28 v ≠ 2000000000 ∧ MaxD (SolT M r kw li one two 0) v src (M3 28 v) ∧ -1000000000 ≤ M3 28 v ∧ M3 28 v ≤ 1000000000) := by
  obtain ⟨x, hx⟩ := hx
  have hx' : Sat (EdX M2 0) (fun v => -(x v)) := Sat0.mpr (by simpa using (h.2.2 x).mpr hx)
  have hb := RF_bound hF hv
  rw [← Sat_eqS h]
  by_cases hw : M3 28 v = 2000000000
  · exact Or.inl ⟨hw, Free0 (RF_free hF hs hx' hv hw)⟩
  · exact Or.inr ⟨hw, Max0 (RF_max hF hs hx' hv hw), by omega, by omega⟩
theorem feas0 {M M2 : FMem} {r : Nat} {kw li one two : Int} (h : RD M r kw li one two M2) (hx : Feas (SolT M r kw li one two 0)) : ∃ x, Sat (EdX M2 0) x := by
  obtain ⟨x, hx⟩ := hx
  exact ⟨fun v => -(x v), Sat0.mpr (by simpa using (h.2.2 x).mpr hx)⟩
theorem feas1 {M M2 : FMem} {r : Nat} {kw li one two : Int} (h : RD M r kw li one two M2) (hx : Feas (SolT M r kw li one two 0)) : ∃ x, Sat (EdX M2 1) x := by
  obtain ⟨x, hx⟩ := hx
  exact ⟨x, (h.2.2 x).mpr hx⟩
theorem RF_off {M M2 : FMem} {what src : Int} (h : RF M what src M2) : ∀ b j, b ≠ 28 → b ≠ 29 → M2 b j = M b j := h.1
theorem quar {M M2 : FMem} {r : Nat} {kw li one two q : Int} (h : RD M r kw li one two M2) (hq : (q = 0 ∧ ∃ x, Sat (EdX M2 1) x ∧ ∀ v, nd v → -1000000000 ≤ x v ∧ x v ≤ 1000000000) ∨ (q = 1 ∧ ∀ x, ¬ Sat (EdX M2 1) x)) : (q = 0 ∧ Feas (SolT M r kw li one two 0)) ∨ (q = 1 ∧ ¬ Feas (SolT M r kw li one two 0)) := by
  rcases hq with ⟨q1, x, q2, -⟩ | ⟨q1, q2⟩
  · exact Or.inl ⟨q1, x, (h.2.2 x).mp q2⟩
  · exact Or.inr ⟨q1, fun ⟨x, hx⟩ => q2 x ((h.2.2 x).mpr hx)⟩
set_option maxHeartbeats 400000 in
theorem A_X7_isKnownBy (l : Launch) (g : Cx) (M : FMem) (k : Int) : AMi l g true fi_X7_isKnownBy [fr 0, fi k] 93 M (fun r M2 => M2 = M ∧ (fun q => q = if k = -1 ∨ (0 ≤ k ∧ k ≤ M 1 13) then 1 else 0) r) := by
  refine AMi_intro [fr 0, fi k] (by decide) (knall rfl) (Nat.le_of_ble_eq_true rfl) rfl ?_
  intro hNV hM0 μ
  have bk : N32 k := hNV (fi k) (by simp)
  refine z_iload_n dX7_isKnownBy_0 rfl ?_
  refine z_iconst dX7_isKnownBy_1 ⟨by decide, by decide⟩ ?_
  refine z_icmp_eq (tgt := 20) dX7_isKnownBy_2 (by decide) (fun c1 => ?_) (fun c1 => ?_)
  · refine z_iconst dX7_isKnownBy_20 ⟨by decide, by decide⟩ ?_
    refine z_goto (tgt := 25) dX7_isKnownBy_21 (by decide) ?_
    refine z_zret rfl (by omega) (by decide) rfl (Nat.sub_self _) dX7_isKnownBy_25 ?_
    refine ⟨rfl, ?_⟩
    first | (rw [if_pos (by omega)]) | (rw [if_neg (by omega)])
  · refine z_iload_n dX7_isKnownBy_5 rfl ?_
    refine z_iconst dX7_isKnownBy_6 ⟨by decide, by decide⟩ ?_
    refine z_aload_nr dX7_isKnownBy_7 rfl ?_
    refine z_getr (b := 1) fl_X7_10 rfl (by decide) rf_0_0 rfl dX7_isKnownBy_8 ?_
    refine z_geti (kz := 13) fl_X7_157 rfl (by decide) rfl dX7_isKnownBy_11 (fun x2 hx2 bx2 => ?_)
    refine z_callSip (n2 := 93) (A_X7_isFrom l g M k 0 x2) cb_X7_isFrom cl_X7_83 (clr0 rfl rfl (by decide) (by decide)) rfl (by decide) rfl (Nat.le_of_ble_eq_true rfl) rfl dX7_isKnownBy_14 (fun x3 bx3 hx3 => ?_)
    have i3 := if01 hx3
    refine z_if_eq (tgt := 24) dX7_isKnownBy_17 (by decide) (fun c4 => ?_) (fun c4 => ?_)
    · refine z_iconst dX7_isKnownBy_24 ⟨by decide, by decide⟩ ?_
      refine z_zret rfl (by omega) (by decide) rfl (Nat.sub_self _) dX7_isKnownBy_25 ?_
      refine ⟨rfl, ?_⟩
      first | (rw [if_pos (by omega)]) | (rw [if_neg (by omega)])
    · refine z_iconst dX7_isKnownBy_20 ⟨by decide, by decide⟩ ?_
      refine z_goto (tgt := 25) dX7_isKnownBy_21 (by decide) ?_
      refine z_zret rfl (by omega) (by decide) rfl (Nat.sub_self _) dX7_isKnownBy_25 ?_
      refine ⟨rfl, ?_⟩
      first | (rw [if_pos (by omega)]) | (rw [if_neg (by omega)])
set_option maxHeartbeats 400000 in
theorem A_X7_quarrelsNow42 (l : Launch) (g : Cx) (M : FMem) (hT : XT M 42) : AMi l g true fi_X7_quarrelsNow [fr 0] 93 M (fun q M2 => (RD M 42 (M 1 13) (-1) (-1) (-1) M2 ∧ TR (-1) (-1) (-1) M2) ∧ ((q = 0 ∧ Feas (SolT M 42 (M 1 13) (-1) (-1) (-1) 0)) ∨ (q = 1 ∧ ¬ Feas (SolT M 42 (M 1 13) (-1) (-1) (-1) 0)))) := by
  refine AMi_intro [fr 0] (by decide) (knall rfl) (Nat.le_of_ble_eq_true rfl) rfl ?_
  intro hNV hM0 μ
  refine z_aload_nr dX7_quarrelsNow_0 rfl ?_
  refine z_iconst dX7_quarrelsNow_1 ⟨by decide, by decide⟩ ?_
  refine z_callVv (n2 := 93) (A_X7_load42 l g M (-1) (hT) (Or.inl rfl)) cb_X7_load cl_X7_216 (clr0 rfl rfl (by decide) (by decide)) rfl (by decide) ⟨_, rfl, rfl⟩ rfl (by decide) rfl (Nat.le_of_ble_eq_true rfl) rfl dX7_quarrelsNow_2 (fun Mz1 kMz1 hc1 => ?_)
  simp only [if_true] at hc1
  have hRD := RD_load hT.1.2 hc1
  have hTR : TR (-1) (-1) (-1) Mz1 := by obtain ⟨M1, q, -⟩ := hc1.2; exact TR_lo q
  refine z_aload_nr dX7_quarrelsNow_5 rfl ?_
  refine z_getr (b := 20) fl_X7_33 rfl (by decide) rf_0_3 rfl dX7_quarrelsNow_6 ?_
  refine z_callVi (n2 := 93) (A_X1_quarrels l g Mz1 (hRD.2.1)) cb_X1_quarrels cl_X7_219 (clr0 rfl rfl (by decide) (by decide)) rfl (by decide) ⟨_, rfl, rfl⟩ rfl (by decide) rfl (Nat.le_of_ble_eq_true rfl) rfl dX7_quarrelsNow_9 (fun x2 Mz2 bx2 kMz2 hc2 => ?_)
  have hc1 := hc2
  have hqq := quar hRD hc2.2
  refine z_zret rfl (by omega) (by decide) rfl (Nat.sub_self _) dX7_quarrelsNow_12 ?_
  exact ⟨⟨RD_way hRD hc1.1, TR_off hTR (fun b j q => hc1.1 b j (by omega) (by omega))⟩, hqq⟩
set_option maxHeartbeats 400000 in
theorem A_X7_ends42 (l : Launch) (g : Cx) (M : FMem) (home k what : Int) (hT : XT M 42) (hid : -999 ≤ M 0 8 ∧ M 0 8 ≤ 999) : AMi l g true fi_X7_ends [fr 0, fi home, fi k, fi what] 93 M (fun q M2 => OffX M M2 ∧ PEnds (M 1 13) (fun kw => SolT M 42 kw (-1) (-1) (-1) 0) home k what (if M 0 10 = 1 then M 0 8 else 0) q) := by
  refine AMi_intro [fr 0, fi home, fi k, fi what] (by decide) (knall rfl) (Nat.le_of_ble_eq_true rfl) rfl ?_
  intro hNV hM0 μ
  have bhome : N32 home := hNV (fi home) (by simp)
  have bk : N32 k := hNV (fi k) (by simp)
  have bwhat : N32 what := hNV (fi what) (by simp)
  have hts := hT.1
  unfold PEnds
  refine z_iload_n dX7_ends_0 rfl ?_
  refine z_callSip (n2 := 93) (A_X7_isHome l g M home) cb_X7_isHome cl_X7_79 (clr0 rfl rfl (by decide) (by decide)) rfl (by decide) rfl (Nat.le_of_ble_eq_true rfl) rfl dX7_ends_1 (fun x1 bx1 hx1 => ?_)
  have i1 := if01 hx1
  refine z_if_ne (tgt := 10) dX7_ends_4 (by decide) (fun c2 => ?_) (fun c2 => ?_)
  · refine z_aload_nr dX7_ends_10 rfl ?_
    refine z_iload_n dX7_ends_11 rfl ?_
    refine z_callVip (n2 := 93) (A_X7_isKnownBy l g M k) cb_X7_isKnownBy cl_X7_210 (clr0 rfl rfl (by decide) (by decide)) rfl (by decide) ⟨_, rfl, rfl⟩ rfl (by decide) rfl (Nat.le_of_ble_eq_true rfl) rfl dX7_ends_12 (fun x3 bx3 hx3 => ?_)
    have i3 := if01 hx3
    refine z_if_eq (tgt := 25) dX7_ends_15 (by decide) (fun c4 => ?_) (fun c4 => ?_)
    · refine z_ldc (c := -1000002) cn_X7_87 ⟨by decide, by decide⟩ dX7_ends_25 ?_
      refine z_iret rfl (by decide) rfl (Nat.sub_self _) dX7_ends_27 ?_
      refine ⟨OffX_rfl M, ?_⟩
      rw [if_neg (by omega), if_pos (by omega)]
    · refine z_iload_n dX7_ends_18 rfl ?_
      refine z_callSip (n2 := 93) (A_X7_isEnd l g M what) cb_X7_isEnd cl_X7_213 (clr0 rfl rfl (by decide) (by decide)) rfl (by decide) rfl (Nat.le_of_ble_eq_true rfl) rfl dX7_ends_19 (fun x5 bx5 hx5 => ?_)
      have i5 := if01 hx5
      refine z_if_ne (tgt := 28) dX7_ends_22 (by decide) (fun c6 => ?_) (fun c6 => ?_)
      · refine z_aload_nr dX7_ends_28 rfl ?_
        refine z_iload_n dX7_ends_29 rfl ?_
        refine z_callVv (n2 := 93) (A_X7_load42 l g M k (hT) (by omega)) cb_X7_load cl_X7_216 (clr0 rfl rfl (by decide) (by decide)) rfl (by decide) ⟨_, rfl, rfl⟩ rfl (by decide) rfl (Nat.le_of_ble_eq_true rfl) rfl dX7_ends_30 (fun Mz7 kMz7 hc7 => ?_)
        have hkb : (if k = -1 then M 1 13 else k) ≤ 80 := by split <;> omega
        have hRD := RD_load hkb hc7
        refine z_aload_nr dX7_ends_33 rfl ?_
        refine z_getr (b := 20) fl_X7_33 rfl (by decide) rf_0_3 rfl dX7_ends_34 ?_
        refine z_callVi (n2 := 93) (A_X1_quarrels l g Mz7 (hRD.2.1)) cb_X1_quarrels cl_X7_219 (clr0 rfl rfl (by decide) (by decide)) rfl (by decide) ⟨_, rfl, rfl⟩ rfl (by decide) rfl (Nat.le_of_ble_eq_true rfl) rfl dX7_ends_37 (fun x8 Mz8 bx8 kMz8 hc8 => ?_)
        have hRD2 := RD_way hRD hc8.1
        have hqq := quar hRD hc8.2
        refine z_if_eq (tgt := 46) dX7_ends_40 (by decide) (fun c9 => ?_) (fun c9 => ?_)
        · have hfe : Feas (SolT M 42 (if k = -1 then M 1 13 else k) (-1) (-1) (-1) 0) := by rcases hqq with q | q; exact q.2; omega
          rcases (show what = 1 ∨ what = 0 by omega) with rfl | rfl
          · have hfe : Feas (SolT M 42 (if k = -1 then M 1 13 else k) (-1) (-1) (-1) 0) := by rcases hqq with q | q; exact q.2; omega
            refine z_aload_nr dX7_ends_46 rfl ?_
            refine z_getr (b := 20) fl_X7_33 rfl (by decide) rf_0_3 rfl dX7_ends_47 ?_
            refine z_bipush dX7_ends_50 ⟨by decide, by decide⟩ (by decide) ?_
            refine z_iload_n dX7_ends_52 rfl ?_
            refine z_callVv (n2 := 93) (A_X1_reach1 l g Mz8 16 (by omega) (hRD2.2.1) (feas1 hRD2 hfe)) cb_X1_reach cl_X7_223 (clr0 rfl rfl (by decide) (by decide)) rfl (by decide) ⟨_, rfl, rfl⟩ rfl (by decide) rfl (Nat.le_of_ble_eq_true rfl) rfl dX7_ends_53 (fun Mz10 kMz10 hc10 => ?_)
            have hF := hc10
            have hend := by first | exact RF_end hRD2 hfe (by omega) hF (v := home) (by omega) | exact RF_end0 hRD2 hfe (by omega) hF (v := home) (by omega)
            have hz8 : Mz10 0 8 = M 0 8 := (hF.1 _ _ (by decide) (by decide)).trans (hRD2.1.1 _ _ (by omega))
            have hz10 : Mz10 0 10 = M 0 10 := (hF.1 _ _ (by decide) (by decide)).trans (hRD2.1.1 _ _ (by omega))
            have hofx : OffX M Mz10 := fun b j q => (hF.1 b j (by omega) (by omega)).trans (hRD2.1.1 b j (by omega))
            refine z_aload_nr dX7_ends_56 rfl ?_
            refine z_getr (b := 20) fl_X7_33 rfl (by decide) rf_0_3 rfl dX7_ends_57 ?_
            refine z_iload_n dX7_ends_60 rfl ?_
            refine z_callVip (n2 := 93) (A_X1_isReached l g Mz10 home (by omega)) cb_X1_isReached cl_X7_227 (clr0 rfl rfl (by decide) (by decide)) rfl (by decide) ⟨_, rfl, rfl⟩ rfl (by decide) rfl (Nat.le_of_ble_eq_true rfl) rfl dX7_ends_61 (fun x11 bx11 hx11 => ?_)
            have i11 := if10 hx11
            refine z_if_ne (tgt := 70) dX7_ends_64 (by decide) (fun c12 => ?_) (fun c12 => ?_)
            · have hend2 := hend.resolve_left (fun q => by omega)
              refine z_aload_nr dX7_ends_70 rfl ?_
              refine z_getr (b := 20) fl_X7_33 rfl (by decide) rf_0_3 rfl dX7_ends_71 ?_
              refine z_iload_n dX7_ends_74 rfl ?_
              refine z_iload_n dX7_ends_75 rfl ?_
              refine z_callVip (n2 := 93) (A_X1_bound1 l g Mz10 home (by omega)) cb_X1_bound cl_X7_231 (clr0 rfl rfl (by decide) (by decide)) rfl (by decide) ⟨_, rfl, rfl⟩ rfl (by decide) rfl (Nat.le_of_ble_eq_true rfl) rfl dX7_ends_76 (fun x13 bx13 hx13 => ?_)
              refine z_aload_nr dX7_ends_79 rfl ?_
              refine z_getz (kz := 10) fl_X7_69 rfl (by decide) rfl dX7_ends_80 (fun x14 hx14 bx14 => ?_)
              refine z_if_eq (tgt := 93) dX7_ends_83 (by decide) (fun c15 => ?_) (fun c15 => ?_)
              · refine z_iconst dX7_ends_93 ⟨by decide, by decide⟩ ?_
                first | refine z_iaddN dX7_ends_94 (by omega) (fun x16 hx16 => ?_) | refine z_iadd dX7_ends_94 (fun x16 hx16 => ?_)
                refine z_iret rfl (by decide) rfl (Nat.sub_self _) dX7_ends_95 ?_
                refine ⟨hofx, ?_⟩
                rw [if_neg (by omega), if_neg (by omega)]
                first
                | (refine Or.inr (Or.inr ⟨hfe, _, Or.inl ⟨rfl, hend2.2.1⟩, ?_⟩); first | (rw [if_pos (by omega)]; omega) | (rw [if_neg (by omega)]; omega))
                | (refine Or.inr (Or.inr ⟨hfe, -(Mz10 28 home), Or.inr ⟨rfl, by rw [Int.neg_neg]; exact hend2.2.1⟩, ?_⟩); first | (rw [if_pos (by omega)]; omega) | (rw [if_neg (by omega)]; omega))
              · refine z_aload_nr dX7_ends_86 rfl ?_
                refine z_geti (kz := 8) fl_X7_61 rfl (by decide) rfl dX7_ends_87 (fun x17 hx17 bx17 => ?_)
                refine z_goto (tgt := 94) dX7_ends_90 (by decide) ?_
                first | refine z_iaddN dX7_ends_94 (by omega) (fun x18 hx18 => ?_) | refine z_iadd dX7_ends_94 (fun x18 hx18 => ?_)
                refine z_iret rfl (by decide) rfl (Nat.sub_self _) dX7_ends_95 ?_
                refine ⟨hofx, ?_⟩
                rw [if_neg (by omega), if_neg (by omega)]
                first
                | (refine Or.inr (Or.inr ⟨hfe, _, Or.inl ⟨rfl, hend2.2.1⟩, ?_⟩); first | (rw [if_pos (by omega)]; omega) | (rw [if_neg (by omega)]; omega))
                | (refine Or.inr (Or.inr ⟨hfe, -(Mz10 28 home), Or.inr ⟨rfl, by rw [Int.neg_neg]; exact hend2.2.1⟩, ?_⟩); first | (rw [if_pos (by omega)]; omega) | (rw [if_neg (by omega)]; omega))
            · refine z_ldc (c := -1000006) cn_X7_230 ⟨by decide, by decide⟩ dX7_ends_67 ?_
              refine z_iret rfl (by decide) rfl (Nat.sub_self _) dX7_ends_69 ?_
              refine ⟨hofx, ?_⟩
              rw [if_neg (by omega), if_neg (by omega)]
              refine Or.inr (Or.inl ⟨hfe, ?_, rfl⟩)
              rcases hend with q | q
              · exact q.2
              · omega
          · have hfe : Feas (SolT M 42 (if k = -1 then M 1 13 else k) (-1) (-1) (-1) 0) := by rcases hqq with q | q; exact q.2; omega
            refine z_aload_nr dX7_ends_46 rfl ?_
            refine z_getr (b := 20) fl_X7_33 rfl (by decide) rf_0_3 rfl dX7_ends_47 ?_
            refine z_bipush dX7_ends_50 ⟨by decide, by decide⟩ (by decide) ?_
            refine z_iload_n dX7_ends_52 rfl ?_
            refine z_callVv (n2 := 93) (A_X1_reach0 l g Mz8 16 (by omega) (hRD2.2.1) (feas0 hRD2 hfe)) cb_X1_reach cl_X7_223 (clr0 rfl rfl (by decide) (by decide)) rfl (by decide) ⟨_, rfl, rfl⟩ rfl (by decide) rfl (Nat.le_of_ble_eq_true rfl) rfl dX7_ends_53 (fun Mz19 kMz19 hc19 => ?_)
            have hF := hc19
            have hend := by first | exact RF_end hRD2 hfe (by omega) hF (v := home) (by omega) | exact RF_end0 hRD2 hfe (by omega) hF (v := home) (by omega)
            have hz8 : Mz19 0 8 = M 0 8 := (hF.1 _ _ (by decide) (by decide)).trans (hRD2.1.1 _ _ (by omega))
            have hz10 : Mz19 0 10 = M 0 10 := (hF.1 _ _ (by decide) (by decide)).trans (hRD2.1.1 _ _ (by omega))
            have hofx : OffX M Mz19 := fun b j q => (hF.1 b j (by omega) (by omega)).trans (hRD2.1.1 b j (by omega))
            refine z_aload_nr dX7_ends_56 rfl ?_
            refine z_getr (b := 20) fl_X7_33 rfl (by decide) rf_0_3 rfl dX7_ends_57 ?_
            refine z_iload_n dX7_ends_60 rfl ?_
            refine z_callVip (n2 := 93) (A_X1_isReached l g Mz19 home (by omega)) cb_X1_isReached cl_X7_227 (clr0 rfl rfl (by decide) (by decide)) rfl (by decide) ⟨_, rfl, rfl⟩ rfl (by decide) rfl (Nat.le_of_ble_eq_true rfl) rfl dX7_ends_61 (fun x20 bx20 hx20 => ?_)
            have i20 := if10 hx20
            refine z_if_ne (tgt := 70) dX7_ends_64 (by decide) (fun c21 => ?_) (fun c21 => ?_)
            · have hend2 := hend.resolve_left (fun q => by omega)
              refine z_aload_nr dX7_ends_70 rfl ?_
              refine z_getr (b := 20) fl_X7_33 rfl (by decide) rf_0_3 rfl dX7_ends_71 ?_
              refine z_iload_n dX7_ends_74 rfl ?_
              refine z_iload_n dX7_ends_75 rfl ?_
              refine z_callVip (n2 := 93) (A_X1_bound0 l g Mz19 home (by omega) (by omega)) cb_X1_bound cl_X7_231 (clr0 rfl rfl (by decide) (by decide)) rfl (by decide) ⟨_, rfl, rfl⟩ rfl (by decide) rfl (Nat.le_of_ble_eq_true rfl) rfl dX7_ends_76 (fun x22 bx22 hx22 => ?_)
              refine z_aload_nr dX7_ends_79 rfl ?_
              refine z_getz (kz := 10) fl_X7_69 rfl (by decide) rfl dX7_ends_80 (fun x23 hx23 bx23 => ?_)
              refine z_if_eq (tgt := 93) dX7_ends_83 (by decide) (fun c24 => ?_) (fun c24 => ?_)
              · refine z_iconst dX7_ends_93 ⟨by decide, by decide⟩ ?_
                first | refine z_iaddN dX7_ends_94 (by omega) (fun x25 hx25 => ?_) | refine z_iadd dX7_ends_94 (fun x25 hx25 => ?_)
                refine z_iret rfl (by decide) rfl (Nat.sub_self _) dX7_ends_95 ?_
                refine ⟨hofx, ?_⟩
                rw [if_neg (by omega), if_neg (by omega)]
                first
                | (refine Or.inr (Or.inr ⟨hfe, _, Or.inl ⟨rfl, hend2.2.1⟩, ?_⟩); first | (rw [if_pos (by omega)]; omega) | (rw [if_neg (by omega)]; omega))
                | (refine Or.inr (Or.inr ⟨hfe, -(Mz19 28 home), Or.inr ⟨rfl, by rw [Int.neg_neg]; exact hend2.2.1⟩, ?_⟩); first | (rw [if_pos (by omega)]; omega) | (rw [if_neg (by omega)]; omega))
              · refine z_aload_nr dX7_ends_86 rfl ?_
                refine z_geti (kz := 8) fl_X7_61 rfl (by decide) rfl dX7_ends_87 (fun x26 hx26 bx26 => ?_)
                refine z_goto (tgt := 94) dX7_ends_90 (by decide) ?_
                first | refine z_iaddN dX7_ends_94 (by omega) (fun x27 hx27 => ?_) | refine z_iadd dX7_ends_94 (fun x27 hx27 => ?_)
                refine z_iret rfl (by decide) rfl (Nat.sub_self _) dX7_ends_95 ?_
                refine ⟨hofx, ?_⟩
                rw [if_neg (by omega), if_neg (by omega)]
                first
                | (refine Or.inr (Or.inr ⟨hfe, _, Or.inl ⟨rfl, hend2.2.1⟩, ?_⟩); first | (rw [if_pos (by omega)]; omega) | (rw [if_neg (by omega)]; omega))
                | (refine Or.inr (Or.inr ⟨hfe, -(Mz19 28 home), Or.inr ⟨rfl, by rw [Int.neg_neg]; exact hend2.2.1⟩, ?_⟩); first | (rw [if_pos (by omega)]; omega) | (rw [if_neg (by omega)]; omega))
            · refine z_ldc (c := -1000006) cn_X7_230 ⟨by decide, by decide⟩ dX7_ends_67 ?_
              refine z_iret rfl (by decide) rfl (Nat.sub_self _) dX7_ends_69 ?_
              refine ⟨hofx, ?_⟩
              rw [if_neg (by omega), if_neg (by omega)]
              refine Or.inr (Or.inl ⟨hfe, ?_, rfl⟩)
              rcases hend with q | q
              · exact q.2
              · omega
        · refine z_ldc (c := -1000005) cn_X7_222 ⟨by decide, by decide⟩ dX7_ends_43 ?_
          refine z_iret rfl (by decide) rfl (Nat.sub_self _) dX7_ends_45 ?_
          refine ⟨fun b j q => hRD2.1.1 b j (by omega), ?_⟩
          rw [if_neg (by omega), if_neg (by omega)]
          refine Or.inl ⟨?_, rfl⟩
          rcases hqq with q | q
          · omega
          · exact q.2
      · refine z_ldc (c := -1000002) cn_X7_87 ⟨by decide, by decide⟩ dX7_ends_25 ?_
        refine z_iret rfl (by decide) rfl (Nat.sub_self _) dX7_ends_27 ?_
        refine ⟨OffX_rfl M, ?_⟩
        rw [if_neg (by omega), if_pos (by omega)]
  · refine z_ldc (c := -1000001) cn_X7_82 ⟨by decide, by decide⟩ dX7_ends_7 ?_
    refine z_iret rfl (by decide) rfl (Nat.sub_self _) dX7_ends_9 ?_
    refine ⟨OffX_rfl M, ?_⟩
    rw [if_pos (by omega)]
set_option maxHeartbeats 400000 in
theorem A_X7_between42 (l : Launch) (g : Cx) (M : FMem) (a b what : Int) (hT : XT M 42) : AMi l g true fi_X7_between [fr 0, fi a, fi b, fi what] 93 M (fun q M2 => OffX M M2 ∧ PBetw (SolT M 42 (M 1 13) (-1) (-1) (-1) 0) a b what q) := by
  refine AMi_intro [fr 0, fi a, fi b, fi what] (by decide) (knall rfl) (Nat.le_of_ble_eq_true rfl) rfl ?_
  intro hNV hM0 μ
  have ba : N32 a := hNV (fi a) (by simp)
  have bb : N32 b := hNV (fi b) (by simp)
  have bwhat : N32 what := hNV (fi what) (by simp)
  have hts := hT.1
  unfold PBetw
  refine z_iload_n dX7_between_0 rfl ?_
  refine z_callSip (n2 := 93) (A_X7_isHome l g M a) cb_X7_isHome cl_X7_79 (clr0 rfl rfl (by decide) (by decide)) rfl (by decide) rfl (Nat.le_of_ble_eq_true rfl) rfl dX7_between_1 (fun x1 bx1 hx1 => ?_)
  have i1 := if01 hx1
  refine z_if_eq (tgt := 14) dX7_between_4 (by decide) (fun c2 => ?_) (fun c2 => ?_)
  · refine z_ldc (c := -1000001) cn_X7_82 ⟨by decide, by decide⟩ dX7_between_14 ?_
    refine z_iret rfl (by decide) rfl (Nat.sub_self _) dX7_between_16 ?_
    refine ⟨OffX_rfl M, ?_⟩
    rw [if_pos (by omega)]
  · refine z_iload_n dX7_between_7 rfl ?_
    refine z_callSip (n2 := 93) (A_X7_isHome l g M b) cb_X7_isHome cl_X7_79 (clr0 rfl rfl (by decide) (by decide)) rfl (by decide) rfl (Nat.le_of_ble_eq_true rfl) rfl dX7_between_8 (fun x3 bx3 hx3 => ?_)
    have i3 := if01 hx3
    refine z_if_ne (tgt := 17) dX7_between_11 (by decide) (fun c4 => ?_) (fun c4 => ?_)
    · refine z_iload_n dX7_between_17 rfl ?_
      refine z_callSip (n2 := 93) (A_X7_isEnd l g M what) cb_X7_isEnd cl_X7_213 (clr0 rfl rfl (by decide) (by decide)) rfl (by decide) rfl (Nat.le_of_ble_eq_true rfl) rfl dX7_between_18 (fun x5 bx5 hx5 => ?_)
      have i5 := if01 hx5
      refine z_if_ne (tgt := 27) dX7_between_21 (by decide) (fun c6 => ?_) (fun c6 => ?_)
      · refine z_aload_nr dX7_between_27 rfl ?_
        refine z_callVi (n2 := 93) (A_X7_quarrelsNow42 l g M (hT)) cb_X7_quarrelsNow cl_X7_235 (clr0 rfl rfl (by decide) (by decide)) rfl (by decide) ⟨_, rfl, rfl⟩ rfl (by decide) rfl (Nat.le_of_ble_eq_true rfl) rfl dX7_between_28 (fun x7 Mz7 bx7 kMz7 hc7 => ?_)
        have hRD := hc7.1.1
        have hTR := hc7.1.2
        have hqq := hc7.2
        refine z_if_eq (tgt := 37) dX7_between_31 (by decide) (fun c8 => ?_) (fun c8 => ?_)
        · have hfe : Feas (SolT M 42 (M 1 13) (-1) (-1) (-1) 0) := by rcases hqq with q | q; exact q.2; omega
          rcases (show what = 1 ∨ what = 0 by omega) with rfl | rfl
          · have hfe : Feas (SolT M 42 (M 1 13) (-1) (-1) (-1) 0) := by rcases hqq with q | q; exact q.2; omega
            refine z_aload_nr dX7_between_37 rfl ?_
            refine z_getr (b := 20) fl_X7_33 rfl (by decide) rf_0_3 rfl dX7_between_38 ?_
            refine z_iload_n dX7_between_41 rfl ?_
            refine z_iload_n dX7_between_42 rfl ?_
            refine z_callVv (n2 := 93) (A_X1_reach1 l g Mz7 a (by omega) (hRD.2.1) (feas1 hRD hfe)) cb_X1_reach cl_X7_223 (clr0 rfl rfl (by decide) (by decide)) rfl (by decide) ⟨_, rfl, rfl⟩ rfl (by decide) rfl (Nat.le_of_ble_eq_true rfl) rfl dX7_between_43 (fun Mz9 kMz9 hc9 => ?_)
            have hF := hc9
            have hend := by first | exact RF_end hRD hfe (by omega) hF (v := b) (by omega) | exact RF_end0 hRD hfe (by omega) hF (v := b) (by omega)
            have hofx : OffX M Mz9 := fun b j q => (hF.1 b j (by omega) (by omega)).trans (hRD.1.1 b j (by omega))
            refine z_aload_nr dX7_between_46 rfl ?_
            refine z_getr (b := 20) fl_X7_33 rfl (by decide) rf_0_3 rfl dX7_between_47 ?_
            refine z_iload_n dX7_between_50 rfl ?_
            refine z_callVip (n2 := 93) (A_X1_isReached l g Mz9 b (by omega)) cb_X1_isReached cl_X7_227 (clr0 rfl rfl (by decide) (by decide)) rfl (by decide) ⟨_, rfl, rfl⟩ rfl (by decide) rfl (Nat.le_of_ble_eq_true rfl) rfl dX7_between_51 (fun x10 bx10 hx10 => ?_)
            have i10 := if10 hx10
            refine z_if_eq (tgt := 69) dX7_between_54 (by decide) (fun c11 => ?_) (fun c11 => ?_)
            · refine z_ldc (c := -1000006) cn_X7_230 ⟨by decide, by decide⟩ dX7_between_69 ?_
              refine z_iret rfl (by decide) rfl (Nat.sub_self _) dX7_between_71 ?_
              refine ⟨hofx, ?_⟩
              rw [if_neg (by omega), if_neg (by omega)]
              rcases hend with q | q
              · first
                | exact Or.inr (Or.inl ⟨hfe, q.2, rfl⟩)
                | (exfalso; omega)
              · first
                | (exfalso; omega)
                | (refine Or.inr (Or.inr ⟨hfe, Or.inl ⟨rfl, ?_⟩⟩)
                   have e : (-1000006) = Mz9 28 b := by omega
                   rw [e]; exact q.2.1)
                | (refine Or.inr (Or.inr ⟨hfe, Or.inr ⟨rfl, ?_⟩⟩)
                   have e : (-1000006) = -(Mz9 28 b) := by omega
                   rw [e, Int.neg_neg]; exact q.2.1)
            · have hend2 := hend.resolve_left (fun q => by omega)
              refine z_aload_nr dX7_between_57 rfl ?_
              refine z_getr (b := 20) fl_X7_33 rfl (by decide) rf_0_3 rfl dX7_between_58 ?_
              refine z_iload_n dX7_between_61 rfl ?_
              refine z_iload_n dX7_between_62 rfl ?_
              refine z_callVip (n2 := 93) (A_X1_bound1 l g Mz9 b (by omega)) cb_X1_bound cl_X7_231 (clr0 rfl rfl (by decide) (by decide)) rfl (by decide) ⟨_, rfl, rfl⟩ rfl (by decide) rfl (Nat.le_of_ble_eq_true rfl) rfl dX7_between_63 (fun x12 bx12 hx12 => ?_)
              refine z_goto (tgt := 71) dX7_between_66 (by decide) ?_
              refine z_iret rfl (by decide) rfl (Nat.sub_self _) dX7_between_71 ?_
              refine ⟨hofx, ?_⟩
              rw [if_neg (by omega), if_neg (by omega)]
              rcases hend with q | q
              · first
                | exact Or.inr (Or.inl ⟨hfe, q.2, rfl⟩)
                | (exfalso; omega)
              · first
                | (exfalso; omega)
                | (refine Or.inr (Or.inr ⟨hfe, Or.inl ⟨rfl, ?_⟩⟩)
                   have e : x12 = Mz9 28 b := by omega
                   rw [e]; exact q.2.1)
                | (refine Or.inr (Or.inr ⟨hfe, Or.inr ⟨rfl, ?_⟩⟩)
                   have e : x12 = -(Mz9 28 b) := by omega
                   rw [e, Int.neg_neg]; exact q.2.1)
          · have hfe : Feas (SolT M 42 (M 1 13) (-1) (-1) (-1) 0) := by rcases hqq with q | q; exact q.2; omega
            refine z_aload_nr dX7_between_37 rfl ?_
            refine z_getr (b := 20) fl_X7_33 rfl (by decide) rf_0_3 rfl dX7_between_38 ?_
            refine z_iload_n dX7_between_41 rfl ?_
            refine z_iload_n dX7_between_42 rfl ?_
            refine z_callVv (n2 := 93) (A_X1_reach0 l g Mz7 a (by omega) (hRD.2.1) (feas0 hRD hfe)) cb_X1_reach cl_X7_223 (clr0 rfl rfl (by decide) (by decide)) rfl (by decide) ⟨_, rfl, rfl⟩ rfl (by decide) rfl (Nat.le_of_ble_eq_true rfl) rfl dX7_between_43 (fun Mz13 kMz13 hc13 => ?_)
            have hF := hc13
            have hend := by first | exact RF_end hRD hfe (by omega) hF (v := b) (by omega) | exact RF_end0 hRD hfe (by omega) hF (v := b) (by omega)
            have hofx : OffX M Mz13 := fun b j q => (hF.1 b j (by omega) (by omega)).trans (hRD.1.1 b j (by omega))
            refine z_aload_nr dX7_between_46 rfl ?_
            refine z_getr (b := 20) fl_X7_33 rfl (by decide) rf_0_3 rfl dX7_between_47 ?_
            refine z_iload_n dX7_between_50 rfl ?_
            refine z_callVip (n2 := 93) (A_X1_isReached l g Mz13 b (by omega)) cb_X1_isReached cl_X7_227 (clr0 rfl rfl (by decide) (by decide)) rfl (by decide) ⟨_, rfl, rfl⟩ rfl (by decide) rfl (Nat.le_of_ble_eq_true rfl) rfl dX7_between_51 (fun x14 bx14 hx14 => ?_)
            have i14 := if10 hx14
            refine z_if_eq (tgt := 69) dX7_between_54 (by decide) (fun c15 => ?_) (fun c15 => ?_)
            · refine z_ldc (c := -1000006) cn_X7_230 ⟨by decide, by decide⟩ dX7_between_69 ?_
              refine z_iret rfl (by decide) rfl (Nat.sub_self _) dX7_between_71 ?_
              refine ⟨hofx, ?_⟩
              rw [if_neg (by omega), if_neg (by omega)]
              rcases hend with q | q
              · first
                | exact Or.inr (Or.inl ⟨hfe, q.2, rfl⟩)
                | (exfalso; omega)
              · first
                | (exfalso; omega)
                | (refine Or.inr (Or.inr ⟨hfe, Or.inl ⟨rfl, ?_⟩⟩)
                   have e : (-1000006) = Mz13 28 b := by omega
                   rw [e]; exact q.2.1)
                | (refine Or.inr (Or.inr ⟨hfe, Or.inr ⟨rfl, ?_⟩⟩)
                   have e : (-1000006) = -(Mz13 28 b) := by omega
                   rw [e, Int.neg_neg]; exact q.2.1)
            · have hend2 := hend.resolve_left (fun q => by omega)
              refine z_aload_nr dX7_between_57 rfl ?_
              refine z_getr (b := 20) fl_X7_33 rfl (by decide) rf_0_3 rfl dX7_between_58 ?_
              refine z_iload_n dX7_between_61 rfl ?_
              refine z_iload_n dX7_between_62 rfl ?_
              refine z_callVip (n2 := 93) (A_X1_bound0 l g Mz13 b (by omega) (by omega)) cb_X1_bound cl_X7_231 (clr0 rfl rfl (by decide) (by decide)) rfl (by decide) ⟨_, rfl, rfl⟩ rfl (by decide) rfl (Nat.le_of_ble_eq_true rfl) rfl dX7_between_63 (fun x16 bx16 hx16 => ?_)
              refine z_goto (tgt := 71) dX7_between_66 (by decide) ?_
              refine z_iret rfl (by decide) rfl (Nat.sub_self _) dX7_between_71 ?_
              refine ⟨hofx, ?_⟩
              rw [if_neg (by omega), if_neg (by omega)]
              rcases hend with q | q
              · first
                | exact Or.inr (Or.inl ⟨hfe, q.2, rfl⟩)
                | (exfalso; omega)
              · first
                | (exfalso; omega)
                | (refine Or.inr (Or.inr ⟨hfe, Or.inl ⟨rfl, ?_⟩⟩)
                   have e : x16 = Mz13 28 b := by omega
                   rw [e]; exact q.2.1)
                | (refine Or.inr (Or.inr ⟨hfe, Or.inr ⟨rfl, ?_⟩⟩)
                   have e : x16 = -(Mz13 28 b) := by omega
                   rw [e, Int.neg_neg]; exact q.2.1)
        · refine z_ldc (c := -1000005) cn_X7_222 ⟨by decide, by decide⟩ dX7_between_34 ?_
          refine z_iret rfl (by decide) rfl (Nat.sub_self _) dX7_between_36 ?_
          refine ⟨fun b j q => hRD.1.1 b j (by omega), ?_⟩
          rw [if_neg (by omega), if_neg (by omega)]
          refine Or.inl ⟨?_, rfl⟩
          rcases hqq with q | q
          · omega
          · exact q.2
      · refine z_ldc (c := -1000002) cn_X7_87 ⟨by decide, by decide⟩ dX7_between_24 ?_
        refine z_iret rfl (by decide) rfl (Nat.sub_self _) dX7_between_26 ?_
        refine ⟨OffX_rfl M, ?_⟩
        rw [if_neg (by omega), if_pos (by omega)]
    · refine z_ldc (c := -1000001) cn_X7_82 ⟨by decide, by decide⟩ dX7_between_14 ?_
      refine z_iret rfl (by decide) rfl (Nat.sub_self _) dX7_between_16 ?_
      refine ⟨OffX_rfl M, ?_⟩
      rw [if_pos (by omega)]
set_option maxHeartbeats 400000 in
theorem A_X7_quarrelsNow51 (l : Launch) (g : Cx) (M : FMem) (hT : XT M 51) : AMi l g true fi_X7_quarrelsNow [fr 0] 93 M (fun q M2 => (RD M 51 (M 1 13) (-1) (-1) (-1) M2 ∧ TR (-1) (-1) (-1) M2) ∧ ((q = 0 ∧ Feas (SolT M 51 (M 1 13) (-1) (-1) (-1) 0)) ∨ (q = 1 ∧ ¬ Feas (SolT M 51 (M 1 13) (-1) (-1) (-1) 0)))) := by
  refine AMi_intro [fr 0] (by decide) (knall rfl) (Nat.le_of_ble_eq_true rfl) rfl ?_
  intro hNV hM0 μ
  refine z_aload_nr dX7_quarrelsNow_0 rfl ?_
  refine z_iconst dX7_quarrelsNow_1 ⟨by decide, by decide⟩ ?_
  refine z_callVv (n2 := 93) (A_X7_load51 l g M (-1) (hT) (Or.inl rfl)) cb_X7_load cl_X7_216 (clr0 rfl rfl (by decide) (by decide)) rfl (by decide) ⟨_, rfl, rfl⟩ rfl (by decide) rfl (Nat.le_of_ble_eq_true rfl) rfl dX7_quarrelsNow_2 (fun Mz1 kMz1 hc1 => ?_)
  simp only [if_true] at hc1
  have hRD := RD_load hT.1.2 hc1
  have hTR : TR (-1) (-1) (-1) Mz1 := by obtain ⟨M1, q, -⟩ := hc1.2; exact TR_lo q
  refine z_aload_nr dX7_quarrelsNow_5 rfl ?_
  refine z_getr (b := 20) fl_X7_33 rfl (by decide) rf_0_3 rfl dX7_quarrelsNow_6 ?_
  refine z_callVi (n2 := 93) (A_X1_quarrels l g Mz1 (hRD.2.1)) cb_X1_quarrels cl_X7_219 (clr0 rfl rfl (by decide) (by decide)) rfl (by decide) ⟨_, rfl, rfl⟩ rfl (by decide) rfl (Nat.le_of_ble_eq_true rfl) rfl dX7_quarrelsNow_9 (fun x2 Mz2 bx2 kMz2 hc2 => ?_)
  have hc1 := hc2
  have hqq := quar hRD hc2.2
  refine z_zret rfl (by omega) (by decide) rfl (Nat.sub_self _) dX7_quarrelsNow_12 ?_
  exact ⟨⟨RD_way hRD hc1.1, TR_off hTR (fun b j q => hc1.1 b j (by omega) (by omega))⟩, hqq⟩
set_option maxHeartbeats 400000 in
theorem A_X7_ends51 (l : Launch) (g : Cx) (M : FMem) (home k what : Int) (hT : XT M 51) (hid : -999 ≤ M 0 8 ∧ M 0 8 ≤ 999) : AMi l g true fi_X7_ends [fr 0, fi home, fi k, fi what] 93 M (fun q M2 => OffX M M2 ∧ PEnds (M 1 13) (fun kw => SolT M 51 kw (-1) (-1) (-1) 0) home k what (if M 0 10 = 1 then M 0 8 else 0) q) := by
  refine AMi_intro [fr 0, fi home, fi k, fi what] (by decide) (knall rfl) (Nat.le_of_ble_eq_true rfl) rfl ?_
  intro hNV hM0 μ
  have bhome : N32 home := hNV (fi home) (by simp)
  have bk : N32 k := hNV (fi k) (by simp)
  have bwhat : N32 what := hNV (fi what) (by simp)
  have hts := hT.1
  unfold PEnds
  refine z_iload_n dX7_ends_0 rfl ?_
  refine z_callSip (n2 := 93) (A_X7_isHome l g M home) cb_X7_isHome cl_X7_79 (clr0 rfl rfl (by decide) (by decide)) rfl (by decide) rfl (Nat.le_of_ble_eq_true rfl) rfl dX7_ends_1 (fun x1 bx1 hx1 => ?_)
  have i1 := if01 hx1
  refine z_if_ne (tgt := 10) dX7_ends_4 (by decide) (fun c2 => ?_) (fun c2 => ?_)
  · refine z_aload_nr dX7_ends_10 rfl ?_
    refine z_iload_n dX7_ends_11 rfl ?_
    refine z_callVip (n2 := 93) (A_X7_isKnownBy l g M k) cb_X7_isKnownBy cl_X7_210 (clr0 rfl rfl (by decide) (by decide)) rfl (by decide) ⟨_, rfl, rfl⟩ rfl (by decide) rfl (Nat.le_of_ble_eq_true rfl) rfl dX7_ends_12 (fun x3 bx3 hx3 => ?_)
    have i3 := if01 hx3
    refine z_if_eq (tgt := 25) dX7_ends_15 (by decide) (fun c4 => ?_) (fun c4 => ?_)
    · refine z_ldc (c := -1000002) cn_X7_87 ⟨by decide, by decide⟩ dX7_ends_25 ?_
      refine z_iret rfl (by decide) rfl (Nat.sub_self _) dX7_ends_27 ?_
      refine ⟨OffX_rfl M, ?_⟩
      rw [if_neg (by omega), if_pos (by omega)]
    · refine z_iload_n dX7_ends_18 rfl ?_
      refine z_callSip (n2 := 93) (A_X7_isEnd l g M what) cb_X7_isEnd cl_X7_213 (clr0 rfl rfl (by decide) (by decide)) rfl (by decide) rfl (Nat.le_of_ble_eq_true rfl) rfl dX7_ends_19 (fun x5 bx5 hx5 => ?_)
      have i5 := if01 hx5
      refine z_if_ne (tgt := 28) dX7_ends_22 (by decide) (fun c6 => ?_) (fun c6 => ?_)
      · refine z_aload_nr dX7_ends_28 rfl ?_
        refine z_iload_n dX7_ends_29 rfl ?_
        refine z_callVv (n2 := 93) (A_X7_load51 l g M k (hT) (by omega)) cb_X7_load cl_X7_216 (clr0 rfl rfl (by decide) (by decide)) rfl (by decide) ⟨_, rfl, rfl⟩ rfl (by decide) rfl (Nat.le_of_ble_eq_true rfl) rfl dX7_ends_30 (fun Mz7 kMz7 hc7 => ?_)
        have hkb : (if k = -1 then M 1 13 else k) ≤ 80 := by split <;> omega
        have hRD := RD_load hkb hc7
        refine z_aload_nr dX7_ends_33 rfl ?_
        refine z_getr (b := 20) fl_X7_33 rfl (by decide) rf_0_3 rfl dX7_ends_34 ?_
        refine z_callVi (n2 := 93) (A_X1_quarrels l g Mz7 (hRD.2.1)) cb_X1_quarrels cl_X7_219 (clr0 rfl rfl (by decide) (by decide)) rfl (by decide) ⟨_, rfl, rfl⟩ rfl (by decide) rfl (Nat.le_of_ble_eq_true rfl) rfl dX7_ends_37 (fun x8 Mz8 bx8 kMz8 hc8 => ?_)
        have hRD2 := RD_way hRD hc8.1
        have hqq := quar hRD hc8.2
        refine z_if_eq (tgt := 46) dX7_ends_40 (by decide) (fun c9 => ?_) (fun c9 => ?_)
        · have hfe : Feas (SolT M 51 (if k = -1 then M 1 13 else k) (-1) (-1) (-1) 0) := by rcases hqq with q | q; exact q.2; omega
          rcases (show what = 1 ∨ what = 0 by omega) with rfl | rfl
          · have hfe : Feas (SolT M 51 (if k = -1 then M 1 13 else k) (-1) (-1) (-1) 0) := by rcases hqq with q | q; exact q.2; omega
            refine z_aload_nr dX7_ends_46 rfl ?_
            refine z_getr (b := 20) fl_X7_33 rfl (by decide) rf_0_3 rfl dX7_ends_47 ?_
            refine z_bipush dX7_ends_50 ⟨by decide, by decide⟩ (by decide) ?_
            refine z_iload_n dX7_ends_52 rfl ?_
            refine z_callVv (n2 := 93) (A_X1_reach1 l g Mz8 16 (by omega) (hRD2.2.1) (feas1 hRD2 hfe)) cb_X1_reach cl_X7_223 (clr0 rfl rfl (by decide) (by decide)) rfl (by decide) ⟨_, rfl, rfl⟩ rfl (by decide) rfl (Nat.le_of_ble_eq_true rfl) rfl dX7_ends_53 (fun Mz10 kMz10 hc10 => ?_)
            have hF := hc10
            have hend := by first | exact RF_end hRD2 hfe (by omega) hF (v := home) (by omega) | exact RF_end0 hRD2 hfe (by omega) hF (v := home) (by omega)
            have hz8 : Mz10 0 8 = M 0 8 := (hF.1 _ _ (by decide) (by decide)).trans (hRD2.1.1 _ _ (by omega))
            have hz10 : Mz10 0 10 = M 0 10 := (hF.1 _ _ (by decide) (by decide)).trans (hRD2.1.1 _ _ (by omega))
            have hofx : OffX M Mz10 := fun b j q => (hF.1 b j (by omega) (by omega)).trans (hRD2.1.1 b j (by omega))
            refine z_aload_nr dX7_ends_56 rfl ?_
            refine z_getr (b := 20) fl_X7_33 rfl (by decide) rf_0_3 rfl dX7_ends_57 ?_
            refine z_iload_n dX7_ends_60 rfl ?_
            refine z_callVip (n2 := 93) (A_X1_isReached l g Mz10 home (by omega)) cb_X1_isReached cl_X7_227 (clr0 rfl rfl (by decide) (by decide)) rfl (by decide) ⟨_, rfl, rfl⟩ rfl (by decide) rfl (Nat.le_of_ble_eq_true rfl) rfl dX7_ends_61 (fun x11 bx11 hx11 => ?_)
            have i11 := if10 hx11
            refine z_if_ne (tgt := 70) dX7_ends_64 (by decide) (fun c12 => ?_) (fun c12 => ?_)
            · have hend2 := hend.resolve_left (fun q => by omega)
              refine z_aload_nr dX7_ends_70 rfl ?_
              refine z_getr (b := 20) fl_X7_33 rfl (by decide) rf_0_3 rfl dX7_ends_71 ?_
              refine z_iload_n dX7_ends_74 rfl ?_
              refine z_iload_n dX7_ends_75 rfl ?_
              refine z_callVip (n2 := 93) (A_X1_bound1 l g Mz10 home (by omega)) cb_X1_bound cl_X7_231 (clr0 rfl rfl (by decide) (by decide)) rfl (by decide) ⟨_, rfl, rfl⟩ rfl (by decide) rfl (Nat.le_of_ble_eq_true rfl) rfl dX7_ends_76 (fun x13 bx13 hx13 => ?_)
              refine z_aload_nr dX7_ends_79 rfl ?_
              refine z_getz (kz := 10) fl_X7_69 rfl (by decide) rfl dX7_ends_80 (fun x14 hx14 bx14 => ?_)
              refine z_if_eq (tgt := 93) dX7_ends_83 (by decide) (fun c15 => ?_) (fun c15 => ?_)
              · refine z_iconst dX7_ends_93 ⟨by decide, by decide⟩ ?_
                first | refine z_iaddN dX7_ends_94 (by omega) (fun x16 hx16 => ?_) | refine z_iadd dX7_ends_94 (fun x16 hx16 => ?_)
                refine z_iret rfl (by decide) rfl (Nat.sub_self _) dX7_ends_95 ?_
                refine ⟨hofx, ?_⟩
                rw [if_neg (by omega), if_neg (by omega)]
                first
                | (refine Or.inr (Or.inr ⟨hfe, _, Or.inl ⟨rfl, hend2.2.1⟩, ?_⟩); first | (rw [if_pos (by omega)]; omega) | (rw [if_neg (by omega)]; omega))
                | (refine Or.inr (Or.inr ⟨hfe, -(Mz10 28 home), Or.inr ⟨rfl, by rw [Int.neg_neg]; exact hend2.2.1⟩, ?_⟩); first | (rw [if_pos (by omega)]; omega) | (rw [if_neg (by omega)]; omega))
              · refine z_aload_nr dX7_ends_86 rfl ?_
                refine z_geti (kz := 8) fl_X7_61 rfl (by decide) rfl dX7_ends_87 (fun x17 hx17 bx17 => ?_)
                refine z_goto (tgt := 94) dX7_ends_90 (by decide) ?_
                first | refine z_iaddN dX7_ends_94 (by omega) (fun x18 hx18 => ?_) | refine z_iadd dX7_ends_94 (fun x18 hx18 => ?_)
                refine z_iret rfl (by decide) rfl (Nat.sub_self _) dX7_ends_95 ?_
                refine ⟨hofx, ?_⟩
                rw [if_neg (by omega), if_neg (by omega)]
                first
                | (refine Or.inr (Or.inr ⟨hfe, _, Or.inl ⟨rfl, hend2.2.1⟩, ?_⟩); first | (rw [if_pos (by omega)]; omega) | (rw [if_neg (by omega)]; omega))
                | (refine Or.inr (Or.inr ⟨hfe, -(Mz10 28 home), Or.inr ⟨rfl, by rw [Int.neg_neg]; exact hend2.2.1⟩, ?_⟩); first | (rw [if_pos (by omega)]; omega) | (rw [if_neg (by omega)]; omega))
            · refine z_ldc (c := -1000006) cn_X7_230 ⟨by decide, by decide⟩ dX7_ends_67 ?_
              refine z_iret rfl (by decide) rfl (Nat.sub_self _) dX7_ends_69 ?_
              refine ⟨hofx, ?_⟩
              rw [if_neg (by omega), if_neg (by omega)]
              refine Or.inr (Or.inl ⟨hfe, ?_, rfl⟩)
              rcases hend with q | q
              · exact q.2
              · omega
          · have hfe : Feas (SolT M 51 (if k = -1 then M 1 13 else k) (-1) (-1) (-1) 0) := by rcases hqq with q | q; exact q.2; omega
            refine z_aload_nr dX7_ends_46 rfl ?_
            refine z_getr (b := 20) fl_X7_33 rfl (by decide) rf_0_3 rfl dX7_ends_47 ?_
            refine z_bipush dX7_ends_50 ⟨by decide, by decide⟩ (by decide) ?_
            refine z_iload_n dX7_ends_52 rfl ?_
            refine z_callVv (n2 := 93) (A_X1_reach0 l g Mz8 16 (by omega) (hRD2.2.1) (feas0 hRD2 hfe)) cb_X1_reach cl_X7_223 (clr0 rfl rfl (by decide) (by decide)) rfl (by decide) ⟨_, rfl, rfl⟩ rfl (by decide) rfl (Nat.le_of_ble_eq_true rfl) rfl dX7_ends_53 (fun Mz19 kMz19 hc19 => ?_)
            have hF := hc19
            have hend := by first | exact RF_end hRD2 hfe (by omega) hF (v := home) (by omega) | exact RF_end0 hRD2 hfe (by omega) hF (v := home) (by omega)
            have hz8 : Mz19 0 8 = M 0 8 := (hF.1 _ _ (by decide) (by decide)).trans (hRD2.1.1 _ _ (by omega))
            have hz10 : Mz19 0 10 = M 0 10 := (hF.1 _ _ (by decide) (by decide)).trans (hRD2.1.1 _ _ (by omega))
            have hofx : OffX M Mz19 := fun b j q => (hF.1 b j (by omega) (by omega)).trans (hRD2.1.1 b j (by omega))
            refine z_aload_nr dX7_ends_56 rfl ?_
            refine z_getr (b := 20) fl_X7_33 rfl (by decide) rf_0_3 rfl dX7_ends_57 ?_
            refine z_iload_n dX7_ends_60 rfl ?_
            refine z_callVip (n2 := 93) (A_X1_isReached l g Mz19 home (by omega)) cb_X1_isReached cl_X7_227 (clr0 rfl rfl (by decide) (by decide)) rfl (by decide) ⟨_, rfl, rfl⟩ rfl (by decide) rfl (Nat.le_of_ble_eq_true rfl) rfl dX7_ends_61 (fun x20 bx20 hx20 => ?_)
            have i20 := if10 hx20
            refine z_if_ne (tgt := 70) dX7_ends_64 (by decide) (fun c21 => ?_) (fun c21 => ?_)
            · have hend2 := hend.resolve_left (fun q => by omega)
              refine z_aload_nr dX7_ends_70 rfl ?_
              refine z_getr (b := 20) fl_X7_33 rfl (by decide) rf_0_3 rfl dX7_ends_71 ?_
              refine z_iload_n dX7_ends_74 rfl ?_
              refine z_iload_n dX7_ends_75 rfl ?_
              refine z_callVip (n2 := 93) (A_X1_bound0 l g Mz19 home (by omega) (by omega)) cb_X1_bound cl_X7_231 (clr0 rfl rfl (by decide) (by decide)) rfl (by decide) ⟨_, rfl, rfl⟩ rfl (by decide) rfl (Nat.le_of_ble_eq_true rfl) rfl dX7_ends_76 (fun x22 bx22 hx22 => ?_)
              refine z_aload_nr dX7_ends_79 rfl ?_
              refine z_getz (kz := 10) fl_X7_69 rfl (by decide) rfl dX7_ends_80 (fun x23 hx23 bx23 => ?_)
              refine z_if_eq (tgt := 93) dX7_ends_83 (by decide) (fun c24 => ?_) (fun c24 => ?_)
              · refine z_iconst dX7_ends_93 ⟨by decide, by decide⟩ ?_
                first | refine z_iaddN dX7_ends_94 (by omega) (fun x25 hx25 => ?_) | refine z_iadd dX7_ends_94 (fun x25 hx25 => ?_)
                refine z_iret rfl (by decide) rfl (Nat.sub_self _) dX7_ends_95 ?_
                refine ⟨hofx, ?_⟩
                rw [if_neg (by omega), if_neg (by omega)]
                first
                | (refine Or.inr (Or.inr ⟨hfe, _, Or.inl ⟨rfl, hend2.2.1⟩, ?_⟩); first | (rw [if_pos (by omega)]; omega) | (rw [if_neg (by omega)]; omega))
                | (refine Or.inr (Or.inr ⟨hfe, -(Mz19 28 home), Or.inr ⟨rfl, by rw [Int.neg_neg]; exact hend2.2.1⟩, ?_⟩); first | (rw [if_pos (by omega)]; omega) | (rw [if_neg (by omega)]; omega))
              · refine z_aload_nr dX7_ends_86 rfl ?_
                refine z_geti (kz := 8) fl_X7_61 rfl (by decide) rfl dX7_ends_87 (fun x26 hx26 bx26 => ?_)
                refine z_goto (tgt := 94) dX7_ends_90 (by decide) ?_
                first | refine z_iaddN dX7_ends_94 (by omega) (fun x27 hx27 => ?_) | refine z_iadd dX7_ends_94 (fun x27 hx27 => ?_)
                refine z_iret rfl (by decide) rfl (Nat.sub_self _) dX7_ends_95 ?_
                refine ⟨hofx, ?_⟩
                rw [if_neg (by omega), if_neg (by omega)]
                first
                | (refine Or.inr (Or.inr ⟨hfe, _, Or.inl ⟨rfl, hend2.2.1⟩, ?_⟩); first | (rw [if_pos (by omega)]; omega) | (rw [if_neg (by omega)]; omega))
                | (refine Or.inr (Or.inr ⟨hfe, -(Mz19 28 home), Or.inr ⟨rfl, by rw [Int.neg_neg]; exact hend2.2.1⟩, ?_⟩); first | (rw [if_pos (by omega)]; omega) | (rw [if_neg (by omega)]; omega))
            · refine z_ldc (c := -1000006) cn_X7_230 ⟨by decide, by decide⟩ dX7_ends_67 ?_
              refine z_iret rfl (by decide) rfl (Nat.sub_self _) dX7_ends_69 ?_
              refine ⟨hofx, ?_⟩
              rw [if_neg (by omega), if_neg (by omega)]
              refine Or.inr (Or.inl ⟨hfe, ?_, rfl⟩)
              rcases hend with q | q
              · exact q.2
              · omega
        · refine z_ldc (c := -1000005) cn_X7_222 ⟨by decide, by decide⟩ dX7_ends_43 ?_
          refine z_iret rfl (by decide) rfl (Nat.sub_self _) dX7_ends_45 ?_
          refine ⟨fun b j q => hRD2.1.1 b j (by omega), ?_⟩
          rw [if_neg (by omega), if_neg (by omega)]
          refine Or.inl ⟨?_, rfl⟩
          rcases hqq with q | q
          · omega
          · exact q.2
      · refine z_ldc (c := -1000002) cn_X7_87 ⟨by decide, by decide⟩ dX7_ends_25 ?_
        refine z_iret rfl (by decide) rfl (Nat.sub_self _) dX7_ends_27 ?_
        refine ⟨OffX_rfl M, ?_⟩
        rw [if_neg (by omega), if_pos (by omega)]
  · refine z_ldc (c := -1000001) cn_X7_82 ⟨by decide, by decide⟩ dX7_ends_7 ?_
    refine z_iret rfl (by decide) rfl (Nat.sub_self _) dX7_ends_9 ?_
    refine ⟨OffX_rfl M, ?_⟩
    rw [if_pos (by omega)]
set_option maxHeartbeats 400000 in
theorem A_X7_between51 (l : Launch) (g : Cx) (M : FMem) (a b what : Int) (hT : XT M 51) : AMi l g true fi_X7_between [fr 0, fi a, fi b, fi what] 93 M (fun q M2 => OffX M M2 ∧ PBetw (SolT M 51 (M 1 13) (-1) (-1) (-1) 0) a b what q) := by
  refine AMi_intro [fr 0, fi a, fi b, fi what] (by decide) (knall rfl) (Nat.le_of_ble_eq_true rfl) rfl ?_
  intro hNV hM0 μ
  have ba : N32 a := hNV (fi a) (by simp)
  have bb : N32 b := hNV (fi b) (by simp)
  have bwhat : N32 what := hNV (fi what) (by simp)
  have hts := hT.1
  unfold PBetw
  refine z_iload_n dX7_between_0 rfl ?_
  refine z_callSip (n2 := 93) (A_X7_isHome l g M a) cb_X7_isHome cl_X7_79 (clr0 rfl rfl (by decide) (by decide)) rfl (by decide) rfl (Nat.le_of_ble_eq_true rfl) rfl dX7_between_1 (fun x1 bx1 hx1 => ?_)
  have i1 := if01 hx1
  refine z_if_eq (tgt := 14) dX7_between_4 (by decide) (fun c2 => ?_) (fun c2 => ?_)
  · refine z_ldc (c := -1000001) cn_X7_82 ⟨by decide, by decide⟩ dX7_between_14 ?_
    refine z_iret rfl (by decide) rfl (Nat.sub_self _) dX7_between_16 ?_
    refine ⟨OffX_rfl M, ?_⟩
    rw [if_pos (by omega)]
  · refine z_iload_n dX7_between_7 rfl ?_
    refine z_callSip (n2 := 93) (A_X7_isHome l g M b) cb_X7_isHome cl_X7_79 (clr0 rfl rfl (by decide) (by decide)) rfl (by decide) rfl (Nat.le_of_ble_eq_true rfl) rfl dX7_between_8 (fun x3 bx3 hx3 => ?_)
    have i3 := if01 hx3
    refine z_if_ne (tgt := 17) dX7_between_11 (by decide) (fun c4 => ?_) (fun c4 => ?_)
    · refine z_iload_n dX7_between_17 rfl ?_
      refine z_callSip (n2 := 93) (A_X7_isEnd l g M what) cb_X7_isEnd cl_X7_213 (clr0 rfl rfl (by decide) (by decide)) rfl (by decide) rfl (Nat.le_of_ble_eq_true rfl) rfl dX7_between_18 (fun x5 bx5 hx5 => ?_)
      have i5 := if01 hx5
      refine z_if_ne (tgt := 27) dX7_between_21 (by decide) (fun c6 => ?_) (fun c6 => ?_)
      · refine z_aload_nr dX7_between_27 rfl ?_
        refine z_callVi (n2 := 93) (A_X7_quarrelsNow51 l g M (hT)) cb_X7_quarrelsNow cl_X7_235 (clr0 rfl rfl (by decide) (by decide)) rfl (by decide) ⟨_, rfl, rfl⟩ rfl (by decide) rfl (Nat.le_of_ble_eq_true rfl) rfl dX7_between_28 (fun x7 Mz7 bx7 kMz7 hc7 => ?_)
        have hRD := hc7.1.1
        have hTR := hc7.1.2
        have hqq := hc7.2
        refine z_if_eq (tgt := 37) dX7_between_31 (by decide) (fun c8 => ?_) (fun c8 => ?_)
        · have hfe : Feas (SolT M 51 (M 1 13) (-1) (-1) (-1) 0) := by rcases hqq with q | q; exact q.2; omega
          rcases (show what = 1 ∨ what = 0 by omega) with rfl | rfl
          · have hfe : Feas (SolT M 51 (M 1 13) (-1) (-1) (-1) 0) := by rcases hqq with q | q; exact q.2; omega
            refine z_aload_nr dX7_between_37 rfl ?_
            refine z_getr (b := 20) fl_X7_33 rfl (by decide) rf_0_3 rfl dX7_between_38 ?_
            refine z_iload_n dX7_between_41 rfl ?_
            refine z_iload_n dX7_between_42 rfl ?_
            refine z_callVv (n2 := 93) (A_X1_reach1 l g Mz7 a (by omega) (hRD.2.1) (feas1 hRD hfe)) cb_X1_reach cl_X7_223 (clr0 rfl rfl (by decide) (by decide)) rfl (by decide) ⟨_, rfl, rfl⟩ rfl (by decide) rfl (Nat.le_of_ble_eq_true rfl) rfl dX7_between_43 (fun Mz9 kMz9 hc9 => ?_)
            have hF := hc9
            have hend := by first | exact RF_end hRD hfe (by omega) hF (v := b) (by omega) | exact RF_end0 hRD hfe (by omega) hF (v := b) (by omega)
            have hofx : OffX M Mz9 := fun b j q => (hF.1 b j (by omega) (by omega)).trans (hRD.1.1 b j (by omega))
            refine z_aload_nr dX7_between_46 rfl ?_
            refine z_getr (b := 20) fl_X7_33 rfl (by decide) rf_0_3 rfl dX7_between_47 ?_
            refine z_iload_n dX7_between_50 rfl ?_
            refine z_callVip (n2 := 93) (A_X1_isReached l g Mz9 b (by omega)) cb_X1_isReached cl_X7_227 (clr0 rfl rfl (by decide) (by decide)) rfl (by decide) ⟨_, rfl, rfl⟩ rfl (by decide) rfl (Nat.le_of_ble_eq_true rfl) rfl dX7_between_51 (fun x10 bx10 hx10 => ?_)
            have i10 := if10 hx10
            refine z_if_eq (tgt := 69) dX7_between_54 (by decide) (fun c11 => ?_) (fun c11 => ?_)
            · refine z_ldc (c := -1000006) cn_X7_230 ⟨by decide, by decide⟩ dX7_between_69 ?_
              refine z_iret rfl (by decide) rfl (Nat.sub_self _) dX7_between_71 ?_
              refine ⟨hofx, ?_⟩
              rw [if_neg (by omega), if_neg (by omega)]
              rcases hend with q | q
              · first
                | exact Or.inr (Or.inl ⟨hfe, q.2, rfl⟩)
                | (exfalso; omega)
              · first
                | (exfalso; omega)
                | (refine Or.inr (Or.inr ⟨hfe, Or.inl ⟨rfl, ?_⟩⟩)
                   have e : (-1000006) = Mz9 28 b := by omega
                   rw [e]; exact q.2.1)
                | (refine Or.inr (Or.inr ⟨hfe, Or.inr ⟨rfl, ?_⟩⟩)
                   have e : (-1000006) = -(Mz9 28 b) := by omega
                   rw [e, Int.neg_neg]; exact q.2.1)
            · have hend2 := hend.resolve_left (fun q => by omega)
              refine z_aload_nr dX7_between_57 rfl ?_
              refine z_getr (b := 20) fl_X7_33 rfl (by decide) rf_0_3 rfl dX7_between_58 ?_
              refine z_iload_n dX7_between_61 rfl ?_
              refine z_iload_n dX7_between_62 rfl ?_
              refine z_callVip (n2 := 93) (A_X1_bound1 l g Mz9 b (by omega)) cb_X1_bound cl_X7_231 (clr0 rfl rfl (by decide) (by decide)) rfl (by decide) ⟨_, rfl, rfl⟩ rfl (by decide) rfl (Nat.le_of_ble_eq_true rfl) rfl dX7_between_63 (fun x12 bx12 hx12 => ?_)
              refine z_goto (tgt := 71) dX7_between_66 (by decide) ?_
              refine z_iret rfl (by decide) rfl (Nat.sub_self _) dX7_between_71 ?_
              refine ⟨hofx, ?_⟩
              rw [if_neg (by omega), if_neg (by omega)]
              rcases hend with q | q
              · first
                | exact Or.inr (Or.inl ⟨hfe, q.2, rfl⟩)
                | (exfalso; omega)
              · first
                | (exfalso; omega)
                | (refine Or.inr (Or.inr ⟨hfe, Or.inl ⟨rfl, ?_⟩⟩)
                   have e : x12 = Mz9 28 b := by omega
                   rw [e]; exact q.2.1)
                | (refine Or.inr (Or.inr ⟨hfe, Or.inr ⟨rfl, ?_⟩⟩)
                   have e : x12 = -(Mz9 28 b) := by omega
                   rw [e, Int.neg_neg]; exact q.2.1)
          · have hfe : Feas (SolT M 51 (M 1 13) (-1) (-1) (-1) 0) := by rcases hqq with q | q; exact q.2; omega
            refine z_aload_nr dX7_between_37 rfl ?_
            refine z_getr (b := 20) fl_X7_33 rfl (by decide) rf_0_3 rfl dX7_between_38 ?_
            refine z_iload_n dX7_between_41 rfl ?_
            refine z_iload_n dX7_between_42 rfl ?_
            refine z_callVv (n2 := 93) (A_X1_reach0 l g Mz7 a (by omega) (hRD.2.1) (feas0 hRD hfe)) cb_X1_reach cl_X7_223 (clr0 rfl rfl (by decide) (by decide)) rfl (by decide) ⟨_, rfl, rfl⟩ rfl (by decide) rfl (Nat.le_of_ble_eq_true rfl) rfl dX7_between_43 (fun Mz13 kMz13 hc13 => ?_)
            have hF := hc13
            have hend := by first | exact RF_end hRD hfe (by omega) hF (v := b) (by omega) | exact RF_end0 hRD hfe (by omega) hF (v := b) (by omega)
            have hofx : OffX M Mz13 := fun b j q => (hF.1 b j (by omega) (by omega)).trans (hRD.1.1 b j (by omega))
            refine z_aload_nr dX7_between_46 rfl ?_
            refine z_getr (b := 20) fl_X7_33 rfl (by decide) rf_0_3 rfl dX7_between_47 ?_
            refine z_iload_n dX7_between_50 rfl ?_
            refine z_callVip (n2 := 93) (A_X1_isReached l g Mz13 b (by omega)) cb_X1_isReached cl_X7_227 (clr0 rfl rfl (by decide) (by decide)) rfl (by decide) ⟨_, rfl, rfl⟩ rfl (by decide) rfl (Nat.le_of_ble_eq_true rfl) rfl dX7_between_51 (fun x14 bx14 hx14 => ?_)
            have i14 := if10 hx14
            refine z_if_eq (tgt := 69) dX7_between_54 (by decide) (fun c15 => ?_) (fun c15 => ?_)
            · refine z_ldc (c := -1000006) cn_X7_230 ⟨by decide, by decide⟩ dX7_between_69 ?_
              refine z_iret rfl (by decide) rfl (Nat.sub_self _) dX7_between_71 ?_
              refine ⟨hofx, ?_⟩
              rw [if_neg (by omega), if_neg (by omega)]
              rcases hend with q | q
              · first
                | exact Or.inr (Or.inl ⟨hfe, q.2, rfl⟩)
                | (exfalso; omega)
              · first
                | (exfalso; omega)
                | (refine Or.inr (Or.inr ⟨hfe, Or.inl ⟨rfl, ?_⟩⟩)
                   have e : (-1000006) = Mz13 28 b := by omega
                   rw [e]; exact q.2.1)
                | (refine Or.inr (Or.inr ⟨hfe, Or.inr ⟨rfl, ?_⟩⟩)
                   have e : (-1000006) = -(Mz13 28 b) := by omega
                   rw [e, Int.neg_neg]; exact q.2.1)
            · have hend2 := hend.resolve_left (fun q => by omega)
              refine z_aload_nr dX7_between_57 rfl ?_
              refine z_getr (b := 20) fl_X7_33 rfl (by decide) rf_0_3 rfl dX7_between_58 ?_
              refine z_iload_n dX7_between_61 rfl ?_
              refine z_iload_n dX7_between_62 rfl ?_
              refine z_callVip (n2 := 93) (A_X1_bound0 l g Mz13 b (by omega) (by omega)) cb_X1_bound cl_X7_231 (clr0 rfl rfl (by decide) (by decide)) rfl (by decide) ⟨_, rfl, rfl⟩ rfl (by decide) rfl (Nat.le_of_ble_eq_true rfl) rfl dX7_between_63 (fun x16 bx16 hx16 => ?_)
              refine z_goto (tgt := 71) dX7_between_66 (by decide) ?_
              refine z_iret rfl (by decide) rfl (Nat.sub_self _) dX7_between_71 ?_
              refine ⟨hofx, ?_⟩
              rw [if_neg (by omega), if_neg (by omega)]
              rcases hend with q | q
              · first
                | exact Or.inr (Or.inl ⟨hfe, q.2, rfl⟩)
                | (exfalso; omega)
              · first
                | (exfalso; omega)
                | (refine Or.inr (Or.inr ⟨hfe, Or.inl ⟨rfl, ?_⟩⟩)
                   have e : x16 = Mz13 28 b := by omega
                   rw [e]; exact q.2.1)
                | (refine Or.inr (Or.inr ⟨hfe, Or.inr ⟨rfl, ?_⟩⟩)
                   have e : x16 = -(Mz13 28 b) := by omega
                   rw [e, Int.neg_neg]; exact q.2.1)
        · refine z_ldc (c := -1000005) cn_X7_222 ⟨by decide, by decide⟩ dX7_between_34 ?_
          refine z_iret rfl (by decide) rfl (Nat.sub_self _) dX7_between_36 ?_
          refine ⟨fun b j q => hRD.1.1 b j (by omega), ?_⟩
          rw [if_neg (by omega), if_neg (by omega)]
          refine Or.inl ⟨?_, rfl⟩
          rcases hqq with q | q
          · omega
          · exact q.2
      · refine z_ldc (c := -1000002) cn_X7_87 ⟨by decide, by decide⟩ dX7_between_24 ?_
        refine z_iret rfl (by decide) rfl (Nat.sub_self _) dX7_between_26 ?_
        refine ⟨OffX_rfl M, ?_⟩
        rw [if_neg (by omega), if_pos (by omega)]
    · refine z_ldc (c := -1000001) cn_X7_82 ⟨by decide, by decide⟩ dX7_between_14 ?_
      refine z_iret rfl (by decide) rfl (Nat.sub_self _) dX7_between_16 ?_
      refine ⟨OffX_rfl M, ?_⟩
      rw [if_pos (by omega)]
