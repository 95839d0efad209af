/-! ===== loading the net ===== -/
/-- the class's tellings, reddenings and rules (at object r) are in bounds -/
def XT (M : FMem) (r : Nat) : Prop := (0 ≤ M 1 13 ∧ M 1 13 ≤ 80) ∧ (∀ i, 0 ≤ i → i < M 1 13 → TelX M i) ∧ M 0 6 = r ∧ RedX M ∧ RulX M r
def frT (M : FMem) (i : Int) : Int := if M 2 i = 1 then 16 else 10 + M 4 i
def toT (M : FMem) (i : Int) : Int := if M 2 i = 2 then 16 else M 5 i
def inT (M : FMem) (i : Int) : Prop := M 11 i = 0 ∧ M 10 i = 0
theorem TelX_off {M M2 : FMem} (h : ∀ b j, b < 20 ∨ 33 < b → M2 b j = M b j) {i : Int} (hT : TelX M i) : TelX M2 i := by
  unfold TelX at hT ⊢
  simp only [h 2 _ (by omega), h 3 _ (by omega), h 4 _ (by omega), h 5 _ (by omega), h 6 _ (by omega), h 7 _ (by omega), h 8 _ (by omega), h 9 _ (by omega)]
  exact hT
theorem RedX_off {M M2 : FMem} (h : ∀ b j, b < 20 ∨ 33 < b → M2 b j = M b j) (hT : RedX M) : RedX M2 := by
  unfold RedX at hT ⊢
  simp only [h 15 _ (by omega), h 16 _ (by omega)]
  exact hT
theorem RulX_off {M M2 : FMem} (h : ∀ b j, b < 20 ∨ 33 < b → M2 b j = M b j) {r : Nat} (hr : 34 ≤ r) (hT : RulX M r) : RulX M2 r := by
  unfold RulX at hT ⊢
  simp only [h r _ (by omega), h (r + 1) _ (by omega), h (r + 2) _ (by omega), h (r + 3) _ (by omega), h (r + 4) _ (by omega), h (r + 5) _ (by omega), h (r + 6) _ (by omega), h (r + 7) _ (by omega)]
  exact hT
theorem lowX_off {M M2 : FMem} (h : ∀ b j, b < 20 ∨ 33 < b → M2 b j = M b j) {r : Nat} (hr : 34 ≤ r) (i : Int) : lowX M2 r i = lowX M r i ∧ highX M2 r i = highX M r i := by
  unfold lowX highX
  simp only [h r _ (by omega), h (r + 1) _ (by omega), h (r + 2) _ (by omega), h (r + 3) _ (by omega), h (r + 4) _ (by omega), h (r + 5) _ (by omega), h 2 _ (by omega), h 3 _ (by omega), h 4 _ (by omega), h 5 _ (by omega), h 6 _ (by omega), h 7 _ (by omega), h 8 _ (by omega), h 9 _ (by omega), h 15 _ (by omega), h 16 _ (by omega)]
  exact ⟨trivial, trivial⟩
theorem XT_off {M M2 : FMem} (h : ∀ b j, b < 20 ∨ 33 < b → M2 b j = M b j) {r : Nat} (hr : 34 ≤ r) (hT : XT M r) : XT M2 r := by
  obtain ⟨h1, h2, h3, h4, h5⟩ := hT
  refine ⟨by rw [h 1 13 (by omega)]; exact h1, fun i h0 hi => TelX_off h (h2 i h0 (by rw [h 1 13 (by omega)] at hi; exact hi)), by rw [h 0 6 (by omega)]; exact h3, RedX_off h h4, RulX_off h hr h5⟩
/-- what is in the net is in bounds -/
def NI (M : FMem) : Prop := (0 ≤ M 20 8 ∧ M 20 8 ≤ 131072) ∧ ∀ i, 0 ≤ i → i < 80 → M 21 i = 1 → nd (M 23 i) ∧ nd (M 24 i) ∧ M 23 i ≠ M 24 i ∧ -100000 ≤ M 25 i ∧ M 25 i ≤ 100000 ∧ -100000 ≤ M 26 i ∧ M 26 i ≤ 100000
/-- rows that hold for all that is in, less a list and two tellings -/
def SolN (M : FMem) (li one two : Int) (x : Int → Int) : Prop := ∀ i, sel M li one two i → TS M x i
/-- what leaveOut leaves behind -/
def LOp (M : FMem) (li one two : Int) (M2 : FMem) : Prop := (∀ b j, b ≠ 27 → ¬ (b = 20 ∧ j = 7) → M2 b j = M b j) ∧ 0 ≤ M2 20 7 ∧ M2 20 7 ≤ 80 ∧ (∀ k, 0 ≤ k → k < M2 20 7 → sel M li one two (M2 27 k)) ∧ (∀ v, sel M li one two v → ∃ k, 0 ≤ k ∧ k < M2 20 7 ∧ M2 27 k = v)
theorem TS_off {M M2 : FMem} (h : ∀ b j, b ≠ 27 → ¬ (b = 20 ∧ j = 7) → M2 b j = M b j) (x : Int → Int) (i : Int) : TS M2 x i ↔ TS M x i := by
  unfold TS
  rw [h 23 _ (by decide) (by omega), h 24 _ (by decide) (by omega), h 25 _ (by decide) (by omega), h 26 _ (by decide) (by omega), h 20 8 (by decide) (by omega)]
theorem LOp_sat {M M2 : FMem} {li one two : Int} (h : LOp M li one two M2) (x : Int → Int) : Sat (EdX M2 1) x ↔ SolN M li one two x := by
  rw [Sat1]
  constructor
  · intro hs i hi
    obtain ⟨k, k0, k1, e⟩ := h.2.2.2.2 i hi
    rw [← TS_off h.1, ← e]
    exact hs k k0 k1
  · intro hs k k0 k1
    rw [TS_off h.1]
    exact hs _ (h.2.2.2.1 k k0 k1)
theorem LOp_ok {M M2 : FMem} {li one two : Int} (h : LOp M li one two M2) (hN : NI M) : NetOk M2 := by
  have e8 := h.1 20 8 (by decide) (by omega)
  refine ⟨h.2.1, h.2.2.1, by rw [e8]; exact hN.1.1, by rw [e8]; exact hN.1.2, fun k k0 k1 => ?_⟩
  have hs := h.2.2.2.1 k k0 k1
  rw [h.1 23 _ (by decide) (by omega), h.1 24 _ (by decide) (by omega), h.1 25 _ (by decide) (by omega), h.1 26 _ (by decide) (by omega)]
  have := hN.2 _ hs.1 hs.2.1 hs.2.2.1
  exact ⟨hs.1, hs.2.1, this⟩
theorem sel_off {M M2 : FMem} (h : ∀ b j, b = 21 ∨ b = 22 → M2 b j = M b j) (li one two i : Int) : sel M2 li one two i ↔ sel M li one two i := by
  unfold sel
  rw [h 21 _ (by omega), h 22 _ (by omega)]
theorem SolN_off {M M2 : FMem} (h : ∀ b j, 21 ≤ b ∧ b ≤ 26 → M2 b j = M b j) (h8 : M2 20 8 = M 20 8) (li one two : Int) (x : Int → Int) : SolN M2 li one two x ↔ SolN M li one two x := by
  unfold SolN TS
  simp only [sel_off (fun b j q => h b j (by omega)), h 23 _ (by omega), h 24 _ (by omega), h 25 _ (by omega), h 26 _ (by omega), h8]
theorem NI_off {M M2 : FMem} (h : ∀ b j, 21 ≤ b ∧ b ≤ 26 → M2 b j = M b j) (h8 : M2 20 8 = M 20 8) (hN : NI M) : NI M2 := by
  unfold NI at hN ⊢
  simp only [h 21 _ (by omega), h 23 _ (by omega), h 24 _ (by omega), h 25 _ (by omega), h 26 _ (by omega), h8]
  exact hN
/-- what telling i of the class asks of a row, widened by w -/
def TTX (M : FMem) (r : Nat) (w : Int) (x : Int → Int) (i : Int) : Prop := x (toT M i) ≤ x (frT M i) + (highX M r i + w) ∧ x (frT M i) ≤ x (toT M i) + (-(lowX M r i) + w)
/-- rows that hold for the first kn tellings, less a list and two -/
def SolT (M : FMem) (r : Nat) (kn li one two w : Int) (x : Int → Int) : Prop := ∀ i, 0 ≤ i → i < kn → inT M i → M 3 i ≠ li → i ≠ one → i ≠ two → TTX M r w x i
/-- the net as load leaves it -/
def LD (M : FMem) (r : Nat) (kn : Int) (M2 : FMem) : Prop := (∀ b j, b < 20 ∨ 36 < b → M2 b j = M b j) ∧ NI M2 ∧ M2 20 8 = 0 ∧ (∀ i, 0 ≤ i → i < 80 → (M2 21 i = 1 ↔ i < kn ∧ inT M i)) ∧ (∀ i, 0 ≤ i → i < kn → inT M i → M2 22 i = M 3 i ∧ M2 23 i = frT M i ∧ M2 24 i = toT M i ∧ M2 25 i = lowX M r i ∧ M2 26 i = highX M r i)
theorem LD_off {M M2 M3 : FMem} {r : Nat} {kn : Int} (h : LD M r kn M2) (h1 : ∀ b j, b < 20 ∨ 36 < b → M3 b j = M2 b j) (h2 : ∀ b j, 21 ≤ b ∧ b ≤ 26 → M3 b j = M2 b j) (h8 : M3 20 8 = M2 20 8) : LD M r kn M3 := by
  obtain ⟨q1, q2, q3, q4, q5⟩ := h
  refine ⟨fun b j q => (h1 b j q).trans (q1 b j q), NI_off h2 h8 q2, h8.trans q3, fun i i0 i1 => by rw [h2 21 _ (by omega)]; exact q4 i i0 i1, fun i i0 i1 it => ?_⟩
  rw [h2 22 _ (by omega), h2 23 _ (by omega), h2 24 _ (by omega), h2 25 _ (by omega), h2 26 _ (by omega)]
  exact q5 i i0 i1 it
theorem LD_solw {M M2 : FMem} {r : Nat} {kn w : Int} (h : LD M r kn M2) (hk : kn ≤ 80) {M3 : FMem} (h2 : ∀ b j, 21 ≤ b ∧ b ≤ 26 → M3 b j = M2 b j) (h8 : M3 20 8 = w) (li one two : Int) (x : Int → Int) : SolN M3 li one two x ↔ SolT M r kn li one two w x := by
  obtain ⟨q1, q2, q3, q4, q5⟩ := h
  unfold SolN SolT
  constructor
  · intro hs i i0 i1 it il io iw
    obtain ⟨a1, a2, a3, a4, a5⟩ := q5 i i0 i1 it
    have := hs i ⟨i0, by omega, by rw [h2 21 _ (by omega)]; exact (q4 i i0 (by omega)).mpr ⟨i1, it⟩, by rw [h2 22 _ (by omega), a1]; exact il, io, iw⟩
    unfold TS at this
    rw [h2 23 _ (by omega), h2 24 _ (by omega), h2 25 _ (by omega), h2 26 _ (by omega), h8, a2, a3, a4, a5] at this
    exact this
  · intro hs i ⟨i0, i1, i2, i3, i4, i5⟩
    rw [h2 21 _ (by omega)] at i2
    obtain ⟨k1, it⟩ := (q4 i i0 i1).mp i2
    obtain ⟨a1, a2, a3, a4, a5⟩ := q5 i i0 k1 it
    rw [h2 22 _ (by omega), a1] at i3
    unfold TS
    rw [h2 23 _ (by omega), h2 24 _ (by omega), h2 25 _ (by omega), h2 26 _ (by omega), h8, a2, a3, a4, a5]
    exact hs i i0 k1 it i3 i4 i5
theorem LD_sol {M M2 : FMem} {r : Nat} {kn : Int} (h : LD M r kn M2) (hk : kn ≤ 80) (li one two : Int) (x : Int → Int) : SolN M2 li one two x ↔ SolT M r kn li one two 0 x := LD_solw h hk (fun _ _ _ => rfl) h.2.2.1 li one two x
theorem tel_nodes {M : FMem} {i : Int} (h : TelX M i) : nd (frT M i) ∧ nd (toT M i) ∧ frT M i ≠ toT M i := by
  unfold TelX TelOk at h
  unfold frT toT
  split <;> split <;> omega
theorem lowX_b {M : FMem} {r : Nat} (hT : XT M r) {i : Int} (h0 : 0 ≤ i) (h1 : i < M 1 13) : -100000 ≤ lowX M r i ∧ lowX M r i ≤ 100000 ∧ -100000 ≤ highX M r i ∧ highX M r i ≤ 100000 := by
  have ht := hT.2.1 i h0 h1
  have hR := hT.2.2.2.1
  have hU := hT.2.2.2.2
  unfold TelX TelOk at ht
  have hbl := hU.2.1 (M 3 i) (by omega) (by omega)
  have hd := hU.2.2.1
  unfold lowX highX lowS highS
  by_cases hk : M 2 i = 0
  · rw [if_pos hk, if_pos hk]
    have hs := hU.1 (M 4 i) (by omega) (by omega)
    have hr := hR (M 5 i) (by omega) (by omega)
    have e1 := (ev_b (a := M (r + 2) (M 4 i)) (b := M (r + 3) (M 4 i)) (c := M (r + 4) (M 4 i)) (t := M 8 i) (u := M 9 i) (by omega) (by omega) (by omega) (by omega) (by omega)).1
    have e2 := (ev_b (a := M (r + 1) (M 4 i)) (b := M (r + 3) (M 4 i)) (c := M (r + 4) (M 4 i)) (t := M 8 i) (u := M 9 i) (by omega) (by omega) (by omega) (by omega) (by omega)).2
    have m1 := mulb (A := 2000) (B := 99) (show -2000 ≤ M 16 (M 5 i) ∧ M 16 (M 5 i) ≤ 2000 by omega) (show -99 ≤ M r 6 ∧ M r 6 ≤ 99 by omega)
    have m2 := mulb (A := 2000) (B := 99) (show -2000 ≤ M 15 (M 5 i) ∧ M 15 (M 5 i) ≤ 2000 by omega) (show -99 ≤ M r 5 ∧ M r 5 ≤ 99 by omega)
    have n1 : 0 ≤ M 16 (M 5 i) * M r 6 := Int.mul_nonneg (by omega) (by omega)
    have n2 : 0 ≤ M 15 (M 5 i) * M r 5 := Int.mul_nonneg (by omega) (by omega)
    omega
  · rw [if_neg hk, if_neg hk]
    omega
set_option maxHeartbeats 1000000 in
theorem A_X7_load42 (l : Launch) (g : Cx) (M : FMem) (k : Int) (hT : XT M 42) (hk : k = -1 ∨ (0 ≤ k ∧ k ≤ M 1 13)) : AMv l g true fi_X7_load [fr 0, fi k] 93 M (fun M2 => LD M 42 (if k = -1 then M 1 13 else k) M2 ∧ ∃ M1, LOp M1 (-1) (-1) (-1) M2 ∧ LD M 42 (if k = -1 then M 1 13 else k) M1) := by
  refine AMv_intro [fr 0, fi k, fu, fu, fu, fu] (by decide) (knall rfl) (Nat.le_of_ble_eq_true rfl) rfl ?_
  intro hNV hM0 μ
  have bk : N32 k := hNV (fi k) (by simp)
  have hs := hT.1
  obtain ⟨kw, hkn⟩ : ∃ y, y = (if k = -1 then M 1 13 else k) := ⟨_, rfl⟩
  have hkb : 0 ≤ kw ∧ kw ≤ M 1 13 := by rw [hkn]; split <;> omega
  have lp26 : ∀ (kq : Nat) (i : Int) (M1 : FMem), (kw - i).toNat = kq → (0 ≤ i ∧ i ≤ kw ∧ kw ≤ M 1 13) → (∀ b j, b < 20 ∨ 27 < b → M1 b j = M b j) → (∀ t, 0 ≤ t → t < 80 → (M1 21 t = 1 ↔ t < i ∧ inT M t)) → (∀ t, 0 ≤ t → t < i → inT M t → M1 22 t = M 3 t ∧ M1 23 t = frT M t ∧ M1 24 t = toT M t ∧ M1 25 t = lowX M 42 t ∧ M1 26 t = highX M 42 t) → (M1 20 8 = 0) → Wa l g true fi_X7_load 93 μ (Zv g true fi_X7_load 93 μ (fun M2 => LD M 42 (if k = -1 then M 1 13 else k) M2 ∧ ∃ M1, LOp M1 (-1) (-1) (-1) M2 ∧ LD M 42 (if k = -1 then M 1 13 else k) M1)) 26 [] [fr 0, fi k, fi kw, fi i, fu, fu] 93 M1 := by
    intro kq
    induction kq using Nat.strongRecOn with
    | _ kq ih26 =>
    intro i M1 hk26 h0 h1 h2 h3 h4
    have e11 := h1 11 i (by omega)
    have e10 := h1 10 i (by omega)
    have e2 := h1 2 i (by omega)
    have e3 := h1 3 i (by omega)
    have e4 := h1 4 i (by omega)
    have e5 := h1 5 i (by omega)
    have e06 := h1 0 6 (by omega)
    refine z_iload_n dX7_load_26 rfl ?_
    refine z_iload_n dX7_load_27 rfl ?_
    refine z_icmp_ge (tgt := 148) dX7_load_28 (by decide) (fun c1 => ?_) (fun c1 => ?_)
    · refine z_aload_nr dX7_load_148 rfl ?_
      refine z_getr (b := 20) fl_X7_33 rfl (by decide) rf_0_3 rfl dX7_load_149 ?_
      refine z_iconst dX7_load_152 ⟨by decide, by decide⟩ ?_
      refine z_iconst dX7_load_153 ⟨by decide, by decide⟩ ?_
      refine z_iconst dX7_load_154 ⟨by decide, by decide⟩ ?_
      refine z_callVv (n2 := 93) (A_X1_leaveOut l g M1 (-1) (-1) (-1)) cb_X1_leaveOut cl_X7_270 (clr0 rfl rfl (by decide) (by decide)) rfl (by decide) ⟨_, rfl, rfl⟩ rfl (by decide) rfl (Nat.le_of_ble_eq_true rfl) rfl dX7_load_155 (fun Mz2 kMz2 hc2 => ?_)
      have hlo := hc2
      refine z_vret rfl (by decide) rfl (Nat.sub_self _) dX7_load_158 ?_
      have hLD : LD M 42 kw M1 := by
        refine ⟨fun b j q => h1 b j (by omega), ⟨by omega, fun t t0 t1 tin => ?_⟩, h4, fun t t0 t1 => by rw [h2 t t0 t1]; constructor <;> intro q <;> exact ⟨by omega, q.2⟩, fun t t0 t1 => h3 t t0 (by omega)⟩
        obtain ⟨q1, q2⟩ := (h2 t t0 t1).mp tin
        obtain ⟨a1, a2, a3, a4, a5⟩ := h3 t t0 q1 q2
        have hn := tel_nodes (hT.2.1 t t0 (by omega))
        have hb := lowX_b hT (i := t) t0 (by omega)
        rw [a2, a3, a4, a5]
        exact ⟨hn.1, hn.2.1, hn.2.2, hb.1, hb.2.1, hb.2.2.1, hb.2.2.2⟩
      rw [← hkn]
      exact ⟨LD_off hLD (fun b j q => hlo.1 b j (by omega) (by omega)) (fun b j q => hlo.1 b j (by omega) (by omega)) (hlo.1 20 8 (by decide) (by omega)), M1, hlo, hLD⟩
    · refine z_aload_nr dX7_load_31 rfl ?_
      refine z_getr (b := 1) fl_X7_10 rfl (by decide) rf_0_0 rfl dX7_load_32 ?_
      refine z_iload_n dX7_load_35 rfl ?_
      refine z_callVip (n2 := 93) (A_X5_isInNet l g M1 i (by omega)) cb_X5_isInNet cl_X7_147 (clr0 rfl rfl (by decide) (by decide)) rfl (by decide) ⟨_, rfl, rfl⟩ rfl (by decide) rfl (Nat.le_of_ble_eq_true rfl) rfl dX7_load_36 (fun x3 bx3 hx3 => ?_)
      have i3 := if01 hx3
      have hxin := hx3
      refine z_if_eq (tgt := 142) dX7_load_39 (by decide) (fun c4 => ?_) (fun c4 => ?_)
      · try have hnotin : ¬ inT M i := by unfold inT; intro hh; rw [if_pos ⟨by omega, by omega⟩] at hxin; omega
        refine z_iinc (loc2 := fun vq => [fr 0, fi k, fi kw, fi vq, fu, fu]) dX7_load_142 rfl (by decide) (by omega) (fun _ => rfl) (fun x5 hx5 => ?_)
        refine z_goto (tgt := 26) dX7_load_145 (by decide) ?_
        have hI : (∀ b j, b < 20 ∨ 27 < b → M1 b j = M b j) ∧ (∀ t, 0 ≤ t → t < 80 → (M1 21 t = 1 ↔ t < x5 ∧ inT M t)) ∧ (∀ t, 0 ≤ t → t < x5 → inT M t → M1 22 t = M 3 t ∧ M1 23 t = frT M t ∧ M1 24 t = toT M t ∧ M1 25 t = lowX M 42 t ∧ M1 26 t = highX M 42 t) ∧ M1 20 8 = 0 := by
          first
          | (have hni : ¬ inT M i := hnotin
             refine ⟨h1, fun t t0 t1 => ?_, fun t t0 t1 tt => ?_, h4⟩
             · rw [h2 t t0 t1]
               by_cases e : t = i
               · subst e; constructor <;> intro q <;> exact absurd q.2 hni
               · constructor <;> intro q <;> exact ⟨by omega, q.2⟩
             · by_cases e : t = i
               · subst e; exact absurd tt hni
               · exact h3 t t0 (by omega) tt)
          | (rw [hx5]; exact hnew)
        
        exact ih26 _ (by omega) x5 M1 rfl (by omega) (hI.1) (hI.2.1) (hI.2.2.1) (hI.2.2.2)
      · have hTi := hT.2.1 i (by omega) (by omega)
        unfold TelX TelOk at hTi
        have hisin : inT M i := by unfold inT; by_cases hh : M1 11 i = 0 ∧ M1 10 i = 0; exact ⟨by omega, by omega⟩; (rw [if_neg hh] at hxin; omega)
        refine z_aload_nr dX7_load_42 rfl ?_
        refine z_getr (b := 1) fl_X7_10 rfl (by decide) rf_0_0 rfl dX7_load_43 ?_
        refine z_getr (b := 2) fl_X7_135 rfl (by decide) rf_1_0 rfl dX7_load_46 ?_
        refine z_iload_n dX7_load_49 rfl ?_
        refine z_iald rfl (by decide) (by omega) (by omega) dX7_load_50 (fun x6 hx6 bx6 => ?_)
        refine z_iconst dX7_load_51 ⟨by decide, by decide⟩ ?_
        refine z_icmp_ne (tgt := 60) dX7_load_52 (by decide) (fun c7 => ?_) (fun c7 => ?_)
        · refine z_bipush dX7_load_60 ⟨by decide, by decide⟩ (by decide) ?_
          refine z_aload_nr dX7_load_62 rfl ?_
          refine z_getr (b := 1) fl_X7_10 rfl (by decide) rf_0_0 rfl dX7_load_63 ?_
          refine z_getr (b := 4) fl_X7_141 rfl (by decide) rf_1_2 rfl dX7_load_66 ?_
          refine z_iload_n dX7_load_69 rfl ?_
          refine z_iald rfl (by decide) (by omega) (by omega) dX7_load_70 (fun x8 hx8 bx8 => ?_)
          first | refine z_iaddN dX7_load_71 (by omega) (fun x9 hx9 => ?_) | refine z_iadd dX7_load_71 (fun x9 hx9 => ?_)
          refine z_istore (loc2 := [fr 0, fi k, fi kw, fi i, fi x9, fu]) dX7_load_72 (by decide) rfl ?_
          refine z_aload_nr dX7_load_74 rfl ?_
          refine z_getr (b := 1) fl_X7_10 rfl (by decide) rf_0_0 rfl dX7_load_75 ?_
          refine z_getr (b := 2) fl_X7_135 rfl (by decide) rf_1_0 rfl dX7_load_78 ?_
          refine z_iload_n dX7_load_81 rfl ?_
          refine z_iald rfl (by decide) (by omega) (by omega) dX7_load_82 (fun x10 hx10 bx10 => ?_)
          refine z_iconst dX7_load_83 ⟨by decide, by decide⟩ ?_
          refine z_icmp_ne (tgt := 92) dX7_load_84 (by decide) (fun c11 => ?_) (fun c11 => ?_)
          · refine z_aload_nr dX7_load_92 rfl ?_
            refine z_getr (b := 1) fl_X7_10 rfl (by decide) rf_0_0 rfl dX7_load_93 ?_
            refine z_getr (b := 5) fl_X7_144 rfl (by decide) rf_1_3 rfl dX7_load_96 ?_
            refine z_iload_n dX7_load_99 rfl ?_
            refine z_iald rfl (by decide) (by omega) (by omega) dX7_load_100 (fun x12 hx12 bx12 => ?_)
            refine z_istore (loc2 := [fr 0, fi k, fi kw, fi i, fi x9, fi x12]) dX7_load_101 (by decide) rfl ?_
            refine z_aload_nr dX7_load_103 rfl ?_
            refine z_getr (b := 20) fl_X7_33 rfl (by decide) rf_0_3 rfl dX7_load_104 ?_
            refine z_iload_n dX7_load_107 rfl ?_
            refine z_aload_nr dX7_load_108 rfl ?_
            refine z_getr (b := 1) fl_X7_10 rfl (by decide) rf_0_0 rfl dX7_load_109 ?_
            refine z_getr (b := 3) fl_X7_138 rfl (by decide) rf_1_1 rfl dX7_load_112 ?_
            refine z_iload_n dX7_load_115 rfl ?_
            refine z_iald rfl (by decide) (by omega) (by omega) dX7_load_116 (fun x13 hx13 bx13 => ?_)
            refine z_iload dX7_load_117 rfl ?_
            refine z_iload dX7_load_119 rfl ?_
            refine z_callVv (n2 := 93) (A_X1_tie l g M1 i x13 x9 x12 (by omega)) cb_X1_tie cl_X7_366 (clr0 rfl rfl (by decide) (by decide)) rfl (by decide) ⟨_, rfl, rfl⟩ rfl (by decide) rfl (Nat.le_of_ble_eq_true rfl) rfl dX7_load_121 (fun Mz14 kMz14 hc14 => ?_)
            have ho : ∀ b j, b < 20 ∨ 33 < b → Mz14 b j = M b j := by intro b j q; rw [hc14, st_cell (by omega), st_cell (by omega), st_cell (by omega), st_cell (by omega)]; exact h1 b j (by omega)
            have htie := hc14
            refine z_aload_nr dX7_load_124 rfl ?_
            refine z_getr (b := 20) fl_X7_33 rfl (by decide) rf_0_3 rfl dX7_load_125 ?_
            refine z_iload_n dX7_load_128 rfl ?_
            refine z_aload_nr dX7_load_129 rfl ?_
            refine z_iload_n dX7_load_130 rfl ?_
            refine z_callVip (n2 := 93) (A_X7_lowOf42 l g Mz14 i (by omega) (TelX_off ho (hT.2.1 i (by omega) (by omega))) ((ho 0 6 (by omega)).trans hT.2.2.1) (RedX_off ho hT.2.2.2.1) (RulX_off ho (by decide) hT.2.2.2.2)) cb_X7_lowOf cl_X7_150 (clr0 rfl rfl (by decide) (by decide)) rfl (by decide) ⟨_, rfl, rfl⟩ rfl (by decide) rfl (Nat.le_of_ble_eq_true rfl) rfl dX7_load_131 (fun x15 bx15 hx15 => ?_)
            have hlo : x15 = lowX M 42 i := hx15.1.trans (lowX_off ho (by decide) i).1
            refine z_aload_nr dX7_load_134 rfl ?_
            refine z_iload_n dX7_load_135 rfl ?_
            refine z_callVip (n2 := 93) (A_X7_highOf42 l g Mz14 i (by omega) (TelX_off ho (hT.2.1 i (by omega) (by omega))) ((ho 0 6 (by omega)).trans hT.2.2.1) (RedX_off ho hT.2.2.2.1) (RulX_off ho (by decide) hT.2.2.2.2)) cb_X7_highOf cl_X7_154 (clr0 rfl rfl (by decide) (by decide)) rfl (by decide) ⟨_, rfl, rfl⟩ rfl (by decide) rfl (Nat.le_of_ble_eq_true rfl) rfl dX7_load_136 (fun x16 bx16 hx16 => ?_)
            have hhi : x16 = highX M 42 i := hx16.1.trans (lowX_off ho (by decide) i).2
            refine z_callVv (n2 := 93) (A_X1_span l g Mz14 i x15 x16 (by omega)) cb_X1_span cl_X7_370 (clr0 rfl rfl (by decide) (by decide)) rfl (by decide) ⟨_, rfl, rfl⟩ rfl (by decide) rfl (Nat.le_of_ble_eq_true rfl) rfl dX7_load_139 (fun Mz17 kMz17 hc17 => ?_)
            have hnew : (∀ b j, b < 20 ∨ 27 < b → Mz17 b j = M b j) ∧ (∀ t, 0 ≤ t → t < 80 → (Mz17 21 t = 1 ↔ t < i + 1 ∧ inT M t)) ∧ (∀ t, 0 ≤ t → t < i + 1 → inT M t → Mz17 22 t = M 3 t ∧ Mz17 23 t = frT M t ∧ Mz17 24 t = toT M t ∧ Mz17 25 t = lowX M 42 t ∧ Mz17 26 t = highX M 42 t) ∧ Mz17 20 8 = 0 := by
              have hin : inT M i := hisin
              have hf : x9 = frT M i := by unfold frT; first | (rw [if_pos (by omega)]) | (rw [if_neg (by omega)]; omega)
              have ht : x12 = toT M i := by unfold toT; first | (rw [if_pos (by omega)]) | (rw [if_neg (by omega)]; omega)
              rw [hc17, htie]
              refine ⟨fun b j q => by rw [st_cell (by omega), st_cell (by omega), st_cell (by omega), st_cell (by omega), st_cell (by omega), st_cell (by omega)]; exact h1 b j q, fun t t0 t1 => ?_, fun t t0 t1 tt => ?_, by simp [st, h4]⟩
              · by_cases e : t = i
                · subst e; simp [st, hin]; omega
                · simp only [st, e, and_false, if_false]
                  rw [h2 t t0 t1]
                  constructor <;> intro q <;> exact ⟨by omega, q.2⟩
              · by_cases e : t = i
                · subst e
                  simp [st]
                  refine ⟨?_, hf, ht, hlo, hhi⟩
                  omega
                · simp only [st, e, and_false, if_false]
                  exact h3 t t0 (by omega) tt
            try have hnotin : ¬ inT M i := by unfold inT; intro hh; rw [if_pos ⟨by omega, by omega⟩] at hxin; omega
            refine z_iinc (loc2 := fun vq => [fr 0, fi k, fi kw, fi vq, fi x9, fi x12]) dX7_load_142 rfl (by decide) (by omega) (fun _ => rfl) (fun x18 hx18 => ?_)
            refine z_goto (tgt := 26) dX7_load_145 (by decide) ?_
            have hI : (∀ b j, b < 20 ∨ 27 < b → Mz17 b j = M b j) ∧ (∀ t, 0 ≤ t → t < 80 → (Mz17 21 t = 1 ↔ t < x18 ∧ inT M t)) ∧ (∀ t, 0 ≤ t → t < x18 → inT M t → Mz17 22 t = M 3 t ∧ Mz17 23 t = frT M t ∧ Mz17 24 t = toT M t ∧ Mz17 25 t = lowX M 42 t ∧ Mz17 26 t = highX M 42 t) ∧ Mz17 20 8 = 0 := by
              first
              | (have hni : ¬ inT M i := hnotin
                 refine ⟨h1, fun t t0 t1 => ?_, fun t t0 t1 tt => ?_, h4⟩
                 · rw [h2 t t0 t1]
                   by_cases e : t = i
                   · subst e; constructor <;> intro q <;> exact absurd q.2 hni
                   · constructor <;> intro q <;> exact ⟨by omega, q.2⟩
                 · by_cases e : t = i
                   · subst e; exact absurd tt hni
                   · exact h3 t t0 (by omega) tt)
              | (rw [hx18]; exact hnew)
            
            refine z_few [fr 0, fi k, fi kw, fi x18, fu, fu] (by simp [fle, kn]) ?_
            exact ih26 _ (by omega) x18 Mz17 rfl (by omega) (hI.1) (hI.2.1) (hI.2.2.1) (hI.2.2.2)
          · refine z_bipush dX7_load_87 ⟨by decide, by decide⟩ (by decide) ?_
            refine z_goto (tgt := 101) dX7_load_89 (by decide) ?_
            refine z_istore (loc2 := [fr 0, fi k, fi kw, fi i, fi x9, fi 16]) dX7_load_101 (by decide) rfl ?_
            refine z_aload_nr dX7_load_103 rfl ?_
            refine z_getr (b := 20) fl_X7_33 rfl (by decide) rf_0_3 rfl dX7_load_104 ?_
            refine z_iload_n dX7_load_107 rfl ?_
            refine z_aload_nr dX7_load_108 rfl ?_
            refine z_getr (b := 1) fl_X7_10 rfl (by decide) rf_0_0 rfl dX7_load_109 ?_
            refine z_getr (b := 3) fl_X7_138 rfl (by decide) rf_1_1 rfl dX7_load_112 ?_
            refine z_iload_n dX7_load_115 rfl ?_
            refine z_iald rfl (by decide) (by omega) (by omega) dX7_load_116 (fun x19 hx19 bx19 => ?_)
            refine z_iload dX7_load_117 rfl ?_
            refine z_iload dX7_load_119 rfl ?_
            refine z_callVv (n2 := 93) (A_X1_tie l g M1 i x19 x9 16 (by omega)) cb_X1_tie cl_X7_366 (clr0 rfl rfl (by decide) (by decide)) rfl (by decide) ⟨_, rfl, rfl⟩ rfl (by decide) rfl (Nat.le_of_ble_eq_true rfl) rfl dX7_load_121 (fun Mz20 kMz20 hc20 => ?_)
            have ho : ∀ b j, b < 20 ∨ 33 < b → Mz20 b j = M b j := by intro b j q; rw [hc20, st_cell (by omega), st_cell (by omega), st_cell (by omega), st_cell (by omega)]; exact h1 b j (by omega)
            have htie := hc20
            refine z_aload_nr dX7_load_124 rfl ?_
            refine z_getr (b := 20) fl_X7_33 rfl (by decide) rf_0_3 rfl dX7_load_125 ?_
            refine z_iload_n dX7_load_128 rfl ?_
            refine z_aload_nr dX7_load_129 rfl ?_
            refine z_iload_n dX7_load_130 rfl ?_
            refine z_callVip (n2 := 93) (A_X7_lowOf42 l g Mz20 i (by omega) (TelX_off ho (hT.2.1 i (by omega) (by omega))) ((ho 0 6 (by omega)).trans hT.2.2.1) (RedX_off ho hT.2.2.2.1) (RulX_off ho (by decide) hT.2.2.2.2)) cb_X7_lowOf cl_X7_150 (clr0 rfl rfl (by decide) (by decide)) rfl (by decide) ⟨_, rfl, rfl⟩ rfl (by decide) rfl (Nat.le_of_ble_eq_true rfl) rfl dX7_load_131 (fun x21 bx21 hx21 => ?_)
            have hlo : x21 = lowX M 42 i := hx21.1.trans (lowX_off ho (by decide) i).1
            refine z_aload_nr dX7_load_134 rfl ?_
            refine z_iload_n dX7_load_135 rfl ?_
            refine z_callVip (n2 := 93) (A_X7_highOf42 l g Mz20 i (by omega) (TelX_off ho (hT.2.1 i (by omega) (by omega))) ((ho 0 6 (by omega)).trans hT.2.2.1) (RedX_off ho hT.2.2.2.1) (RulX_off ho (by decide) hT.2.2.2.2)) cb_X7_highOf cl_X7_154 (clr0 rfl rfl (by decide) (by decide)) rfl (by decide) ⟨_, rfl, rfl⟩ rfl (by decide) rfl (Nat.le_of_ble_eq_true rfl) rfl dX7_load_136 (fun x22 bx22 hx22 => ?_)
            have hhi : x22 = highX M 42 i := hx22.1.trans (lowX_off ho (by decide) i).2
            refine z_callVv (n2 := 93) (A_X1_span l g Mz20 i x21 x22 (by omega)) cb_X1_span cl_X7_370 (clr0 rfl rfl (by decide) (by decide)) rfl (by decide) ⟨_, rfl, rfl⟩ rfl (by decide) rfl (Nat.le_of_ble_eq_true rfl) rfl dX7_load_139 (fun Mz23 kMz23 hc23 => ?_)
            have hnew : (∀ b j, b < 20 ∨ 27 < b → Mz23 b j = M b j) ∧ (∀ t, 0 ≤ t → t < 80 → (Mz23 21 t = 1 ↔ t < i + 1 ∧ inT M t)) ∧ (∀ t, 0 ≤ t → t < i + 1 → inT M t → Mz23 22 t = M 3 t ∧ Mz23 23 t = frT M t ∧ Mz23 24 t = toT M t ∧ Mz23 25 t = lowX M 42 t ∧ Mz23 26 t = highX M 42 t) ∧ Mz23 20 8 = 0 := by
              have hin : inT M i := hisin
              have hf : x9 = frT M i := by unfold frT; first | (rw [if_pos (by omega)]) | (rw [if_neg (by omega)]; omega)
              have ht : 16 = toT M i := by unfold toT; first | (rw [if_pos (by omega)]) | (rw [if_neg (by omega)]; omega)
              rw [hc23, htie]
              refine ⟨fun b j q => by rw [st_cell (by omega), st_cell (by omega), st_cell (by omega), st_cell (by omega), st_cell (by omega), st_cell (by omega)]; exact h1 b j q, fun t t0 t1 => ?_, fun t t0 t1 tt => ?_, by simp [st, h4]⟩
              · by_cases e : t = i
                · subst e; simp [st, hin]; omega
                · simp only [st, e, and_false, if_false]
                  rw [h2 t t0 t1]
                  constructor <;> intro q <;> exact ⟨by omega, q.2⟩
              · by_cases e : t = i
                · subst e
                  simp [st]
                  refine ⟨?_, hf, ht, hlo, hhi⟩
                  omega
                · simp only [st, e, and_false, if_false]
                  exact h3 t t0 (by omega) tt
            try have hnotin : ¬ inT M i := by unfold inT; intro hh; rw [if_pos ⟨by omega, by omega⟩] at hxin; omega
            refine z_iinc (loc2 := fun vq => [fr 0, fi k, fi kw, fi vq, fi x9, fi 16]) dX7_load_142 rfl (by decide) (by omega) (fun _ => rfl) (fun x24 hx24 => ?_)
            refine z_goto (tgt := 26) dX7_load_145 (by decide) ?_
            have hI : (∀ b j, b < 20 ∨ 27 < b → Mz23 b j = M b j) ∧ (∀ t, 0 ≤ t → t < 80 → (Mz23 21 t = 1 ↔ t < x24 ∧ inT M t)) ∧ (∀ t, 0 ≤ t → t < x24 → inT M t → Mz23 22 t = M 3 t ∧ Mz23 23 t = frT M t ∧ Mz23 24 t = toT M t ∧ Mz23 25 t = lowX M 42 t ∧ Mz23 26 t = highX M 42 t) ∧ Mz23 20 8 = 0 := by
              first
              | (have hni : ¬ inT M i := hnotin
                 refine ⟨h1, fun t t0 t1 => ?_, fun t t0 t1 tt => ?_, h4⟩
                 · rw [h2 t t0 t1]
                   by_cases e : t = i
                   · subst e; constructor <;> intro q <;> exact absurd q.2 hni
                   · constructor <;> intro q <;> exact ⟨by omega, q.2⟩
                 · by_cases e : t = i
                   · subst e; exact absurd tt hni
                   · exact h3 t t0 (by omega) tt)
              | (rw [hx24]; exact hnew)
            
            refine z_few [fr 0, fi k, fi kw, fi x24, fu, fu] (by simp [fle, kn]) ?_
            exact ih26 _ (by omega) x24 Mz23 rfl (by omega) (hI.1) (hI.2.1) (hI.2.2.1) (hI.2.2.2)
        · refine z_bipush dX7_load_55 ⟨by decide, by decide⟩ (by decide) ?_
          refine z_goto (tgt := 72) dX7_load_57 (by decide) ?_
          refine z_istore (loc2 := [fr 0, fi k, fi kw, fi i, fi 16, fu]) dX7_load_72 (by decide) rfl ?_
          refine z_aload_nr dX7_load_74 rfl ?_
          refine z_getr (b := 1) fl_X7_10 rfl (by decide) rf_0_0 rfl dX7_load_75 ?_
          refine z_getr (b := 2) fl_X7_135 rfl (by decide) rf_1_0 rfl dX7_load_78 ?_
          refine z_iload_n dX7_load_81 rfl ?_
          refine z_iald rfl (by decide) (by omega) (by omega) dX7_load_82 (fun x25 hx25 bx25 => ?_)
          refine z_iconst dX7_load_83 ⟨by decide, by decide⟩ ?_
          refine z_icmp_ne (tgt := 92) dX7_load_84 (by decide) (fun c26 => ?_) (fun c26 => ?_)
          · refine z_aload_nr dX7_load_92 rfl ?_
            refine z_getr (b := 1) fl_X7_10 rfl (by decide) rf_0_0 rfl dX7_load_93 ?_
            refine z_getr (b := 5) fl_X7_144 rfl (by decide) rf_1_3 rfl dX7_load_96 ?_
            refine z_iload_n dX7_load_99 rfl ?_
            refine z_iald rfl (by decide) (by omega) (by omega) dX7_load_100 (fun x27 hx27 bx27 => ?_)
            refine z_istore (loc2 := [fr 0, fi k, fi kw, fi i, fi 16, fi x27]) dX7_load_101 (by decide) rfl ?_
            refine z_aload_nr dX7_load_103 rfl ?_
            refine z_getr (b := 20) fl_X7_33 rfl (by decide) rf_0_3 rfl dX7_load_104 ?_
            refine z_iload_n dX7_load_107 rfl ?_
            refine z_aload_nr dX7_load_108 rfl ?_
            refine z_getr (b := 1) fl_X7_10 rfl (by decide) rf_0_0 rfl dX7_load_109 ?_
            refine z_getr (b := 3) fl_X7_138 rfl (by decide) rf_1_1 rfl dX7_load_112 ?_
            refine z_iload_n dX7_load_115 rfl ?_
            refine z_iald rfl (by decide) (by omega) (by omega) dX7_load_116 (fun x28 hx28 bx28 => ?_)
            refine z_iload dX7_load_117 rfl ?_
            refine z_iload dX7_load_119 rfl ?_
            refine z_callVv (n2 := 93) (A_X1_tie l g M1 i x28 16 x27 (by omega)) cb_X1_tie cl_X7_366 (clr0 rfl rfl (by decide) (by decide)) rfl (by decide) ⟨_, rfl, rfl⟩ rfl (by decide) rfl (Nat.le_of_ble_eq_true rfl) rfl dX7_load_121 (fun Mz29 kMz29 hc29 => ?_)
            have ho : ∀ b j, b < 20 ∨ 33 < b → Mz29 b j = M b j := by intro b j q; rw [hc29, st_cell (by omega), st_cell (by omega), st_cell (by omega), st_cell (by omega)]; exact h1 b j (by omega)
            have htie := hc29
            refine z_aload_nr dX7_load_124 rfl ?_
            refine z_getr (b := 20) fl_X7_33 rfl (by decide) rf_0_3 rfl dX7_load_125 ?_
            refine z_iload_n dX7_load_128 rfl ?_
            refine z_aload_nr dX7_load_129 rfl ?_
            refine z_iload_n dX7_load_130 rfl ?_
            refine z_callVip (n2 := 93) (A_X7_lowOf42 l g Mz29 i (by omega) (TelX_off ho (hT.2.1 i (by omega) (by omega))) ((ho 0 6 (by omega)).trans hT.2.2.1) (RedX_off ho hT.2.2.2.1) (RulX_off ho (by decide) hT.2.2.2.2)) cb_X7_lowOf cl_X7_150 (clr0 rfl rfl (by decide) (by decide)) rfl (by decide) ⟨_, rfl, rfl⟩ rfl (by decide) rfl (Nat.le_of_ble_eq_true rfl) rfl dX7_load_131 (fun x30 bx30 hx30 => ?_)
            have hlo : x30 = lowX M 42 i := hx30.1.trans (lowX_off ho (by decide) i).1
            refine z_aload_nr dX7_load_134 rfl ?_
            refine z_iload_n dX7_load_135 rfl ?_
            refine z_callVip (n2 := 93) (A_X7_highOf42 l g Mz29 i (by omega) (TelX_off ho (hT.2.1 i (by omega) (by omega))) ((ho 0 6 (by omega)).trans hT.2.2.1) (RedX_off ho hT.2.2.2.1) (RulX_off ho (by decide) hT.2.2.2.2)) cb_X7_highOf cl_X7_154 (clr0 rfl rfl (by decide) (by decide)) rfl (by decide) ⟨_, rfl, rfl⟩ rfl (by decide) rfl (Nat.le_of_ble_eq_true rfl) rfl dX7_load_136 (fun x31 bx31 hx31 => ?_)
            have hhi : x31 = highX M 42 i := hx31.1.trans (lowX_off ho (by decide) i).2
            refine z_callVv (n2 := 93) (A_X1_span l g Mz29 i x30 x31 (by omega)) cb_X1_span cl_X7_370 (clr0 rfl rfl (by decide) (by decide)) rfl (by decide) ⟨_, rfl, rfl⟩ rfl (by decide) rfl (Nat.le_of_ble_eq_true rfl) rfl dX7_load_139 (fun Mz32 kMz32 hc32 => ?_)
            have hnew : (∀ b j, b < 20 ∨ 27 < b → Mz32 b j = M b j) ∧ (∀ t, 0 ≤ t → t < 80 → (Mz32 21 t = 1 ↔ t < i + 1 ∧ inT M t)) ∧ (∀ t, 0 ≤ t → t < i + 1 → inT M t → Mz32 22 t = M 3 t ∧ Mz32 23 t = frT M t ∧ Mz32 24 t = toT M t ∧ Mz32 25 t = lowX M 42 t ∧ Mz32 26 t = highX M 42 t) ∧ Mz32 20 8 = 0 := by
              have hin : inT M i := hisin
              have hf : 16 = frT M i := by unfold frT; first | (rw [if_pos (by omega)]) | (rw [if_neg (by omega)]; omega)
              have ht : x27 = toT M i := by unfold toT; first | (rw [if_pos (by omega)]) | (rw [if_neg (by omega)]; omega)
              rw [hc32, htie]
              refine ⟨fun b j q => by rw [st_cell (by omega), st_cell (by omega), st_cell (by omega), st_cell (by omega), st_cell (by omega), st_cell (by omega)]; exact h1 b j q, fun t t0 t1 => ?_, fun t t0 t1 tt => ?_, by simp [st, h4]⟩
              · by_cases e : t = i
                · subst e; simp [st, hin]; omega
                · simp only [st, e, and_false, if_false]
                  rw [h2 t t0 t1]
                  constructor <;> intro q <;> exact ⟨by omega, q.2⟩
              · by_cases e : t = i
                · subst e
                  simp [st]
                  refine ⟨?_, hf, ht, hlo, hhi⟩
                  omega
                · simp only [st, e, and_false, if_false]
                  exact h3 t t0 (by omega) tt
            try have hnotin : ¬ inT M i := by unfold inT; intro hh; rw [if_pos ⟨by omega, by omega⟩] at hxin; omega
            refine z_iinc (loc2 := fun vq => [fr 0, fi k, fi kw, fi vq, fi 16, fi x27]) dX7_load_142 rfl (by decide) (by omega) (fun _ => rfl) (fun x33 hx33 => ?_)
            refine z_goto (tgt := 26) dX7_load_145 (by decide) ?_
            have hI : (∀ b j, b < 20 ∨ 27 < b → Mz32 b j = M b j) ∧ (∀ t, 0 ≤ t → t < 80 → (Mz32 21 t = 1 ↔ t < x33 ∧ inT M t)) ∧ (∀ t, 0 ≤ t → t < x33 → inT M t → Mz32 22 t = M 3 t ∧ Mz32 23 t = frT M t ∧ Mz32 24 t = toT M t ∧ Mz32 25 t = lowX M 42 t ∧ Mz32 26 t = highX M 42 t) ∧ Mz32 20 8 = 0 := by
              first
              | (have hni : ¬ inT M i := hnotin
                 refine ⟨h1, fun t t0 t1 => ?_, fun t t0 t1 tt => ?_, h4⟩
                 · rw [h2 t t0 t1]
                   by_cases e : t = i
                   · subst e; constructor <;> intro q <;> exact absurd q.2 hni
                   · constructor <;> intro q <;> exact ⟨by omega, q.2⟩
                 · by_cases e : t = i
                   · subst e; exact absurd tt hni
                   · exact h3 t t0 (by omega) tt)
              | (rw [hx33]; exact hnew)
            
            refine z_few [fr 0, fi k, fi kw, fi x33, fu, fu] (by simp [fle, kn]) ?_
            exact ih26 _ (by omega) x33 Mz32 rfl (by omega) (hI.1) (hI.2.1) (hI.2.2.1) (hI.2.2.2)
          · refine z_bipush dX7_load_87 ⟨by decide, by decide⟩ (by decide) ?_
            refine z_goto (tgt := 101) dX7_load_89 (by decide) ?_
            refine z_istore (loc2 := [fr 0, fi k, fi kw, fi i, fi 16, fi 16]) dX7_load_101 (by decide) rfl ?_
            refine z_aload_nr dX7_load_103 rfl ?_
            refine z_getr (b := 20) fl_X7_33 rfl (by decide) rf_0_3 rfl dX7_load_104 ?_
            refine z_iload_n dX7_load_107 rfl ?_
            refine z_aload_nr dX7_load_108 rfl ?_
            refine z_getr (b := 1) fl_X7_10 rfl (by decide) rf_0_0 rfl dX7_load_109 ?_
            refine z_getr (b := 3) fl_X7_138 rfl (by decide) rf_1_1 rfl dX7_load_112 ?_
            refine z_iload_n dX7_load_115 rfl ?_
            refine z_iald rfl (by decide) (by omega) (by omega) dX7_load_116 (fun x34 hx34 bx34 => ?_)
            refine z_iload dX7_load_117 rfl ?_
            refine z_iload dX7_load_119 rfl ?_
            refine z_callVv (n2 := 93) (A_X1_tie l g M1 i x34 16 16 (by omega)) cb_X1_tie cl_X7_366 (clr0 rfl rfl (by decide) (by decide)) rfl (by decide) ⟨_, rfl, rfl⟩ rfl (by decide) rfl (Nat.le_of_ble_eq_true rfl) rfl dX7_load_121 (fun Mz35 kMz35 hc35 => ?_)
            have ho : ∀ b j, b < 20 ∨ 33 < b → Mz35 b j = M b j := by intro b j q; rw [hc35, st_cell (by omega), st_cell (by omega), st_cell (by omega), st_cell (by omega)]; exact h1 b j (by omega)
            have htie := hc35
            refine z_aload_nr dX7_load_124 rfl ?_
            refine z_getr (b := 20) fl_X7_33 rfl (by decide) rf_0_3 rfl dX7_load_125 ?_
            refine z_iload_n dX7_load_128 rfl ?_
            refine z_aload_nr dX7_load_129 rfl ?_
            refine z_iload_n dX7_load_130 rfl ?_
            refine z_callVip (n2 := 93) (A_X7_lowOf42 l g Mz35 i (by omega) (TelX_off ho (hT.2.1 i (by omega) (by omega))) ((ho 0 6 (by omega)).trans hT.2.2.1) (RedX_off ho hT.2.2.2.1) (RulX_off ho (by decide) hT.2.2.2.2)) cb_X7_lowOf cl_X7_150 (clr0 rfl rfl (by decide) (by decide)) rfl (by decide) ⟨_, rfl, rfl⟩ rfl (by decide) rfl (Nat.le_of_ble_eq_true rfl) rfl dX7_load_131 (fun x36 bx36 hx36 => ?_)
            have hlo : x36 = lowX M 42 i := hx36.1.trans (lowX_off ho (by decide) i).1
            refine z_aload_nr dX7_load_134 rfl ?_
            refine z_iload_n dX7_load_135 rfl ?_
            refine z_callVip (n2 := 93) (A_X7_highOf42 l g Mz35 i (by omega) (TelX_off ho (hT.2.1 i (by omega) (by omega))) ((ho 0 6 (by omega)).trans hT.2.2.1) (RedX_off ho hT.2.2.2.1) (RulX_off ho (by decide) hT.2.2.2.2)) cb_X7_highOf cl_X7_154 (clr0 rfl rfl (by decide) (by decide)) rfl (by decide) ⟨_, rfl, rfl⟩ rfl (by decide) rfl (Nat.le_of_ble_eq_true rfl) rfl dX7_load_136 (fun x37 bx37 hx37 => ?_)
            have hhi : x37 = highX M 42 i := hx37.1.trans (lowX_off ho (by decide) i).2
            refine z_callVv (n2 := 93) (A_X1_span l g Mz35 i x36 x37 (by omega)) cb_X1_span cl_X7_370 (clr0 rfl rfl (by decide) (by decide)) rfl (by decide) ⟨_, rfl, rfl⟩ rfl (by decide) rfl (Nat.le_of_ble_eq_true rfl) rfl dX7_load_139 (fun Mz38 kMz38 hc38 => ?_)
            have hnew : (∀ b j, b < 20 ∨ 27 < b → Mz38 b j = M b j) ∧ (∀ t, 0 ≤ t → t < 80 → (Mz38 21 t = 1 ↔ t < i + 1 ∧ inT M t)) ∧ (∀ t, 0 ≤ t → t < i + 1 → inT M t → Mz38 22 t = M 3 t ∧ Mz38 23 t = frT M t ∧ Mz38 24 t = toT M t ∧ Mz38 25 t = lowX M 42 t ∧ Mz38 26 t = highX M 42 t) ∧ Mz38 20 8 = 0 := by
              have hin : inT M i := hisin
              have hf : 16 = frT M i := by unfold frT; first | (rw [if_pos (by omega)]) | (rw [if_neg (by omega)]; omega)
              have ht : 16 = toT M i := by unfold toT; first | (rw [if_pos (by omega)]) | (rw [if_neg (by omega)]; omega)
              rw [hc38, htie]
              refine ⟨fun b j q => by rw [st_cell (by omega), st_cell (by omega), st_cell (by omega), st_cell (by omega), st_cell (by omega), st_cell (by omega)]; exact h1 b j q, fun t t0 t1 => ?_, fun t t0 t1 tt => ?_, by simp [st, h4]⟩
              · by_cases e : t = i
                · subst e; simp [st, hin]; omega
                · simp only [st, e, and_false, if_false]
                  rw [h2 t t0 t1]
                  constructor <;> intro q <;> exact ⟨by omega, q.2⟩
              · by_cases e : t = i
                · subst e
                  simp [st]
                  refine ⟨?_, hf, ht, hlo, hhi⟩
                  omega
                · simp only [st, e, and_false, if_false]
                  exact h3 t t0 (by omega) tt
            try have hnotin : ¬ inT M i := by unfold inT; intro hh; rw [if_pos ⟨by omega, by omega⟩] at hxin; omega
            refine z_iinc (loc2 := fun vq => [fr 0, fi k, fi kw, fi vq, fi 16, fi 16]) dX7_load_142 rfl (by decide) (by omega) (fun _ => rfl) (fun x39 hx39 => ?_)
            refine z_goto (tgt := 26) dX7_load_145 (by decide) ?_
            have hI : (∀ b j, b < 20 ∨ 27 < b → Mz38 b j = M b j) ∧ (∀ t, 0 ≤ t → t < 80 → (Mz38 21 t = 1 ↔ t < x39 ∧ inT M t)) ∧ (∀ t, 0 ≤ t → t < x39 → inT M t → Mz38 22 t = M 3 t ∧ Mz38 23 t = frT M t ∧ Mz38 24 t = toT M t ∧ Mz38 25 t = lowX M 42 t ∧ Mz38 26 t = highX M 42 t) ∧ Mz38 20 8 = 0 := by
              first
              | (have hni : ¬ inT M i := hnotin
                 refine ⟨h1, fun t t0 t1 => ?_, fun t t0 t1 tt => ?_, h4⟩
                 · rw [h2 t t0 t1]
                   by_cases e : t = i
                   · subst e; constructor <;> intro q <;> exact absurd q.2 hni
                   · constructor <;> intro q <;> exact ⟨by omega, q.2⟩
                 · by_cases e : t = i
                   · subst e; exact absurd tt hni
                   · exact h3 t t0 (by omega) tt)
              | (rw [hx39]; exact hnew)
            
            refine z_few [fr 0, fi k, fi kw, fi x39, fu, fu] (by simp [fle, kn]) ?_
            exact ih26 _ (by omega) x39 Mz38 rfl (by omega) (hI.1) (hI.2.1) (hI.2.2.1) (hI.2.2.2)
  refine z_iload_n dX7_load_0 rfl ?_
  refine z_iconst dX7_load_1 ⟨by decide, by decide⟩ ?_
  refine z_icmp_ne (tgt := 15) dX7_load_2 (by decide) (fun c40 => ?_) (fun c40 => ?_)
  · refine z_iload_n dX7_load_15 rfl ?_
    refine z_istore_n (loc2 := [fr 0, fi k, fi k, fu, fu, fu]) dX7_load_16 (by decide) rfl ?_
    refine z_aload_nr dX7_load_17 rfl ?_
    refine z_getr (b := 20) fl_X7_33 rfl (by decide) rf_0_3 rfl dX7_load_18 ?_
    refine z_callVv (n2 := 93) (A_X1_clear l g M ) cb_X1_clear cl_X7_363 (clr0 rfl rfl (by decide) (by decide)) rfl (by decide) ⟨_, rfl, rfl⟩ rfl (by decide) rfl (Nat.le_of_ble_eq_true rfl) rfl dX7_load_21 (fun Mz41 kMz41 hc41 => ?_)
    have hcl := hc41
    refine z_iconst dX7_load_24 ⟨by decide, by decide⟩ ?_
    refine z_istore_n (loc2 := [fr 0, fi k, fi k, fi 0, fu, fu]) dX7_load_25 (by decide) rfl ?_
    obtain rfl : kw = k := by first | (rw [hkn, if_pos (by omega)]; omega) | (rw [hkn, if_neg (by omega)])
    exact lp26 _ 0 Mz41 rfl (by omega) (fun b j q => hcl.1 b j (by omega) (by omega)) (fun t t0 t1 => by rw [hcl.2.1 t t0 t1]; omega) (fun t t0 t1 => by omega) (hcl.2.2)
  · refine z_aload_nr dX7_load_5 rfl ?_
    refine z_getr (b := 1) fl_X7_10 rfl (by decide) rf_0_0 rfl dX7_load_6 ?_
    refine z_geti (kz := 13) fl_X7_157 rfl (by decide) rfl dX7_load_9 (fun x42 hx42 bx42 => ?_)
    refine z_goto (tgt := 16) dX7_load_12 (by decide) ?_
    refine z_istore_n (loc2 := [fr 0, fi k, fi x42, fu, fu, fu]) dX7_load_16 (by decide) rfl ?_
    refine z_aload_nr dX7_load_17 rfl ?_
    refine z_getr (b := 20) fl_X7_33 rfl (by decide) rf_0_3 rfl dX7_load_18 ?_
    refine z_callVv (n2 := 93) (A_X1_clear l g M ) cb_X1_clear cl_X7_363 (clr0 rfl rfl (by decide) (by decide)) rfl (by decide) ⟨_, rfl, rfl⟩ rfl (by decide) rfl (Nat.le_of_ble_eq_true rfl) rfl dX7_load_21 (fun Mz43 kMz43 hc43 => ?_)
    have hcl := hc43
    refine z_iconst dX7_load_24 ⟨by decide, by decide⟩ ?_
    refine z_istore_n (loc2 := [fr 0, fi k, fi x42, fi 0, fu, fu]) dX7_load_25 (by decide) rfl ?_
    obtain rfl : kw = x42 := by first | (rw [hkn, if_pos (by omega)]; omega) | (rw [hkn, if_neg (by omega)])
    exact lp26 _ 0 Mz43 rfl (by omega) (fun b j q => hcl.1 b j (by omega) (by omega)) (fun t t0 t1 => by rw [hcl.2.1 t t0 t1]; omega) (fun t t0 t1 => by omega) (hcl.2.2)
set_option maxHeartbeats 1000000 in
theorem A_X7_load51 (l : Launch) (g : Cx) (M : FMem) (k : Int) (hT : XT M 51) (hk : k = -1 ∨ (0 ≤ k ∧ k ≤ M 1 13)) : AMv l g true fi_X7_load [fr 0, fi k] 93 M (fun M2 => LD M 51 (if k = -1 then M 1 13 else k) M2 ∧ ∃ M1, LOp M1 (-1) (-1) (-1) M2 ∧ LD M 51 (if k = -1 then M 1 13 else k) M1) := by
  refine AMv_intro [fr 0, fi k, fu, fu, fu, fu] (by decide) (knall rfl) (Nat.le_of_ble_eq_true rfl) rfl ?_
  intro hNV hM0 μ
  have bk : N32 k := hNV (fi k) (by simp)
  have hs := hT.1
  obtain ⟨kw, hkn⟩ : ∃ y, y = (if k = -1 then M 1 13 else k) := ⟨_, rfl⟩
  have hkb : 0 ≤ kw ∧ kw ≤ M 1 13 := by rw [hkn]; split <;> omega
  have lp26 : ∀ (kq : Nat) (i : Int) (M1 : FMem), (kw - i).toNat = kq → (0 ≤ i ∧ i ≤ kw ∧ kw ≤ M 1 13) → (∀ b j, b < 20 ∨ 27 < b → M1 b j = M b j) → (∀ t, 0 ≤ t → t < 80 → (M1 21 t = 1 ↔ t < i ∧ inT M t)) → (∀ t, 0 ≤ t → t < i → inT M t → M1 22 t = M 3 t ∧ M1 23 t = frT M t ∧ M1 24 t = toT M t ∧ M1 25 t = lowX M 51 t ∧ M1 26 t = highX M 51 t) → (M1 20 8 = 0) → Wa l g true fi_X7_load 93 μ (Zv g true fi_X7_load 93 μ (fun M2 => LD M 51 (if k = -1 then M 1 13 else k) M2 ∧ ∃ M1, LOp M1 (-1) (-1) (-1) M2 ∧ LD M 51 (if k = -1 then M 1 13 else k) M1)) 26 [] [fr 0, fi k, fi kw, fi i, fu, fu] 93 M1 := by
    intro kq
    induction kq using Nat.strongRecOn with
    | _ kq ih26 =>
    intro i M1 hk26 h0 h1 h2 h3 h4
    have e11 := h1 11 i (by omega)
    have e10 := h1 10 i (by omega)
    have e2 := h1 2 i (by omega)
    have e3 := h1 3 i (by omega)
    have e4 := h1 4 i (by omega)
    have e5 := h1 5 i (by omega)
    have e06 := h1 0 6 (by omega)
    refine z_iload_n dX7_load_26 rfl ?_
    refine z_iload_n dX7_load_27 rfl ?_
    refine z_icmp_ge (tgt := 148) dX7_load_28 (by decide) (fun c1 => ?_) (fun c1 => ?_)
    · refine z_aload_nr dX7_load_148 rfl ?_
      refine z_getr (b := 20) fl_X7_33 rfl (by decide) rf_0_3 rfl dX7_load_149 ?_
      refine z_iconst dX7_load_152 ⟨by decide, by decide⟩ ?_
      refine z_iconst dX7_load_153 ⟨by decide, by decide⟩ ?_
      refine z_iconst dX7_load_154 ⟨by decide, by decide⟩ ?_
      refine z_callVv (n2 := 93) (A_X1_leaveOut l g M1 (-1) (-1) (-1)) cb_X1_leaveOut cl_X7_270 (clr0 rfl rfl (by decide) (by decide)) rfl (by decide) ⟨_, rfl, rfl⟩ rfl (by decide) rfl (Nat.le_of_ble_eq_true rfl) rfl dX7_load_155 (fun Mz2 kMz2 hc2 => ?_)
      have hlo := hc2
      refine z_vret rfl (by decide) rfl (Nat.sub_self _) dX7_load_158 ?_
      have hLD : LD M 51 kw M1 := by
        refine ⟨fun b j q => h1 b j (by omega), ⟨by omega, fun t t0 t1 tin => ?_⟩, h4, fun t t0 t1 => by rw [h2 t t0 t1]; constructor <;> intro q <;> exact ⟨by omega, q.2⟩, fun t t0 t1 => h3 t t0 (by omega)⟩
        obtain ⟨q1, q2⟩ := (h2 t t0 t1).mp tin
        obtain ⟨a1, a2, a3, a4, a5⟩ := h3 t t0 q1 q2
        have hn := tel_nodes (hT.2.1 t t0 (by omega))
        have hb := lowX_b hT (i := t) t0 (by omega)
        rw [a2, a3, a4, a5]
        exact ⟨hn.1, hn.2.1, hn.2.2, hb.1, hb.2.1, hb.2.2.1, hb.2.2.2⟩
      rw [← hkn]
      exact ⟨LD_off hLD (fun b j q => hlo.1 b j (by omega) (by omega)) (fun b j q => hlo.1 b j (by omega) (by omega)) (hlo.1 20 8 (by decide) (by omega)), M1, hlo, hLD⟩
    · refine z_aload_nr dX7_load_31 rfl ?_
      refine z_getr (b := 1) fl_X7_10 rfl (by decide) rf_0_0 rfl dX7_load_32 ?_
      refine z_iload_n dX7_load_35 rfl ?_
      refine z_callVip (n2 := 93) (A_X5_isInNet l g M1 i (by omega)) cb_X5_isInNet cl_X7_147 (clr0 rfl rfl (by decide) (by decide)) rfl (by decide) ⟨_, rfl, rfl⟩ rfl (by decide) rfl (Nat.le_of_ble_eq_true rfl) rfl dX7_load_36 (fun x3 bx3 hx3 => ?_)
      have i3 := if01 hx3
      have hxin := hx3
      refine z_if_eq (tgt := 142) dX7_load_39 (by decide) (fun c4 => ?_) (fun c4 => ?_)
      · try have hnotin : ¬ inT M i := by unfold inT; intro hh; rw [if_pos ⟨by omega, by omega⟩] at hxin; omega
        refine z_iinc (loc2 := fun vq => [fr 0, fi k, fi kw, fi vq, fu, fu]) dX7_load_142 rfl (by decide) (by omega) (fun _ => rfl) (fun x5 hx5 => ?_)
        refine z_goto (tgt := 26) dX7_load_145 (by decide) ?_
        have hI : (∀ b j, b < 20 ∨ 27 < b → M1 b j = M b j) ∧ (∀ t, 0 ≤ t → t < 80 → (M1 21 t = 1 ↔ t < x5 ∧ inT M t)) ∧ (∀ t, 0 ≤ t → t < x5 → inT M t → M1 22 t = M 3 t ∧ M1 23 t = frT M t ∧ M1 24 t = toT M t ∧ M1 25 t = lowX M 51 t ∧ M1 26 t = highX M 51 t) ∧ M1 20 8 = 0 := by
          first
          | (have hni : ¬ inT M i := hnotin
             refine ⟨h1, fun t t0 t1 => ?_, fun t t0 t1 tt => ?_, h4⟩
             · rw [h2 t t0 t1]
               by_cases e : t = i
               · subst e; constructor <;> intro q <;> exact absurd q.2 hni
               · constructor <;> intro q <;> exact ⟨by omega, q.2⟩
             · by_cases e : t = i
               · subst e; exact absurd tt hni
               · exact h3 t t0 (by omega) tt)
          | (rw [hx5]; exact hnew)
        
        exact ih26 _ (by omega) x5 M1 rfl (by omega) (hI.1) (hI.2.1) (hI.2.2.1) (hI.2.2.2)
      · have hTi := hT.2.1 i (by omega) (by omega)
        unfold TelX TelOk at hTi
        have hisin : inT M i := by unfold inT; by_cases hh : M1 11 i = 0 ∧ M1 10 i = 0; exact ⟨by omega, by omega⟩; (rw [if_neg hh] at hxin; omega)
        refine z_aload_nr dX7_load_42 rfl ?_
        refine z_getr (b := 1) fl_X7_10 rfl (by decide) rf_0_0 rfl dX7_load_43 ?_
        refine z_getr (b := 2) fl_X7_135 rfl (by decide) rf_1_0 rfl dX7_load_46 ?_
        refine z_iload_n dX7_load_49 rfl ?_
        refine z_iald rfl (by decide) (by omega) (by omega) dX7_load_50 (fun x6 hx6 bx6 => ?_)
        refine z_iconst dX7_load_51 ⟨by decide, by decide⟩ ?_
        refine z_icmp_ne (tgt := 60) dX7_load_52 (by decide) (fun c7 => ?_) (fun c7 => ?_)
        · refine z_bipush dX7_load_60 ⟨by decide, by decide⟩ (by decide) ?_
          refine z_aload_nr dX7_load_62 rfl ?_
          refine z_getr (b := 1) fl_X7_10 rfl (by decide) rf_0_0 rfl dX7_load_63 ?_
          refine z_getr (b := 4) fl_X7_141 rfl (by decide) rf_1_2 rfl dX7_load_66 ?_
          refine z_iload_n dX7_load_69 rfl ?_
          refine z_iald rfl (by decide) (by omega) (by omega) dX7_load_70 (fun x8 hx8 bx8 => ?_)
          first | refine z_iaddN dX7_load_71 (by omega) (fun x9 hx9 => ?_) | refine z_iadd dX7_load_71 (fun x9 hx9 => ?_)
          refine z_istore (loc2 := [fr 0, fi k, fi kw, fi i, fi x9, fu]) dX7_load_72 (by decide) rfl ?_
          refine z_aload_nr dX7_load_74 rfl ?_
          refine z_getr (b := 1) fl_X7_10 rfl (by decide) rf_0_0 rfl dX7_load_75 ?_
          refine z_getr (b := 2) fl_X7_135 rfl (by decide) rf_1_0 rfl dX7_load_78 ?_
          refine z_iload_n dX7_load_81 rfl ?_
          refine z_iald rfl (by decide) (by omega) (by omega) dX7_load_82 (fun x10 hx10 bx10 => ?_)
          refine z_iconst dX7_load_83 ⟨by decide, by decide⟩ ?_
          refine z_icmp_ne (tgt := 92) dX7_load_84 (by decide) (fun c11 => ?_) (fun c11 => ?_)
          · refine z_aload_nr dX7_load_92 rfl ?_
            refine z_getr (b := 1) fl_X7_10 rfl (by decide) rf_0_0 rfl dX7_load_93 ?_
            refine z_getr (b := 5) fl_X7_144 rfl (by decide) rf_1_3 rfl dX7_load_96 ?_
            refine z_iload_n dX7_load_99 rfl ?_
            refine z_iald rfl (by decide) (by omega) (by omega) dX7_load_100 (fun x12 hx12 bx12 => ?_)
            refine z_istore (loc2 := [fr 0, fi k, fi kw, fi i, fi x9, fi x12]) dX7_load_101 (by decide) rfl ?_
            refine z_aload_nr dX7_load_103 rfl ?_
            refine z_getr (b := 20) fl_X7_33 rfl (by decide) rf_0_3 rfl dX7_load_104 ?_
            refine z_iload_n dX7_load_107 rfl ?_
            refine z_aload_nr dX7_load_108 rfl ?_
            refine z_getr (b := 1) fl_X7_10 rfl (by decide) rf_0_0 rfl dX7_load_109 ?_
            refine z_getr (b := 3) fl_X7_138 rfl (by decide) rf_1_1 rfl dX7_load_112 ?_
            refine z_iload_n dX7_load_115 rfl ?_
            refine z_iald rfl (by decide) (by omega) (by omega) dX7_load_116 (fun x13 hx13 bx13 => ?_)
            refine z_iload dX7_load_117 rfl ?_
            refine z_iload dX7_load_119 rfl ?_
            refine z_callVv (n2 := 93) (A_X1_tie l g M1 i x13 x9 x12 (by omega)) cb_X1_tie cl_X7_366 (clr0 rfl rfl (by decide) (by decide)) rfl (by decide) ⟨_, rfl, rfl⟩ rfl (by decide) rfl (Nat.le_of_ble_eq_true rfl) rfl dX7_load_121 (fun Mz14 kMz14 hc14 => ?_)
            have ho : ∀ b j, b < 20 ∨ 33 < b → Mz14 b j = M b j := by intro b j q; rw [hc14, st_cell (by omega), st_cell (by omega), st_cell (by omega), st_cell (by omega)]; exact h1 b j (by omega)
            have htie := hc14
            refine z_aload_nr dX7_load_124 rfl ?_
            refine z_getr (b := 20) fl_X7_33 rfl (by decide) rf_0_3 rfl dX7_load_125 ?_
            refine z_iload_n dX7_load_128 rfl ?_
            refine z_aload_nr dX7_load_129 rfl ?_
            refine z_iload_n dX7_load_130 rfl ?_
            refine z_callVip (n2 := 93) (A_X7_lowOf51 l g Mz14 i (by omega) (TelX_off ho (hT.2.1 i (by omega) (by omega))) ((ho 0 6 (by omega)).trans hT.2.2.1) (RedX_off ho hT.2.2.2.1) (RulX_off ho (by decide) hT.2.2.2.2)) cb_X7_lowOf cl_X7_150 (clr0 rfl rfl (by decide) (by decide)) rfl (by decide) ⟨_, rfl, rfl⟩ rfl (by decide) rfl (Nat.le_of_ble_eq_true rfl) rfl dX7_load_131 (fun x15 bx15 hx15 => ?_)
            have hlo : x15 = lowX M 51 i := hx15.1.trans (lowX_off ho (by decide) i).1
            refine z_aload_nr dX7_load_134 rfl ?_
            refine z_iload_n dX7_load_135 rfl ?_
            refine z_callVip (n2 := 93) (A_X7_highOf51 l g Mz14 i (by omega) (TelX_off ho (hT.2.1 i (by omega) (by omega))) ((ho 0 6 (by omega)).trans hT.2.2.1) (RedX_off ho hT.2.2.2.1) (RulX_off ho (by decide) hT.2.2.2.2)) cb_X7_highOf cl_X7_154 (clr0 rfl rfl (by decide) (by decide)) rfl (by decide) ⟨_, rfl, rfl⟩ rfl (by decide) rfl (Nat.le_of_ble_eq_true rfl) rfl dX7_load_136 (fun x16 bx16 hx16 => ?_)
            have hhi : x16 = highX M 51 i := hx16.1.trans (lowX_off ho (by decide) i).2
            refine z_callVv (n2 := 93) (A_X1_span l g Mz14 i x15 x16 (by omega)) cb_X1_span cl_X7_370 (clr0 rfl rfl (by decide) (by decide)) rfl (by decide) ⟨_, rfl, rfl⟩ rfl (by decide) rfl (Nat.le_of_ble_eq_true rfl) rfl dX7_load_139 (fun Mz17 kMz17 hc17 => ?_)
            have hnew : (∀ b j, b < 20 ∨ 27 < b → Mz17 b j = M b j) ∧ (∀ t, 0 ≤ t → t < 80 → (Mz17 21 t = 1 ↔ t < i + 1 ∧ inT M t)) ∧ (∀ t, 0 ≤ t → t < i + 1 → inT M t → Mz17 22 t = M 3 t ∧ Mz17 23 t = frT M t ∧ Mz17 24 t = toT M t ∧ Mz17 25 t = lowX M 51 t ∧ Mz17 26 t = highX M 51 t) ∧ Mz17 20 8 = 0 := by
              have hin : inT M i := hisin
              have hf : x9 = frT M i := by unfold frT; first | (rw [if_pos (by omega)]) | (rw [if_neg (by omega)]; omega)
              have ht : x12 = toT M i := by unfold toT; first | (rw [if_pos (by omega)]) | (rw [if_neg (by omega)]; omega)
              rw [hc17, htie]
              refine ⟨fun b j q => by rw [st_cell (by omega), st_cell (by omega), st_cell (by omega), st_cell (by omega), st_cell (by omega), st_cell (by omega)]; exact h1 b j q, fun t t0 t1 => ?_, fun t t0 t1 tt => ?_, by simp [st, h4]⟩
              · by_cases e : t = i
                · subst e; simp [st, hin]; omega
                · simp only [st, e, and_false, if_false]
                  rw [h2 t t0 t1]
                  constructor <;> intro q <;> exact ⟨by omega, q.2⟩
              · by_cases e : t = i
                · subst e
                  simp [st]
                  refine ⟨?_, hf, ht, hlo, hhi⟩
                  omega
                · simp only [st, e, and_false, if_false]
                  exact h3 t t0 (by omega) tt
            try have hnotin : ¬ inT M i := by unfold inT; intro hh; rw [if_pos ⟨by omega, by omega⟩] at hxin; omega
            refine z_iinc (loc2 := fun vq => [fr 0, fi k, fi kw, fi vq, fi x9, fi x12]) dX7_load_142 rfl (by decide) (by omega) (fun _ => rfl) (fun x18 hx18 => ?_)
            refine z_goto (tgt := 26) dX7_load_145 (by decide) ?_
            have hI : (∀ b j, b < 20 ∨ 27 < b → Mz17 b j = M b j) ∧ (∀ t, 0 ≤ t → t < 80 → (Mz17 21 t = 1 ↔ t < x18 ∧ inT M t)) ∧ (∀ t, 0 ≤ t → t < x18 → inT M t → Mz17 22 t = M 3 t ∧ Mz17 23 t = frT M t ∧ Mz17 24 t = toT M t ∧ Mz17 25 t = lowX M 51 t ∧ Mz17 26 t = highX M 51 t) ∧ Mz17 20 8 = 0 := by
              first
              | (have hni : ¬ inT M i := hnotin
                 refine ⟨h1, fun t t0 t1 => ?_, fun t t0 t1 tt => ?_, h4⟩
                 · rw [h2 t t0 t1]
                   by_cases e : t = i
                   · subst e; constructor <;> intro q <;> exact absurd q.2 hni
                   · constructor <;> intro q <;> exact ⟨by omega, q.2⟩
                 · by_cases e : t = i
                   · subst e; exact absurd tt hni
                   · exact h3 t t0 (by omega) tt)
              | (rw [hx18]; exact hnew)
            
            refine z_few [fr 0, fi k, fi kw, fi x18, fu, fu] (by simp [fle, kn]) ?_
            exact ih26 _ (by omega) x18 Mz17 rfl (by omega) (hI.1) (hI.2.1) (hI.2.2.1) (hI.2.2.2)
          · refine z_bipush dX7_load_87 ⟨by decide, by decide⟩ (by decide) ?_
            refine z_goto (tgt := 101) dX7_load_89 (by decide) ?_
            refine z_istore (loc2 := [fr 0, fi k, fi kw, fi i, fi x9, fi 16]) dX7_load_101 (by decide) rfl ?_
            refine z_aload_nr dX7_load_103 rfl ?_
            refine z_getr (b := 20) fl_X7_33 rfl (by decide) rf_0_3 rfl dX7_load_104 ?_
            refine z_iload_n dX7_load_107 rfl ?_
            refine z_aload_nr dX7_load_108 rfl ?_
            refine z_getr (b := 1) fl_X7_10 rfl (by decide) rf_0_0 rfl dX7_load_109 ?_
            refine z_getr (b := 3) fl_X7_138 rfl (by decide) rf_1_1 rfl dX7_load_112 ?_
            refine z_iload_n dX7_load_115 rfl ?_
            refine z_iald rfl (by decide) (by omega) (by omega) dX7_load_116 (fun x19 hx19 bx19 => ?_)
            refine z_iload dX7_load_117 rfl ?_
            refine z_iload dX7_load_119 rfl ?_
            refine z_callVv (n2 := 93) (A_X1_tie l g M1 i x19 x9 16 (by omega)) cb_X1_tie cl_X7_366 (clr0 rfl rfl (by decide) (by decide)) rfl (by decide) ⟨_, rfl, rfl⟩ rfl (by decide) rfl (Nat.le_of_ble_eq_true rfl) rfl dX7_load_121 (fun Mz20 kMz20 hc20 => ?_)
            have ho : ∀ b j, b < 20 ∨ 33 < b → Mz20 b j = M b j := by intro b j q; rw [hc20, st_cell (by omega), st_cell (by omega), st_cell (by omega), st_cell (by omega)]; exact h1 b j (by omega)
            have htie := hc20
            refine z_aload_nr dX7_load_124 rfl ?_
            refine z_getr (b := 20) fl_X7_33 rfl (by decide) rf_0_3 rfl dX7_load_125 ?_
            refine z_iload_n dX7_load_128 rfl ?_
            refine z_aload_nr dX7_load_129 rfl ?_
            refine z_iload_n dX7_load_130 rfl ?_
            refine z_callVip (n2 := 93) (A_X7_lowOf51 l g Mz20 i (by omega) (TelX_off ho (hT.2.1 i (by omega) (by omega))) ((ho 0 6 (by omega)).trans hT.2.2.1) (RedX_off ho hT.2.2.2.1) (RulX_off ho (by decide) hT.2.2.2.2)) cb_X7_lowOf cl_X7_150 (clr0 rfl rfl (by decide) (by decide)) rfl (by decide) ⟨_, rfl, rfl⟩ rfl (by decide) rfl (Nat.le_of_ble_eq_true rfl) rfl dX7_load_131 (fun x21 bx21 hx21 => ?_)
            have hlo : x21 = lowX M 51 i := hx21.1.trans (lowX_off ho (by decide) i).1
            refine z_aload_nr dX7_load_134 rfl ?_
            refine z_iload_n dX7_load_135 rfl ?_
            refine z_callVip (n2 := 93) (A_X7_highOf51 l g Mz20 i (by omega) (TelX_off ho (hT.2.1 i (by omega) (by omega))) ((ho 0 6 (by omega)).trans hT.2.2.1) (RedX_off ho hT.2.2.2.1) (RulX_off ho (by decide) hT.2.2.2.2)) cb_X7_highOf cl_X7_154 (clr0 rfl rfl (by decide) (by decide)) rfl (by decide) ⟨_, rfl, rfl⟩ rfl (by decide) rfl (Nat.le_of_ble_eq_true rfl) rfl dX7_load_136 (fun x22 bx22 hx22 => ?_)
            have hhi : x22 = highX M 51 i := hx22.1.trans (lowX_off ho (by decide) i).2
            refine z_callVv (n2 := 93) (A_X1_span l g Mz20 i x21 x22 (by omega)) cb_X1_span cl_X7_370 (clr0 rfl rfl (by decide) (by decide)) rfl (by decide) ⟨_, rfl, rfl⟩ rfl (by decide) rfl (Nat.le_of_ble_eq_true rfl) rfl dX7_load_139 (fun Mz23 kMz23 hc23 => ?_)
            have hnew : (∀ b j, b < 20 ∨ 27 < b → Mz23 b j = M b j) ∧ (∀ t, 0 ≤ t → t < 80 → (Mz23 21 t = 1 ↔ t < i + 1 ∧ inT M t)) ∧ (∀ t, 0 ≤ t → t < i + 1 → inT M t → Mz23 22 t = M 3 t ∧ Mz23 23 t = frT M t ∧ Mz23 24 t = toT M t ∧ Mz23 25 t = lowX M 51 t ∧ Mz23 26 t = highX M 51 t) ∧ Mz23 20 8 = 0 := by
              have hin : inT M i := hisin
              have hf : x9 = frT M i := by unfold frT; first | (rw [if_pos (by omega)]) | (rw [if_neg (by omega)]; omega)
              have ht : 16 = toT M i := by unfold toT; first | (rw [if_pos (by omega)]) | (rw [if_neg (by omega)]; omega)
              rw [hc23, htie]
              refine ⟨fun b j q => by rw [st_cell (by omega), st_cell (by omega), st_cell (by omega), st_cell (by omega), st_cell (by omega), st_cell (by omega)]; exact h1 b j q, fun t t0 t1 => ?_, fun t t0 t1 tt => ?_, by simp [st, h4]⟩
              · by_cases e : t = i
                · subst e; simp [st, hin]; omega
                · simp only [st, e, and_false, if_false]
                  rw [h2 t t0 t1]
                  constructor <;> intro q <;> exact ⟨by omega, q.2⟩
              · by_cases e : t = i
                · subst e
                  simp [st]
                  refine ⟨?_, hf, ht, hlo, hhi⟩
                  omega
                · simp only [st, e, and_false, if_false]
                  exact h3 t t0 (by omega) tt
            try have hnotin : ¬ inT M i := by unfold inT; intro hh; rw [if_pos ⟨by omega, by omega⟩] at hxin; omega
            refine z_iinc (loc2 := fun vq => [fr 0, fi k, fi kw, fi vq, fi x9, fi 16]) dX7_load_142 rfl (by decide) (by omega) (fun _ => rfl) (fun x24 hx24 => ?_)
            refine z_goto (tgt := 26) dX7_load_145 (by decide) ?_
            have hI : (∀ b j, b < 20 ∨ 27 < b → Mz23 b j = M b j) ∧ (∀ t, 0 ≤ t → t < 80 → (Mz23 21 t = 1 ↔ t < x24 ∧ inT M t)) ∧ (∀ t, 0 ≤ t → t < x24 → inT M t → Mz23 22 t = M 3 t ∧ Mz23 23 t = frT M t ∧ Mz23 24 t = toT M t ∧ Mz23 25 t = lowX M 51 t ∧ Mz23 26 t = highX M 51 t) ∧ Mz23 20 8 = 0 := by
              first
              | (have hni : ¬ inT M i := hnotin
                 refine ⟨h1, fun t t0 t1 => ?_, fun t t0 t1 tt => ?_, h4⟩
                 · rw [h2 t t0 t1]
                   by_cases e : t = i
                   · subst e; constructor <;> intro q <;> exact absurd q.2 hni
                   · constructor <;> intro q <;> exact ⟨by omega, q.2⟩
                 · by_cases e : t = i
                   · subst e; exact absurd tt hni
                   · exact h3 t t0 (by omega) tt)
              | (rw [hx24]; exact hnew)
            
            refine z_few [fr 0, fi k, fi kw, fi x24, fu, fu] (by simp [fle, kn]) ?_
            exact ih26 _ (by omega) x24 Mz23 rfl (by omega) (hI.1) (hI.2.1) (hI.2.2.1) (hI.2.2.2)
        · refine z_bipush dX7_load_55 ⟨by decide, by decide⟩ (by decide) ?_
          refine z_goto (tgt := 72) dX7_load_57 (by decide) ?_
          refine z_istore (loc2 := [fr 0, fi k, fi kw, fi i, fi 16, fu]) dX7_load_72 (by decide) rfl ?_
          refine z_aload_nr dX7_load_74 rfl ?_
          refine z_getr (b := 1) fl_X7_10 rfl (by decide) rf_0_0 rfl dX7_load_75 ?_
          refine z_getr (b := 2) fl_X7_135 rfl (by decide) rf_1_0 rfl dX7_load_78 ?_
          refine z_iload_n dX7_load_81 rfl ?_
          refine z_iald rfl (by decide) (by omega) (by omega) dX7_load_82 (fun x25 hx25 bx25 => ?_)
          refine z_iconst dX7_load_83 ⟨by decide, by decide⟩ ?_
          refine z_icmp_ne (tgt := 92) dX7_load_84 (by decide) (fun c26 => ?_) (fun c26 => ?_)
          · refine z_aload_nr dX7_load_92 rfl ?_
            refine z_getr (b := 1) fl_X7_10 rfl (by decide) rf_0_0 rfl dX7_load_93 ?_
            refine z_getr (b := 5) fl_X7_144 rfl (by decide) rf_1_3 rfl dX7_load_96 ?_
            refine z_iload_n dX7_load_99 rfl ?_
            refine z_iald rfl (by decide) (by omega) (by omega) dX7_load_100 (fun x27 hx27 bx27 => ?_)
            refine z_istore (loc2 := [fr 0, fi k, fi kw, fi i, fi 16, fi x27]) dX7_load_101 (by decide) rfl ?_
            refine z_aload_nr dX7_load_103 rfl ?_
            refine z_getr (b := 20) fl_X7_33 rfl (by decide) rf_0_3 rfl dX7_load_104 ?_
            refine z_iload_n dX7_load_107 rfl ?_
            refine z_aload_nr dX7_load_108 rfl ?_
            refine z_getr (b := 1) fl_X7_10 rfl (by decide) rf_0_0 rfl dX7_load_109 ?_
            refine z_getr (b := 3) fl_X7_138 rfl (by decide) rf_1_1 rfl dX7_load_112 ?_
            refine z_iload_n dX7_load_115 rfl ?_
            refine z_iald rfl (by decide) (by omega) (by omega) dX7_load_116 (fun x28 hx28 bx28 => ?_)
            refine z_iload dX7_load_117 rfl ?_
            refine z_iload dX7_load_119 rfl ?_
            refine z_callVv (n2 := 93) (A_X1_tie l g M1 i x28 16 x27 (by omega)) cb_X1_tie cl_X7_366 (clr0 rfl rfl (by decide) (by decide)) rfl (by decide) ⟨_, rfl, rfl⟩ rfl (by decide) rfl (Nat.le_of_ble_eq_true rfl) rfl dX7_load_121 (fun Mz29 kMz29 hc29 => ?_)
            have ho : ∀ b j, b < 20 ∨ 33 < b → Mz29 b j = M b j := by intro b j q; rw [hc29, st_cell (by omega), st_cell (by omega), st_cell (by omega), st_cell (by omega)]; exact h1 b j (by omega)
            have htie := hc29
            refine z_aload_nr dX7_load_124 rfl ?_
            refine z_getr (b := 20) fl_X7_33 rfl (by decide) rf_0_3 rfl dX7_load_125 ?_
            refine z_iload_n dX7_load_128 rfl ?_
            refine z_aload_nr dX7_load_129 rfl ?_
            refine z_iload_n dX7_load_130 rfl ?_
            refine z_callVip (n2 := 93) (A_X7_lowOf51 l g Mz29 i (by omega) (TelX_off ho (hT.2.1 i (by omega) (by omega))) ((ho 0 6 (by omega)).trans hT.2.2.1) (RedX_off ho hT.2.2.2.1) (RulX_off ho (by decide) hT.2.2.2.2)) cb_X7_lowOf cl_X7_150 (clr0 rfl rfl (by decide) (by decide)) rfl (by decide) ⟨_, rfl, rfl⟩ rfl (by decide) rfl (Nat.le_of_ble_eq_true rfl) rfl dX7_load_131 (fun x30 bx30 hx30 => ?_)
            have hlo : x30 = lowX M 51 i := hx30.1.trans (lowX_off ho (by decide) i).1
            refine z_aload_nr dX7_load_134 rfl ?_
            refine z_iload_n dX7_load_135 rfl ?_
            refine z_callVip (n2 := 93) (A_X7_highOf51 l g Mz29 i (by omega) (TelX_off ho (hT.2.1 i (by omega) (by omega))) ((ho 0 6 (by omega)).trans hT.2.2.1) (RedX_off ho hT.2.2.2.1) (RulX_off ho (by decide) hT.2.2.2.2)) cb_X7_highOf cl_X7_154 (clr0 rfl rfl (by decide) (by decide)) rfl (by decide) ⟨_, rfl, rfl⟩ rfl (by decide) rfl (Nat.le_of_ble_eq_true rfl) rfl dX7_load_136 (fun x31 bx31 hx31 => ?_)
            have hhi : x31 = highX M 51 i := hx31.1.trans (lowX_off ho (by decide) i).2
            refine z_callVv (n2 := 93) (A_X1_span l g Mz29 i x30 x31 (by omega)) cb_X1_span cl_X7_370 (clr0 rfl rfl (by decide) (by decide)) rfl (by decide) ⟨_, rfl, rfl⟩ rfl (by decide) rfl (Nat.le_of_ble_eq_true rfl) rfl dX7_load_139 (fun Mz32 kMz32 hc32 => ?_)
            have hnew : (∀ b j, b < 20 ∨ 27 < b → Mz32 b j = M b j) ∧ (∀ t, 0 ≤ t → t < 80 → (Mz32 21 t = 1 ↔ t < i + 1 ∧ inT M t)) ∧ (∀ t, 0 ≤ t → t < i + 1 → inT M t → Mz32 22 t = M 3 t ∧ Mz32 23 t = frT M t ∧ Mz32 24 t = toT M t ∧ Mz32 25 t = lowX M 51 t ∧ Mz32 26 t = highX M 51 t) ∧ Mz32 20 8 = 0 := by
              have hin : inT M i := hisin
              have hf : 16 = frT M i := by unfold frT; first | (rw [if_pos (by omega)]) | (rw [if_neg (by omega)]; omega)
              have ht : x27 = toT M i := by unfold toT; first | (rw [if_pos (by omega)]) | (rw [if_neg (by omega)]; omega)
              rw [hc32, htie]
              refine ⟨fun b j q => by rw [st_cell (by omega), st_cell (by omega), st_cell (by omega), st_cell (by omega), st_cell (by omega), st_cell (by omega)]; exact h1 b j q, fun t t0 t1 => ?_, fun t t0 t1 tt => ?_, by simp [st, h4]⟩
              · by_cases e : t = i
                · subst e; simp [st, hin]; omega
                · simp only [st, e, and_false, if_false]
                  rw [h2 t t0 t1]
                  constructor <;> intro q <;> exact ⟨by omega, q.2⟩
              · by_cases e : t = i
                · subst e
                  simp [st]
                  refine ⟨?_, hf, ht, hlo, hhi⟩
                  omega
                · simp only [st, e, and_false, if_false]
                  exact h3 t t0 (by omega) tt
            try have hnotin : ¬ inT M i := by unfold inT; intro hh; rw [if_pos ⟨by omega, by omega⟩] at hxin; omega
            refine z_iinc (loc2 := fun vq => [fr 0, fi k, fi kw, fi vq, fi 16, fi x27]) dX7_load_142 rfl (by decide) (by omega) (fun _ => rfl) (fun x33 hx33 => ?_)
            refine z_goto (tgt := 26) dX7_load_145 (by decide) ?_
            have hI : (∀ b j, b < 20 ∨ 27 < b → Mz32 b j = M b j) ∧ (∀ t, 0 ≤ t → t < 80 → (Mz32 21 t = 1 ↔ t < x33 ∧ inT M t)) ∧ (∀ t, 0 ≤ t → t < x33 → inT M t → Mz32 22 t = M 3 t ∧ Mz32 23 t = frT M t ∧ Mz32 24 t = toT M t ∧ Mz32 25 t = lowX M 51 t ∧ Mz32 26 t = highX M 51 t) ∧ Mz32 20 8 = 0 := by
              first
              | (have hni : ¬ inT M i := hnotin
                 refine ⟨h1, fun t t0 t1 => ?_, fun t t0 t1 tt => ?_, h4⟩
                 · rw [h2 t t0 t1]
                   by_cases e : t = i
                   · subst e; constructor <;> intro q <;> exact absurd q.2 hni
                   · constructor <;> intro q <;> exact ⟨by omega, q.2⟩
                 · by_cases e : t = i
                   · subst e; exact absurd tt hni
                   · exact h3 t t0 (by omega) tt)
              | (rw [hx33]; exact hnew)
            
            refine z_few [fr 0, fi k, fi kw, fi x33, fu, fu] (by simp [fle, kn]) ?_
            exact ih26 _ (by omega) x33 Mz32 rfl (by omega) (hI.1) (hI.2.1) (hI.2.2.1) (hI.2.2.2)
          · refine z_bipush dX7_load_87 ⟨by decide, by decide⟩ (by decide) ?_
            refine z_goto (tgt := 101) dX7_load_89 (by decide) ?_
            refine z_istore (loc2 := [fr 0, fi k, fi kw, fi i, fi 16, fi 16]) dX7_load_101 (by decide) rfl ?_
            refine z_aload_nr dX7_load_103 rfl ?_
            refine z_getr (b := 20) fl_X7_33 rfl (by decide) rf_0_3 rfl dX7_load_104 ?_
            refine z_iload_n dX7_load_107 rfl ?_
            refine z_aload_nr dX7_load_108 rfl ?_
            refine z_getr (b := 1) fl_X7_10 rfl (by decide) rf_0_0 rfl dX7_load_109 ?_
            refine z_getr (b := 3) fl_X7_138 rfl (by decide) rf_1_1 rfl dX7_load_112 ?_
            refine z_iload_n dX7_load_115 rfl ?_
            refine z_iald rfl (by decide) (by omega) (by omega) dX7_load_116 (fun x34 hx34 bx34 => ?_)
            refine z_iload dX7_load_117 rfl ?_
            refine z_iload dX7_load_119 rfl ?_
            refine z_callVv (n2 := 93) (A_X1_tie l g M1 i x34 16 16 (by omega)) cb_X1_tie cl_X7_366 (clr0 rfl rfl (by decide) (by decide)) rfl (by decide) ⟨_, rfl, rfl⟩ rfl (by decide) rfl (Nat.le_of_ble_eq_true rfl) rfl dX7_load_121 (fun Mz35 kMz35 hc35 => ?_)
            have ho : ∀ b j, b < 20 ∨ 33 < b → Mz35 b j = M b j := by intro b j q; rw [hc35, st_cell (by omega), st_cell (by omega), st_cell (by omega), st_cell (by omega)]; exact h1 b j (by omega)
            have htie := hc35
            refine z_aload_nr dX7_load_124 rfl ?_
            refine z_getr (b := 20) fl_X7_33 rfl (by decide) rf_0_3 rfl dX7_load_125 ?_
            refine z_iload_n dX7_load_128 rfl ?_
            refine z_aload_nr dX7_load_129 rfl ?_
            refine z_iload_n dX7_load_130 rfl ?_
            refine z_callVip (n2 := 93) (A_X7_lowOf51 l g Mz35 i (by omega) (TelX_off ho (hT.2.1 i (by omega) (by omega))) ((ho 0 6 (by omega)).trans hT.2.2.1) (RedX_off ho hT.2.2.2.1) (RulX_off ho (by decide) hT.2.2.2.2)) cb_X7_lowOf cl_X7_150 (clr0 rfl rfl (by decide) (by decide)) rfl (by decide) ⟨_, rfl, rfl⟩ rfl (by decide) rfl (Nat.le_of_ble_eq_true rfl) rfl dX7_load_131 (fun x36 bx36 hx36 => ?_)
            have hlo : x36 = lowX M 51 i := hx36.1.trans (lowX_off ho (by decide) i).1
            refine z_aload_nr dX7_load_134 rfl ?_
            refine z_iload_n dX7_load_135 rfl ?_
            refine z_callVip (n2 := 93) (A_X7_highOf51 l g Mz35 i (by omega) (TelX_off ho (hT.2.1 i (by omega) (by omega))) ((ho 0 6 (by omega)).trans hT.2.2.1) (RedX_off ho hT.2.2.2.1) (RulX_off ho (by decide) hT.2.2.2.2)) cb_X7_highOf cl_X7_154 (clr0 rfl rfl (by decide) (by decide)) rfl (by decide) ⟨_, rfl, rfl⟩ rfl (by decide) rfl (Nat.le_of_ble_eq_true rfl) rfl dX7_load_136 (fun x37 bx37 hx37 => ?_)
            have hhi : x37 = highX M 51 i := hx37.1.trans (lowX_off ho (by decide) i).2
            refine z_callVv (n2 := 93) (A_X1_span l g Mz35 i x36 x37 (by omega)) cb_X1_span cl_X7_370 (clr0 rfl rfl (by decide) (by decide)) rfl (by decide) ⟨_, rfl, rfl⟩ rfl (by decide) rfl (Nat.le_of_ble_eq_true rfl) rfl dX7_load_139 (fun Mz38 kMz38 hc38 => ?_)
            have hnew : (∀ b j, b < 20 ∨ 27 < b → Mz38 b j = M b j) ∧ (∀ t, 0 ≤ t → t < 80 → (Mz38 21 t = 1 ↔ t < i + 1 ∧ inT M t)) ∧ (∀ t, 0 ≤ t → t < i + 1 → inT M t → Mz38 22 t = M 3 t ∧ Mz38 23 t = frT M t ∧ Mz38 24 t = toT M t ∧ Mz38 25 t = lowX M 51 t ∧ Mz38 26 t = highX M 51 t) ∧ Mz38 20 8 = 0 := by
              have hin : inT M i := hisin
              have hf : 16 = frT M i := by unfold frT; first | (rw [if_pos (by omega)]) | (rw [if_neg (by omega)]; omega)
              have ht : 16 = toT M i := by unfold toT; first | (rw [if_pos (by omega)]) | (rw [if_neg (by omega)]; omega)
              rw [hc38, htie]
              refine ⟨fun b j q => by rw [st_cell (by omega), st_cell (by omega), st_cell (by omega), st_cell (by omega), st_cell (by omega), st_cell (by omega)]; exact h1 b j q, fun t t0 t1 => ?_, fun t t0 t1 tt => ?_, by simp [st, h4]⟩
              · by_cases e : t = i
                · subst e; simp [st, hin]; omega
                · simp only [st, e, and_false, if_false]
                  rw [h2 t t0 t1]
                  constructor <;> intro q <;> exact ⟨by omega, q.2⟩
              · by_cases e : t = i
                · subst e
                  simp [st]
                  refine ⟨?_, hf, ht, hlo, hhi⟩
                  omega
                · simp only [st, e, and_false, if_false]
                  exact h3 t t0 (by omega) tt
            try have hnotin : ¬ inT M i := by unfold inT; intro hh; rw [if_pos ⟨by omega, by omega⟩] at hxin; omega
            refine z_iinc (loc2 := fun vq => [fr 0, fi k, fi kw, fi vq, fi 16, fi 16]) dX7_load_142 rfl (by decide) (by omega) (fun _ => rfl) (fun x39 hx39 => ?_)
            refine z_goto (tgt := 26) dX7_load_145 (by decide) ?_
            have hI : (∀ b j, b < 20 ∨ 27 < b → Mz38 b j = M b j) ∧ (∀ t, 0 ≤ t → t < 80 → (Mz38 21 t = 1 ↔ t < x39 ∧ inT M t)) ∧ (∀ t, 0 ≤ t → t < x39 → inT M t → Mz38 22 t = M 3 t ∧ Mz38 23 t = frT M t ∧ Mz38 24 t = toT M t ∧ Mz38 25 t = lowX M 51 t ∧ Mz38 26 t = highX M 51 t) ∧ Mz38 20 8 = 0 := by
              first
              | (have hni : ¬ inT M i := hnotin
                 refine ⟨h1, fun t t0 t1 => ?_, fun t t0 t1 tt => ?_, h4⟩
                 · rw [h2 t t0 t1]
                   by_cases e : t = i
                   · subst e; constructor <;> intro q <;> exact absurd q.2 hni
                   · constructor <;> intro q <;> exact ⟨by omega, q.2⟩
                 · by_cases e : t = i
                   · subst e; exact absurd tt hni
                   · exact h3 t t0 (by omega) tt)
              | (rw [hx39]; exact hnew)
            
            refine z_few [fr 0, fi k, fi kw, fi x39, fu, fu] (by simp [fle, kn]) ?_
            exact ih26 _ (by omega) x39 Mz38 rfl (by omega) (hI.1) (hI.2.1) (hI.2.2.1) (hI.2.2.2)
  refine z_iload_n dX7_load_0 rfl ?_
  refine z_iconst dX7_load_1 ⟨by decide, by decide⟩ ?_
  refine z_icmp_ne (tgt := 15) dX7_load_2 (by decide) (fun c40 => ?_) (fun c40 => ?_)
  · refine z_iload_n dX7_load_15 rfl ?_
    refine z_istore_n (loc2 := [fr 0, fi k, fi k, fu, fu, fu]) dX7_load_16 (by decide) rfl ?_
    refine z_aload_nr dX7_load_17 rfl ?_
    refine z_getr (b := 20) fl_X7_33 rfl (by decide) rf_0_3 rfl dX7_load_18 ?_
    refine z_callVv (n2 := 93) (A_X1_clear l g M ) cb_X1_clear cl_X7_363 (clr0 rfl rfl (by decide) (by decide)) rfl (by decide) ⟨_, rfl, rfl⟩ rfl (by decide) rfl (Nat.le_of_ble_eq_true rfl) rfl dX7_load_21 (fun Mz41 kMz41 hc41 => ?_)
    have hcl := hc41
    refine z_iconst dX7_load_24 ⟨by decide, by decide⟩ ?_
    refine z_istore_n (loc2 := [fr 0, fi k, fi k, fi 0, fu, fu]) dX7_load_25 (by decide) rfl ?_
    obtain rfl : kw = k := by first | (rw [hkn, if_pos (by omega)]; omega) | (rw [hkn, if_neg (by omega)])
    exact lp26 _ 0 Mz41 rfl (by omega) (fun b j q => hcl.1 b j (by omega) (by omega)) (fun t t0 t1 => by rw [hcl.2.1 t t0 t1]; omega) (fun t t0 t1 => by omega) (hcl.2.2)
  · refine z_aload_nr dX7_load_5 rfl ?_
    refine z_getr (b := 1) fl_X7_10 rfl (by decide) rf_0_0 rfl dX7_load_6 ?_
    refine z_geti (kz := 13) fl_X7_157 rfl (by decide) rfl dX7_load_9 (fun x42 hx42 bx42 => ?_)
    refine z_goto (tgt := 16) dX7_load_12 (by decide) ?_
    refine z_istore_n (loc2 := [fr 0, fi k, fi x42, fu, fu, fu]) dX7_load_16 (by decide) rfl ?_
    refine z_aload_nr dX7_load_17 rfl ?_
    refine z_getr (b := 20) fl_X7_33 rfl (by decide) rf_0_3 rfl dX7_load_18 ?_
    refine z_callVv (n2 := 93) (A_X1_clear l g M ) cb_X1_clear cl_X7_363 (clr0 rfl rfl (by decide) (by decide)) rfl (by decide) ⟨_, rfl, rfl⟩ rfl (by decide) rfl (Nat.le_of_ble_eq_true rfl) rfl dX7_load_21 (fun Mz43 kMz43 hc43 => ?_)
    have hcl := hc43
    refine z_iconst dX7_load_24 ⟨by decide, by decide⟩ ?_
    refine z_istore_n (loc2 := [fr 0, fi k, fi x42, fi 0, fu, fu]) dX7_load_25 (by decide) rfl ?_
    obtain rfl : kw = x42 := by first | (rw [hkn, if_pos (by omega)]; omega) | (rw [hkn, if_neg (by omega)])
    exact lp26 _ 0 Mz43 rfl (by omega) (fun b j q => hcl.1 b j (by omega) (by omega)) (fun t t0 t1 => by rw [hcl.2.1 t t0 t1]; omega) (fun t t0 t1 => by omega) (hcl.2.2)
