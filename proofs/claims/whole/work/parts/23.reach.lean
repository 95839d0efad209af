/-! ===== ways, what they say ===== -/
def parX (M : FMem) (v : Int) : Int := if M 23 (M 29 v) = v then M 24 (M 29 v) else M 23 (M 29 v)
theorem RI_par {M0 : FMem} {what : Int} {way0 : Int → Int} {M1 : FMem} {tau pe : Int → Int} {s : Int} (hN : NetOk M0) (h : RI M0 what way0 M1 tau pe s) : Par (EdX M0 what) tau pe (parX M1) := by
  intro v hv
  obtain ⟨h1, h2, h3, -⟩ := h
  obtain ⟨-, u, w, he⟩ := h2.2.2.1 v hv
  have hnv := ((EdX_ok hN what).1 _ _ _ _ he).2.2.2.1
  have hby := (h3 v hnv).2 hv
  refine ⟨w, ?_⟩
  have hpar : parX M1 v = u := by
    unfold parX
    rw [hby, h1 23 _ (by decide) (by decide), h1 24 _ (by decide) (by decide)]
    obtain ⟨p0, p1, he⟩ := he
    have hne := (hN.2.2.2.2 (pe v / 2) (by omega) (by omega)).2.2.2.2.1
    rcases he with ⟨-, e1, e2, -⟩ | ⟨-, e1, e2, -⟩
    · rw [if_neg (fun q => hne (q.trans e2))]; exact e1.symm
    · rw [if_pos e2.symm]; exact e1.symm
  rw [hpar]
  exact he
/-- what moves in the seventeenth round can't hold -/
theorem RI_no {M0 : FMem} {what : Int} {way0 : Int → Int} {M1 : FMem} {tau pe : Int → Int} {s r : Int} (hN : NetOk M0) (h : RI M0 what way0 M1 tau pe s) (hr : 16 * KX M0 ≤ tau r) (x : Int → Int) (hx : Sat (EdX M0 what) x) : False := by
  have hok := EdX_ok hN what
  have hK : 0 < KX M0 := by unfold KX; have := hN.1; omega
  have hp := RI_par hN h
  obtain ⟨hall, q, hq1, hq2, hc⟩ := chain_ring h.2.1 hok hp (chain_late h.2.1 hK hp hr)
  exact chain_no h.2.1 hok hp (m0 := 17) (q := q) (fun m => (hall m).1) hq1 hc (x := x) (fun m _ _ w hw => hx _ _ _ _ hw)
theorem RI_0 {M M1 : FMem} {what : Int} {way0 : Int → Int} (h1 : ∀ b j, b ≠ 28 → b ≠ 29 → M1 b j = M b j) (h2 : ∀ v, nd v → M1 28 v = way0 v ∧ M1 29 v = -1) (h3 : ∀ v, nd v → way0 v = 2000000000 ∨ way0 v = 0) : RI M what way0 M1 (fun _ => -1) (fun _ => 0) 0 := by
  refine ⟨h1, BG_start _ _ _ _ _, fun v hv => ⟨fun _ => (h2 v hv).2, fun h => by dsimp only at h; omega⟩, fun v hv => ?_, fun y hy hy0 v hv hw => ?_, fun v hv => ⟨fun _ => (h2 v hv).1, fun q => ⟨by rw [(h2 v hv).1]; exact q, by rw [(h2 v hv).1]; omega, fun h => by dsimp only at h; omega⟩⟩⟩
  · rw [(h2 v hv).1]; have := h3 v hv; omega
  · rw [(h2 v hv).1] at hw ⊢; exact hy0 v hv hw
/-- the greatest that b lies above a, over a set of rows -/
def MaxD (S : (Int → Int) → Prop) (a b d : Int) : Prop := (∀ x, S x → x b - x a ≤ d) ∧ ∃ x, S x ∧ x b - x a = d
def FreeD (S : (Int → Int) → Prop) (a b : Int) : Prop := ∀ B : Int, ∃ x, S x ∧ x b - x a = B
theorem MaxD_eq {S : (Int → Int) → Prop} {a b d d' : Int} (h : MaxD S a b d) (h' : MaxD S a b d') : d = d' := by
  obtain ⟨h1, x, hx, e⟩ := h
  obtain ⟨h1', x', hx', e'⟩ := h'
  have := h1 x' hx'
  have := h1' x hx
  omega
theorem MaxD_free {S : (Int → Int) → Prop} {a b d : Int} (h : MaxD S a b d) (h' : FreeD S a b) : False := by
  obtain ⟨x, hx, e⟩ := h' (d + 1)
  have := h.1 x hx
  omega
theorem FreeD_sym {S : (Int → Int) → Prop} {a b : Int} (h : FreeD S a b) : FreeD S b a := fun B => by
  obtain ⟨x, hx, e⟩ := h (-B)
  exact ⟨x, hx, by omega⟩
theorem Sat_shift {Ed : EdT} {x : Int → Int} (h : Sat Ed x) (c : Int) : Sat Ed (fun v => x v + c) := fun p a b w he => by have := h p a b w he; simp only; omega
def wayS (src : Int) : Int → Int := fun v => if v = src then 0 else 2000000000
def Quiet (Ed : EdT) (way : Int → Int) : Prop := ∀ p u v w, Ed p u v w → way u ≠ 2000000000 → way v ≠ 2000000000 ∧ way v ≤ way u + w
/-- what reach leaves behind -/
def RF (M : FMem) (what src : Int) (M2 : FMem) : Prop := (∀ b j, b ≠ 28 → b ≠ 29 → M2 b j = M b j) ∧ ∃ tau pe s, RI M what (wayS src) M2 tau pe s ∧ 0 ≤ s ∧ s ≤ 2800 ∧ Quiet (EdX M what) (fun v => M2 28 v)
theorem RF_bound {M M2 : FMem} {what src : Int} (h : RF M what src M2) {v : Int} (hv : nd v) : M2 28 v = 2000000000 ∨ (-1000000000 ≤ M2 28 v ∧ M2 28 v ≤ 1000000000) := by
  obtain ⟨-, tau, pe, s, hR, h0, h1, -⟩ := h
  rcases hR.2.2.2.1 v hv with q | q
  · exact Or.inl q
  · exact Or.inr (by omega)
theorem RF_low {M M2 : FMem} {what src : Int} (h : RF M what src M2) {x : Int → Int} (hx : Sat (EdX M what) x) {v : Int} (hv : nd v) (hw : M2 28 v ≠ 2000000000) : x v - x src ≤ M2 28 v := by
  obtain ⟨-, tau, pe, s, hR, -⟩ := h
  have := hR.2.2.2.2.1 (fun v => x v + (-x src)) (Sat_shift hx _) (fun v _ q => by
    unfold wayS at q ⊢
    split
    · rename_i e; subst e; omega
    · rename_i e; rw [if_neg e] at q; exact absurd rfl q) v hv hw
  omega
theorem RF_src {M M2 : FMem} {what src : Int} (h : RF M what src M2) (hs : nd src) {x : Int → Int} (hx : Sat (EdX M what) x) : M2 28 src = 0 := by
  have h' := h
  obtain ⟨-, tau, pe, s, hR, -⟩ := h'
  have q := (hR.2.2.2.2.2 src hs).2 (by simp [wayS])
  have := RF_low h hx hs q.1
  have := q.2.1
  simp [wayS] at this
  omega
theorem RF_sat {M M2 : FMem} {what src : Int} (h : RF M what src M2) {x : Int → Int} (hx : Sat (EdX M what) x) (c : Int) : Sat (EdX M what) (fun v => if M2 28 v = 2000000000 then x v + c else M2 28 v) := by
  obtain ⟨-, tau, pe, s, -, -, -, hQ⟩ := h
  intro p a b w he
  obtain ⟨p', w', he'⟩ := EdX_sym he
  simp only
  by_cases ha : M2 28 a = 2000000000
  · have hb : M2 28 b = 2000000000 := by
      by_cases hb : M2 28 b = 2000000000
      · exact hb
      · exact absurd ha (hQ _ _ _ _ he' hb).1
    rw [if_pos ha, if_pos hb]
    have := hx _ _ _ _ he
    omega
  · obtain ⟨q1, q2⟩ := hQ _ _ _ _ he ha
    rw [if_neg ha, if_neg q1]
    exact q2
theorem RF_max {M M2 : FMem} {what src : Int} (h : RF M what src M2) (hs : nd src) {x : Int → Int} (hx : Sat (EdX M what) x) {v : Int} (hv : nd v) (hw : M2 28 v ≠ 2000000000) : MaxD (Sat (EdX M what)) src v (M2 28 v) := by
  refine ⟨fun y hy => RF_low h hy hv hw, _, RF_sat h hx 0, ?_⟩
  have := RF_src h hs hx
  simp only [hw, this, if_false]
  omega
theorem RF_free {M M2 : FMem} {what src : Int} (h : RF M what src M2) (hs : nd src) {x : Int → Int} (hx : Sat (EdX M what) x) {v : Int} (hv : nd v) (hw : M2 28 v = 2000000000) : FreeD (Sat (EdX M what)) src v := by
  intro B
  refine ⟨_, RF_sat h hx (B - x v), ?_⟩
  have := RF_src h hs hx
  simp only [hw, this, if_true]
  rw [if_neg (by decide)]
  omega
theorem KX_b {M : FMem} (h : NetOk M) : 2 ≤ KX M ∧ KX M ≤ 162 := by unfold KX; have := h.1; have := h.2.1; omega
theorem rounds_b {K rd : Int} (hK : 2 ≤ K ∧ K ≤ 162) (h : rd ≤ 16) : rd * K + K ≤ 2800 := by
  have := Int.mul_le_mul_of_nonneg_right h (show 0 ≤ K by omega)
  omega
/-! ===== Net: unrest, quarrels, reach ===== -/
set_option maxHeartbeats 400000 in
theorem A_X1_findUnrest (l : Launch) (g : Cx) (M : FMem) (hN : NetOk M) : AMi l g true fi_X1_findUnrest [fr 20] 93 M (fun r M2 => (∀ b j, b ≠ 28 → b ≠ 29 → M2 b j = M b j) ∧ ((r = -1 ∧ Sat (EdX M 1) (fun v => M2 28 v) ∧ ∀ v, nd v → -1000000000 ≤ M2 28 v ∧ M2 28 v ≤ 1000000000) ∨ (nd r ∧ ∃ tau pe, RI M 1 (fun _ => 0) M2 tau pe (17 * KX M) ∧ 16 * KX M ≤ tau r))) := by
  refine AMi_intro [fr 20, fu, fu] (by decide) (knall rfl) (Nat.le_of_ble_eq_true rfl) rfl ?_
  intro hNV hM0 μ
  have lp32 : ∀ (kq : Nat) (mv rd s : Int) (M1 : FMem) (ta pa : Int → Int), (17 - rd).toNat = kq → (0 ≤ rd ∧ rd ≤ 17) → (s = rd * KX M) → (RI M 1 (fun _ => 0) M1 ta pa s) → ((mv = -1 ∧ 1 ≤ rd ∧ ∀ v, ta v < s - KX M) ∨ (nd mv ∧ s - KX M ≤ ta mv)) → Wa l g true fi_X1_findUnrest 93 μ (Zi g true fi_X1_findUnrest 93 μ (fun r M2 => (∀ b j, b ≠ 28 → b ≠ 29 → M2 b j = M b j) ∧ ((r = -1 ∧ Sat (EdX M 1) (fun v => M2 28 v) ∧ ∀ v, nd v → -1000000000 ≤ M2 28 v ∧ M2 28 v ≤ 1000000000) ∨ (nd r ∧ ∃ tau pe, RI M 1 (fun _ => 0) M2 tau pe (17 * KX M) ∧ 16 * KX M ≤ tau r)))) 32 [] [fr 20, fi mv, fi rd] 93 M1 := by
    intro kq
    induction kq using Nat.strongRecOn with
    | _ kq ih32 =>
    intro mv rd s M1 ta pa hk32 h0 hs h1 h2
    have hK := KX_b hN
    have hsp : 0 ≤ s := by rw [hs]; exact Int.mul_nonneg h0.1 (by omega)
    refine z_iload_n dX1_findUnrest_32 rfl ?_
    refine z_bipush dX1_findUnrest_33 ⟨by decide, by decide⟩ (by decide) ?_
    refine z_icmp_ge (tgt := 55) dX1_findUnrest_35 (by decide) (fun c1 => ?_) (fun c1 => ?_)
    · refine z_iload_n dX1_findUnrest_55 rfl ?_
      refine z_iret rfl (by decide) rfl (Nat.sub_self _) dX1_findUnrest_56 ?_
      refine ⟨h1.1, ?_⟩
      have hb : ∀ v, nd v → M1 28 v ≠ 2000000000 := fun v hv => ((h1.2.2.2.2.2 v hv).2 (by simp)).1
      rcases h2 with ⟨q1, q2, q3⟩ | q
      · refine Or.inl ⟨q1, fun p a b w he => ?_, fun v hv => ?_⟩
        · have hok := EdX_ok hN 1
          have hQ := BG_quiet (s0 := s - KX M) (by rw [show s - KX M + KX M = s by omega]; exact h1.2.1) hok (by omega) (by rw [hs, show rd * KX M - KX M = (rd - 1) * KX M by rw [Int.sub_mul, Int.one_mul]]; exact Int.mul_nonneg (by omega) (by omega)) q3
          exact (hQ p a b w he (hb a (hok.1 _ _ _ _ he).2.2.1)).2
        · have := (h1.2.2.2.1 v hv).resolve_left (hb v hv)
          have hm := Int.mul_le_mul_of_nonneg_right h0.2 (show 0 ≤ KX M by omega)
          omega
      · have hrd : rd = 17 := by omega
        subst hrd
        exact Or.inr ⟨q.1, ta, pa, by rw [← hs]; exact h1, by omega⟩
    · refine z_iload_n dX1_findUnrest_38 rfl ?_
      refine z_iconst dX1_findUnrest_39 ⟨by decide, by decide⟩ ?_
      refine z_icmp_eq (tgt := 55) dX1_findUnrest_40 (by decide) (fun c2 => ?_) (fun c2 => ?_)
      · refine z_iload_n dX1_findUnrest_55 rfl ?_
        refine z_iret rfl (by decide) rfl (Nat.sub_self _) dX1_findUnrest_56 ?_
        refine ⟨h1.1, ?_⟩
        have hb : ∀ v, nd v → M1 28 v ≠ 2000000000 := fun v hv => ((h1.2.2.2.2.2 v hv).2 (by simp)).1
        rcases h2 with ⟨q1, q2, q3⟩ | q
        · refine Or.inl ⟨q1, fun p a b w he => ?_, fun v hv => ?_⟩
          · have hok := EdX_ok hN 1
            have hQ := BG_quiet (s0 := s - KX M) (by rw [show s - KX M + KX M = s by omega]; exact h1.2.1) hok (by omega) (by rw [hs, show rd * KX M - KX M = (rd - 1) * KX M by rw [Int.sub_mul, Int.one_mul]]; exact Int.mul_nonneg (by omega) (by omega)) q3
            exact (hQ p a b w he (hb a (hok.1 _ _ _ _ he).2.2.1)).2
          · have := (h1.2.2.2.1 v hv).resolve_left (hb v hv)
            have hm := Int.mul_le_mul_of_nonneg_right h0.2 (show 0 ≤ KX M by omega)
            omega
        · have hrd : rd = 17 := by omega
          subst hrd
          exact Or.inr ⟨q.1, ta, pa, by rw [← hs]; exact h1, by omega⟩
      · refine z_aload_nr dX1_findUnrest_43 rfl ?_
        refine z_iconst dX1_findUnrest_44 ⟨by decide, by decide⟩ ?_
        refine z_callVi (n2 := 93) (A_X1_relaxAll1 l g M1 _ _ _ _ _ (hN) (h1) (⟨hsp, by rw [hs]; exact rounds_b hK (by omega), by rw [hs]; exact Int.mul_emod_left _ _⟩)) cb_X1_relaxAll cl_X1_67 (clr0 rfl rfl (by decide) (by decide)) rfl (by decide) ⟨_, rfl, rfl⟩ rfl (by decide) rfl (Nat.le_of_ble_eq_true rfl) rfl dX1_findUnrest_45 (fun x3 Mz3 bx3 kMz3 hc3 => ?_)
        obtain ⟨ta2, pe2, hR2, hq2⟩ := hc3
        refine z_istore_n (loc2 := [fr 20, fi x3, fi rd]) dX1_findUnrest_48 (by decide) rfl ?_
        refine z_iinc (loc2 := fun vq => [fr 20, fi x3, fi vq]) dX1_findUnrest_49 rfl (by decide) (by omega) (fun _ => rfl) (fun x4 hx4 => ?_)
        refine z_goto (tgt := 32) dX1_findUnrest_52 (by decide) ?_
        exact ih32 _ (by omega) x3 x4 (s + KX M) Mz3 ta2 pe2 rfl (by omega) (by rw [hx4, hs, Int.add_mul, Int.one_mul]) (hR2) (by rw [show s + KX M - KX M = s by omega]; rcases hq2 with q | q; exact Or.inl ⟨q.1, by omega, q.2⟩; exact Or.inr q)
  have lp2 : ∀ (kq : Nat) (i : Int) (M1 : FMem), (17 - i).toNat = kq → (0 ≤ i ∧ i ≤ 17) → (∀ b j, b ≠ 28 → b ≠ 29 → M1 b j = M b j) → (∀ v, 0 ≤ v → v < i → M1 28 v = 0 ∧ M1 29 v = -1) → Wa l g true fi_X1_findUnrest 93 μ (Zi g true fi_X1_findUnrest 93 μ (fun r M2 => (∀ b j, b ≠ 28 → b ≠ 29 → M2 b j = M b j) ∧ ((r = -1 ∧ Sat (EdX M 1) (fun v => M2 28 v) ∧ ∀ v, nd v → -1000000000 ≤ M2 28 v ∧ M2 28 v ≤ 1000000000) ∨ (nd r ∧ ∃ tau pe, RI M 1 (fun _ => 0) M2 tau pe (17 * KX M) ∧ 16 * KX M ≤ tau r)))) 2 [] [fr 20, fi i, fu] 93 M1 := by
    intro kq
    induction kq using Nat.strongRecOn with
    | _ kq ih2 =>
    intro i M1 hk2 h0 h1 h2
    refine z_iload_n dX1_findUnrest_2 rfl ?_
    refine z_bipush dX1_findUnrest_3 ⟨by decide, by decide⟩ (by decide) ?_
    refine z_icmp_ge (tgt := 28) dX1_findUnrest_5 (by decide) (fun c5 => ?_) (fun c5 => ?_)
    · refine z_iconst dX1_findUnrest_28 ⟨by decide, by decide⟩ ?_
      refine z_istore_n (loc2 := [fr 20, fi 0, fu]) dX1_findUnrest_29 (by decide) rfl ?_
      refine z_iconst dX1_findUnrest_30 ⟨by decide, by decide⟩ ?_
      refine z_istore_n (loc2 := [fr 20, fi 0, fi 0]) dX1_findUnrest_31 (by decide) rfl ?_
      exact lp32 _ 0 0 0 M1 (fun _ => -1) (fun _ => 0) rfl (by omega) (by simp) (RI_0 h1 (fun v hv => h2 v hv.1 (by omega)) (fun v _ => Or.inr rfl)) (Or.inr ⟨by omega, by have := KX_b hN; omega⟩)
    · refine z_aload_nr dX1_findUnrest_8 rfl ?_
      refine z_getr (b := 28) fl_X1_41 rfl (by decide) rf_20_9 rfl dX1_findUnrest_9 ?_
      refine z_iload_n dX1_findUnrest_12 rfl ?_
      refine z_iconst dX1_findUnrest_13 ⟨by decide, by decide⟩ ?_
      refine z_iast rfl (by decide) (by omega) (by omega) dX1_findUnrest_14 (fun Mz6 hMz6 => ?_)
      refine z_aload_nr dX1_findUnrest_15 rfl ?_
      refine z_getr (b := 29) fl_X1_44 rfl (by decide) rf_20_10 rfl dX1_findUnrest_16 ?_
      refine z_iload_n dX1_findUnrest_19 rfl ?_
      refine z_iconst dX1_findUnrest_20 ⟨by decide, by decide⟩ ?_
      refine z_iast rfl (by decide) (by omega) (by omega) dX1_findUnrest_21 (fun Mz7 hMz7 => ?_)
      refine z_iinc (loc2 := fun vq => [fr 20, fi vq, fu]) dX1_findUnrest_22 rfl (by decide) (by omega) (fun _ => rfl) (fun x8 hx8 => ?_)
      refine z_goto (tgt := 2) dX1_findUnrest_25 (by decide) ?_
      exact ih2 _ (by omega) x8 Mz7 rfl (by omega) (fun b j q1 q2 => by subst_vars; rw [st_cell q2, st_cell q1]; exact h1 b j q1 q2) (fun v q1 q2 => by subst_vars; by_cases e : v = i; (subst e; simp [st]); (have := h2 v q1 (by omega); simp [st, e, this]))
  refine z_iconst dX1_findUnrest_0 ⟨by decide, by decide⟩ ?_
  refine z_istore_n (loc2 := [fr 20, fi 0, fu]) dX1_findUnrest_1 (by decide) rfl ?_
  exact lp2 _ 0 M rfl (by omega) (fun b j _ _ => rfl) (fun v _ h => by omega)
set_option maxHeartbeats 400000 in
theorem A_X1_quarrels (l : Launch) (g : Cx) (M : FMem) (hN : NetOk M) : AMi l g true fi_X1_quarrels [fr 20] 93 M (fun r M2 => (∀ b j, b ≠ 28 → b ≠ 29 → M2 b j = M b j) ∧ ((r = 0 ∧ ∃ x, Sat (EdX M 1) x ∧ ∀ v, nd v → -1000000000 ≤ x v ∧ x v ≤ 1000000000) ∨ (r = 1 ∧ ∀ x, ¬ Sat (EdX M 1) x))) := by
  refine AMi_intro [fr 20] (by decide) (knall rfl) (Nat.le_of_ble_eq_true rfl) rfl ?_
  intro hNV hM0 μ
  refine z_aload_nr dX1_quarrels_0 rfl ?_
  refine z_callVi (n2 := 93) (A_X1_findUnrest l g M (hN)) cb_X1_findUnrest cl_X1_59 (clr0 rfl rfl (by decide) (by decide)) rfl (by decide) ⟨_, rfl, rfl⟩ rfl (by decide) rfl (Nat.le_of_ble_eq_true rfl) rfl dX1_quarrels_1 (fun x1 Mz1 bx1 kMz1 hc1 => ?_)
  obtain ⟨hof, hq⟩ := hc1
  refine z_iconst dX1_quarrels_4 ⟨by decide, by decide⟩ ?_
  refine z_icmp_eq (tgt := 12) dX1_quarrels_5 (by decide) (fun c2 => ?_) (fun c2 => ?_)
  · refine z_iconst dX1_quarrels_12 ⟨by decide, by decide⟩ ?_
    refine z_zret rfl (by omega) (by decide) rfl (Nat.sub_self _) dX1_quarrels_13 ?_
    refine ⟨hof, Or.inl ⟨rfl, ?_⟩⟩
    rcases hq with q | q
    · exact ⟨_, q.2.1, q.2.2⟩
    · have := q.1; omega
  · refine z_iconst dX1_quarrels_8 ⟨by decide, by decide⟩ ?_
    refine z_goto (tgt := 13) dX1_quarrels_9 (by decide) ?_
    refine z_zret rfl (by omega) (by decide) rfl (Nat.sub_self _) dX1_quarrels_13 ?_
    refine ⟨hof, Or.inr ⟨rfl, fun x hx => ?_⟩⟩
    rcases hq with q | ⟨_, ta, pa, q1, q2⟩
    · omega
    · exact RI_no hN q1 q2 x hx
set_option maxHeartbeats 400000 in
theorem A_X1_reach1 (l : Launch) (g : Cx) (M : FMem) (src : Int) (hs : nd src) (hN : NetOk M) (hx : ∃ x, Sat (EdX M 1) x) : AMv l g true fi_X1_reach [fr 20, fi src, fi 1] 93 M (fun M2 => RF M 1 src M2) := by
  refine AMv_intro [fr 20, fi src, fi 1, fu, fu] (by decide) (knall rfl) (Nat.le_of_ble_eq_true rfl) rfl ?_
  intro hNV hM0 μ
  have bsrc : N32 src := hNV (fi src) (by simp)
  have lp41 : ∀ (kq : Nat) (mv rd s : Int) (M1 : FMem) (ta pa : Int → Int), (17 - rd).toNat = kq → (0 ≤ rd ∧ rd ≤ 17) → (s = rd * KX M) → (RI M 1 (wayS src) M1 ta pa s) → ((mv = -1 ∧ 1 ≤ rd ∧ ∀ v, ta v < s - KX M) ∨ (nd mv ∧ s - KX M ≤ ta mv)) → Wa l g true fi_X1_reach 93 μ (Zv g true fi_X1_reach 93 μ (fun M2 => RF M 1 src M2)) 41 [] [fr 20, fi src, fi 1, fi mv, fi rd] 93 M1 := by
    intro kq
    induction kq using Nat.strongRecOn with
    | _ kq ih41 =>
    intro mv rd s M1 ta pa hk41 h0 hsv h1 h2
    have hK := KX_b hN
    have hsp : 0 ≤ s := by rw [hsv]; exact Int.mul_nonneg h0.1 (by omega)
    refine z_iload dX1_reach_41 rfl ?_
    refine z_bipush dX1_reach_43 ⟨by decide, by decide⟩ (by decide) ?_
    refine z_icmp_ge (tgt := 65) dX1_reach_45 (by decide) (fun c1 => ?_) (fun c1 => ?_)
    · refine z_vret rfl (by decide) rfl (Nat.sub_self _) dX1_reach_65 ?_
      have hm := Int.mul_le_mul_of_nonneg_right h0.2 (show 0 ≤ KX M by omega)
      refine ⟨h1.1, ta, pa, s, h1, hsp, by omega, ?_⟩
      rcases h2 with ⟨q1, q2, q3⟩ | q
      · exact BG_quiet (s0 := s - KX M) (by rw [show s - KX M + KX M = s by omega]; exact h1.2.1) (EdX_ok hN 1) (by omega) (by rw [hsv, show rd * KX M - KX M = (rd - 1) * KX M by rw [Int.sub_mul, Int.one_mul]]; exact Int.mul_nonneg (by omega) (by omega)) q3
      · exfalso
        obtain ⟨x, hx⟩ := hx
        have hrd : rd = 17 := by omega
        subst hrd
        exact RI_no (r := mv) hN h1 (by omega) x hx
    · refine z_iload_n dX1_reach_48 rfl ?_
      refine z_iconst dX1_reach_49 ⟨by decide, by decide⟩ ?_
      refine z_icmp_eq (tgt := 65) dX1_reach_50 (by decide) (fun c2 => ?_) (fun c2 => ?_)
      · refine z_vret rfl (by decide) rfl (Nat.sub_self _) dX1_reach_65 ?_
        have hm := Int.mul_le_mul_of_nonneg_right h0.2 (show 0 ≤ KX M by omega)
        refine ⟨h1.1, ta, pa, s, h1, hsp, by omega, ?_⟩
        rcases h2 with ⟨q1, q2, q3⟩ | q
        · exact BG_quiet (s0 := s - KX M) (by rw [show s - KX M + KX M = s by omega]; exact h1.2.1) (EdX_ok hN 1) (by omega) (by rw [hsv, show rd * KX M - KX M = (rd - 1) * KX M by rw [Int.sub_mul, Int.one_mul]]; exact Int.mul_nonneg (by omega) (by omega)) q3
        · exfalso
          obtain ⟨x, hx⟩ := hx
          have hrd : rd = 17 := by omega
          subst hrd
          exact RI_no (r := mv) hN h1 (by omega) x hx
      · refine z_aload_nr dX1_reach_53 rfl ?_
        refine z_iload_n dX1_reach_54 rfl ?_
        refine z_callVi (n2 := 93) (A_X1_relaxAll1 l g M1 _ _ _ _ _ (hN) (h1) (⟨hsp, by rw [hsv]; exact rounds_b hK (by omega), by rw [hsv]; exact Int.mul_emod_left _ _⟩)) cb_X1_relaxAll cl_X1_67 (clr0 rfl rfl (by decide) (by decide)) rfl (by decide) ⟨_, rfl, rfl⟩ rfl (by decide) rfl (Nat.le_of_ble_eq_true rfl) rfl dX1_reach_55 (fun x3 Mz3 bx3 kMz3 hc3 => ?_)
        obtain ⟨ta2, pe2, hR2, hq2⟩ := hc3
        refine z_istore_n (loc2 := [fr 20, fi src, fi 1, fi x3, fi rd]) dX1_reach_58 (by decide) rfl ?_
        refine z_iinc (loc2 := fun vq => [fr 20, fi src, fi 1, fi x3, fi vq]) dX1_reach_59 rfl (by decide) (by omega) (fun _ => rfl) (fun x4 hx4 => ?_)
        refine z_goto (tgt := 41) dX1_reach_62 (by decide) ?_
        exact ih41 _ (by omega) x3 x4 (s + KX M) Mz3 ta2 pe2 rfl (by omega) (by rw [hx4, hsv, Int.add_mul, Int.one_mul]) (hR2) (by rw [show s + KX M - KX M = s by omega]; rcases hq2 with q | q; exact Or.inl ⟨q.1, by omega, q.2⟩; exact Or.inr q)
  have lp2 : ∀ (kq : Nat) (i : Int) (M1 : FMem), (17 - i).toNat = kq → (0 ≤ i ∧ i ≤ 17) → (∀ b j, b ≠ 28 → b ≠ 29 → M1 b j = M b j) → (∀ v, 0 ≤ v → v < i → M1 28 v = 2000000000 ∧ M1 29 v = -1) → Wa l g true fi_X1_reach 93 μ (Zv g true fi_X1_reach 93 μ (fun M2 => RF M 1 src M2)) 2 [] [fr 20, fi src, fi 1, fi i, fu] 93 M1 := by
    intro kq
    induction kq using Nat.strongRecOn with
    | _ kq ih2 =>
    intro i M1 hk2 h0 h1 h2
    refine z_iload_n dX1_reach_2 rfl ?_
    refine z_bipush dX1_reach_3 ⟨by decide, by decide⟩ (by decide) ?_
    refine z_icmp_ge (tgt := 29) dX1_reach_5 (by decide) (fun c5 => ?_) (fun c5 => ?_)
    · refine z_aload_nr dX1_reach_29 rfl ?_
      refine z_getr (b := 28) fl_X1_41 rfl (by decide) rf_20_9 rfl dX1_reach_30 ?_
      refine z_iload_n dX1_reach_33 rfl ?_
      refine z_iconst dX1_reach_34 ⟨by decide, by decide⟩ ?_
      refine z_iast rfl (by decide) (by omega) (by omega) dX1_reach_35 (fun Mz6 hMz6 => ?_)
      refine z_iload_n dX1_reach_36 rfl ?_
      refine z_istore_n (loc2 := [fr 20, fi src, fi 1, fi src, fu]) dX1_reach_37 (by decide) rfl ?_
      refine z_iconst dX1_reach_38 ⟨by decide, by decide⟩ ?_
      refine z_istore (loc2 := [fr 20, fi src, fi 1, fi src, fi 0]) dX1_reach_39 (by decide) rfl ?_
      have hR0 : RI M 1 (wayS src) Mz6 (fun _ => -1) (fun _ => 0) 0 := RI_0 (fun b j q1 q2 => by rw [hMz6, st_cell q1]; exact h1 b j q1 q2) (fun v hv => by
        have q := h2 v hv.1 (by omega)
        rw [hMz6, st_at, st_cell (by decide)]
        unfold wayS
        split
        · exact ⟨rfl, q.2⟩
        · exact q) (fun v _ => by unfold wayS; split <;> simp)
      exact lp41 _ src 0 0 Mz6 (fun _ => -1) (fun _ => 0) rfl (by omega) (by simp) (hR0) (Or.inr ⟨hs, by have := KX_b hN; omega⟩)
    · refine z_aload_nr dX1_reach_8 rfl ?_
      refine z_getr (b := 28) fl_X1_41 rfl (by decide) rf_20_9 rfl dX1_reach_9 ?_
      refine z_iload_n dX1_reach_12 rfl ?_
      refine z_ldc (c := 2000000000) cn_X1_71 ⟨by decide, by decide⟩ dX1_reach_13 ?_
      refine z_iast rfl (by decide) (by omega) (by omega) dX1_reach_15 (fun Mz7 hMz7 => ?_)
      refine z_aload_nr dX1_reach_16 rfl ?_
      refine z_getr (b := 29) fl_X1_44 rfl (by decide) rf_20_10 rfl dX1_reach_17 ?_
      refine z_iload_n dX1_reach_20 rfl ?_
      refine z_iconst dX1_reach_21 ⟨by decide, by decide⟩ ?_
      refine z_iast rfl (by decide) (by omega) (by omega) dX1_reach_22 (fun Mz8 hMz8 => ?_)
      refine z_iinc (loc2 := fun vq => [fr 20, fi src, fi 1, fi vq, fu]) dX1_reach_23 rfl (by decide) (by omega) (fun _ => rfl) (fun x9 hx9 => ?_)
      refine z_goto (tgt := 2) dX1_reach_26 (by decide) ?_
      exact ih2 _ (by omega) x9 Mz8 rfl (by omega) (fun b j q1 q2 => by subst_vars; rw [st_cell q2, st_cell q1]; exact h1 b j q1 q2) (fun v q1 q2 => by subst_vars; by_cases e : v = i; (subst e; simp [st]); (have := h2 v q1 (by omega); simp [st, e, this]))
  refine z_iconst dX1_reach_0 ⟨by decide, by decide⟩ ?_
  refine z_istore_n (loc2 := [fr 20, fi src, fi 1, fi 0, fu]) dX1_reach_1 (by decide) rfl ?_
  exact lp2 _ 0 M rfl (by omega) (fun b j _ _ => rfl) (fun v _ h => by omega)
set_option maxHeartbeats 400000 in
theorem A_X1_reach0 (l : Launch) (g : Cx) (M : FMem) (src : Int) (hs : nd src) (hN : NetOk M) (hx : ∃ x, Sat (EdX M 0) x) : AMv l g true fi_X1_reach [fr 20, fi src, fi 0] 93 M (fun M2 => RF M 0 src M2) := by
  refine AMv_intro [fr 20, fi src, fi 0, fu, fu] (by decide) (knall rfl) (Nat.le_of_ble_eq_true rfl) rfl ?_
  intro hNV hM0 μ
  have bsrc : N32 src := hNV (fi src) (by simp)
  have lp41 : ∀ (kq : Nat) (mv rd s : Int) (M1 : FMem) (ta pa : Int → Int), (17 - rd).toNat = kq → (0 ≤ rd ∧ rd ≤ 17) → (s = rd * KX M) → (RI M 0 (wayS src) M1 ta pa s) → ((mv = -1 ∧ 1 ≤ rd ∧ ∀ v, ta v < s - KX M) ∨ (nd mv ∧ s - KX M ≤ ta mv)) → Wa l g true fi_X1_reach 93 μ (Zv g true fi_X1_reach 93 μ (fun M2 => RF M 0 src M2)) 41 [] [fr 20, fi src, fi 0, fi mv, fi rd] 93 M1 := by
    intro kq
    induction kq using Nat.strongRecOn with
    | _ kq ih41 =>
    intro mv rd s M1 ta pa hk41 h0 hsv h1 h2
    have hK := KX_b hN
    have hsp : 0 ≤ s := by rw [hsv]; exact Int.mul_nonneg h0.1 (by omega)
    refine z_iload dX1_reach_41 rfl ?_
    refine z_bipush dX1_reach_43 ⟨by decide, by decide⟩ (by decide) ?_
    refine z_icmp_ge (tgt := 65) dX1_reach_45 (by decide) (fun c1 => ?_) (fun c1 => ?_)
    · refine z_vret rfl (by decide) rfl (Nat.sub_self _) dX1_reach_65 ?_
      have hm := Int.mul_le_mul_of_nonneg_right h0.2 (show 0 ≤ KX M by omega)
      refine ⟨h1.1, ta, pa, s, h1, hsp, by omega, ?_⟩
      rcases h2 with ⟨q1, q2, q3⟩ | q
      · exact BG_quiet (s0 := s - KX M) (by rw [show s - KX M + KX M = s by omega]; exact h1.2.1) (EdX_ok hN 0) (by omega) (by rw [hsv, show rd * KX M - KX M = (rd - 1) * KX M by rw [Int.sub_mul, Int.one_mul]]; exact Int.mul_nonneg (by omega) (by omega)) q3
      · exfalso
        obtain ⟨x, hx⟩ := hx
        have hrd : rd = 17 := by omega
        subst hrd
        exact RI_no (r := mv) hN h1 (by omega) x hx
    · refine z_iload_n dX1_reach_48 rfl ?_
      refine z_iconst dX1_reach_49 ⟨by decide, by decide⟩ ?_
      refine z_icmp_eq (tgt := 65) dX1_reach_50 (by decide) (fun c2 => ?_) (fun c2 => ?_)
      · refine z_vret rfl (by decide) rfl (Nat.sub_self _) dX1_reach_65 ?_
        have hm := Int.mul_le_mul_of_nonneg_right h0.2 (show 0 ≤ KX M by omega)
        refine ⟨h1.1, ta, pa, s, h1, hsp, by omega, ?_⟩
        rcases h2 with ⟨q1, q2, q3⟩ | q
        · exact BG_quiet (s0 := s - KX M) (by rw [show s - KX M + KX M = s by omega]; exact h1.2.1) (EdX_ok hN 0) (by omega) (by rw [hsv, show rd * KX M - KX M = (rd - 1) * KX M by rw [Int.sub_mul, Int.one_mul]]; exact Int.mul_nonneg (by omega) (by omega)) q3
        · exfalso
          obtain ⟨x, hx⟩ := hx
          have hrd : rd = 17 := by omega
          subst hrd
          exact RI_no (r := mv) hN h1 (by omega) x hx
      · refine z_aload_nr dX1_reach_53 rfl ?_
        refine z_iload_n dX1_reach_54 rfl ?_
        refine z_callVi (n2 := 93) (A_X1_relaxAll0 l g M1 _ _ _ _ _ (hN) (h1) (⟨hsp, by rw [hsv]; exact rounds_b hK (by omega), by rw [hsv]; exact Int.mul_emod_left _ _⟩)) cb_X1_relaxAll cl_X1_67 (clr0 rfl rfl (by decide) (by decide)) rfl (by decide) ⟨_, rfl, rfl⟩ rfl (by decide) rfl (Nat.le_of_ble_eq_true rfl) rfl dX1_reach_55 (fun x3 Mz3 bx3 kMz3 hc3 => ?_)
        obtain ⟨ta2, pe2, hR2, hq2⟩ := hc3
        refine z_istore_n (loc2 := [fr 20, fi src, fi 0, fi x3, fi rd]) dX1_reach_58 (by decide) rfl ?_
        refine z_iinc (loc2 := fun vq => [fr 20, fi src, fi 0, fi x3, fi vq]) dX1_reach_59 rfl (by decide) (by omega) (fun _ => rfl) (fun x4 hx4 => ?_)
        refine z_goto (tgt := 41) dX1_reach_62 (by decide) ?_
        exact ih41 _ (by omega) x3 x4 (s + KX M) Mz3 ta2 pe2 rfl (by omega) (by rw [hx4, hsv, Int.add_mul, Int.one_mul]) (hR2) (by rw [show s + KX M - KX M = s by omega]; rcases hq2 with q | q; exact Or.inl ⟨q.1, by omega, q.2⟩; exact Or.inr q)
  have lp2 : ∀ (kq : Nat) (i : Int) (M1 : FMem), (17 - i).toNat = kq → (0 ≤ i ∧ i ≤ 17) → (∀ b j, b ≠ 28 → b ≠ 29 → M1 b j = M b j) → (∀ v, 0 ≤ v → v < i → M1 28 v = 2000000000 ∧ M1 29 v = -1) → Wa l g true fi_X1_reach 93 μ (Zv g true fi_X1_reach 93 μ (fun M2 => RF M 0 src M2)) 2 [] [fr 20, fi src, fi 0, fi i, fu] 93 M1 := by
    intro kq
    induction kq using Nat.strongRecOn with
    | _ kq ih2 =>
    intro i M1 hk2 h0 h1 h2
    refine z_iload_n dX1_reach_2 rfl ?_
    refine z_bipush dX1_reach_3 ⟨by decide, by decide⟩ (by decide) ?_
    refine z_icmp_ge (tgt := 29) dX1_reach_5 (by decide) (fun c5 => ?_) (fun c5 => ?_)
    · refine z_aload_nr dX1_reach_29 rfl ?_
      refine z_getr (b := 28) fl_X1_41 rfl (by decide) rf_20_9 rfl dX1_reach_30 ?_
      refine z_iload_n dX1_reach_33 rfl ?_
      refine z_iconst dX1_reach_34 ⟨by decide, by decide⟩ ?_
      refine z_iast rfl (by decide) (by omega) (by omega) dX1_reach_35 (fun Mz6 hMz6 => ?_)
      refine z_iload_n dX1_reach_36 rfl ?_
      refine z_istore_n (loc2 := [fr 20, fi src, fi 0, fi src, fu]) dX1_reach_37 (by decide) rfl ?_
      refine z_iconst dX1_reach_38 ⟨by decide, by decide⟩ ?_
      refine z_istore (loc2 := [fr 20, fi src, fi 0, fi src, fi 0]) dX1_reach_39 (by decide) rfl ?_
      have hR0 : RI M 0 (wayS src) Mz6 (fun _ => -1) (fun _ => 0) 0 := RI_0 (fun b j q1 q2 => by rw [hMz6, st_cell q1]; exact h1 b j q1 q2) (fun v hv => by
        have q := h2 v hv.1 (by omega)
        rw [hMz6, st_at, st_cell (by decide)]
        unfold wayS
        split
        · exact ⟨rfl, q.2⟩
        · exact q) (fun v _ => by unfold wayS; split <;> simp)
      exact lp41 _ src 0 0 Mz6 (fun _ => -1) (fun _ => 0) rfl (by omega) (by simp) (hR0) (Or.inr ⟨hs, by have := KX_b hN; omega⟩)
    · refine z_aload_nr dX1_reach_8 rfl ?_
      refine z_getr (b := 28) fl_X1_41 rfl (by decide) rf_20_9 rfl dX1_reach_9 ?_
      refine z_iload_n dX1_reach_12 rfl ?_
      refine z_ldc (c := 2000000000) cn_X1_71 ⟨by decide, by decide⟩ dX1_reach_13 ?_
      refine z_iast rfl (by decide) (by omega) (by omega) dX1_reach_15 (fun Mz7 hMz7 => ?_)
      refine z_aload_nr dX1_reach_16 rfl ?_
      refine z_getr (b := 29) fl_X1_44 rfl (by decide) rf_20_10 rfl dX1_reach_17 ?_
      refine z_iload_n dX1_reach_20 rfl ?_
      refine z_iconst dX1_reach_21 ⟨by decide, by decide⟩ ?_
      refine z_iast rfl (by decide) (by omega) (by omega) dX1_reach_22 (fun Mz8 hMz8 => ?_)
      refine z_iinc (loc2 := fun vq => [fr 20, fi src, fi 0, fi vq, fu]) dX1_reach_23 rfl (by decide) (by omega) (fun _ => rfl) (fun x9 hx9 => ?_)
      refine z_goto (tgt := 2) dX1_reach_26 (by decide) ?_
      exact ih2 _ (by omega) x9 Mz8 rfl (by omega) (fun b j q1 q2 => by subst_vars; rw [st_cell q2, st_cell q1]; exact h1 b j q1 q2) (fun v q1 q2 => by subst_vars; by_cases e : v = i; (subst e; simp [st]); (have := h2 v q1 (by omega); simp [st, e, this]))
  refine z_iconst dX1_reach_0 ⟨by decide, by decide⟩ ?_
  refine z_istore_n (loc2 := [fr 20, fi src, fi 0, fi 0, fu]) dX1_reach_1 (by decide) rfl ?_
  exact lp2 _ 0 M rfl (by omega) (fun b j _ _ => rfl) (fun v _ h => by omega)
set_option maxHeartbeats 400000 in
theorem A_X1_isReached (l : Launch) (g : Cx) (M : FMem) (v : Int) (hv : nd v) : AMi l g true fi_X1_isReached [fr 20, fi v] 93 M (fun r M2 => M2 = M ∧ (fun r => r = if M 28 v = 2000000000 then 0 else 1) r) := by
  refine AMi_intro [fr 20, fi v] (by decide) (knall rfl) (Nat.le_of_ble_eq_true rfl) rfl ?_
  intro hNV hM0 μ
  have bv : N32 v := hNV (fi v) (by simp)
  refine z_aload_nr dX1_isReached_0 rfl ?_
  refine z_getr (b := 28) fl_X1_41 rfl (by decide) rf_20_9 rfl dX1_isReached_1 ?_
  refine z_iload_n dX1_isReached_4 rfl ?_
  refine z_iald rfl (by decide) (by omega) (by omega) dX1_isReached_5 (fun x1 hx1 bx1 => ?_)
  refine z_ldc (c := 2000000000) cn_X1_71 ⟨by decide, by decide⟩ dX1_isReached_6 ?_
  refine z_icmp_eq (tgt := 15) dX1_isReached_8 (by decide) (fun c2 => ?_) (fun c2 => ?_)
  · refine z_iconst dX1_isReached_15 ⟨by decide, by decide⟩ ?_
    refine z_zret rfl (by omega) (by decide) rfl (Nat.sub_self _) dX1_isReached_16 ?_
    refine ⟨rfl, ?_⟩
    first | (rw [if_pos (by omega)]) | (rw [if_neg (by omega)])
  · refine z_iconst dX1_isReached_11 ⟨by decide, by decide⟩ ?_
    refine z_goto (tgt := 16) dX1_isReached_12 (by decide) ?_
    refine z_zret rfl (by omega) (by decide) rfl (Nat.sub_self _) dX1_isReached_16 ?_
    refine ⟨rfl, ?_⟩
    first | (rw [if_pos (by omega)]) | (rw [if_neg (by omega)])
set_option maxHeartbeats 400000 in
theorem A_X1_bound1 (l : Launch) (g : Cx) (M : FMem) (v : Int) (hv : nd v) : AMi l g true fi_X1_bound [fr 20, fi v, fi 1] 93 M (fun r M2 => M2 = M ∧ (fun r => r = M 28 v) r) := by
  refine AMi_intro [fr 20, fi v, fi 1] (by decide) (knall rfl) (Nat.le_of_ble_eq_true rfl) rfl ?_
  intro hNV hM0 μ
  have bv : N32 v := hNV (fi v) (by simp)
  refine z_iload_n dX1_bound_0 rfl ?_
  refine z_iconst dX1_bound_1 ⟨by decide, by decide⟩ ?_
  refine z_icmp_ne (tgt := 14) dX1_bound_2 (by decide) (fun c1 => ?_) (fun c1 => ?_)
  · exfalso; omega
  · refine z_aload_nr dX1_bound_5 rfl ?_
    refine z_getr (b := 28) fl_X1_41 rfl (by decide) rf_20_9 rfl dX1_bound_6 ?_
    refine z_iload_n dX1_bound_9 rfl ?_
    refine z_iald rfl (by decide) (by omega) (by omega) dX1_bound_10 (fun x2 hx2 bx2 => ?_)
    refine z_goto (tgt := 21) dX1_bound_11 (by decide) ?_
    refine z_iret rfl (by decide) rfl (Nat.sub_self _) dX1_bound_21 ?_
    exact ⟨rfl, by omega⟩
set_option maxHeartbeats 400000 in
theorem A_X1_bound0 (l : Launch) (g : Cx) (M : FMem) (v : Int) (hv : nd v) (hb : -2147483647 ≤ M 28 v) : AMi l g true fi_X1_bound [fr 20, fi v, fi 0] 93 M (fun r M2 => M2 = M ∧ (fun r => r = -(M 28 v)) r) := by
  refine AMi_intro [fr 20, fi v, fi 0] (by decide) (knall rfl) (Nat.le_of_ble_eq_true rfl) rfl ?_
  intro hNV hM0 μ
  have bv : N32 v := hNV (fi v) (by simp)
  refine z_iload_n dX1_bound_0 rfl ?_
  refine z_iconst dX1_bound_1 ⟨by decide, by decide⟩ ?_
  refine z_icmp_ne (tgt := 14) dX1_bound_2 (by decide) (fun c1 => ?_) (fun c1 => ?_)
  · refine z_aload_nr dX1_bound_14 rfl ?_
    refine z_getr (b := 28) fl_X1_41 rfl (by decide) rf_20_9 rfl dX1_bound_15 ?_
    refine z_iload_n dX1_bound_18 rfl ?_
    refine z_iald rfl (by decide) (by omega) (by omega) dX1_bound_19 (fun x2 hx2 bx2 => ?_)
    refine z_inegN dX1_bound_20 (by omega) (fun x3 hx3 => ?_)
    refine z_iret rfl (by decide) rfl (Nat.sub_self _) dX1_bound_21 ?_
    exact ⟨rfl, by omega⟩
  · exfalso; omega
set_option maxHeartbeats 400000 in
theorem A_X1_otherEnd (l : Launch) (g : Cx) (M : FMem) (i v : Int) (hi : 0 ≤ i ∧ i < 80) : AMi l g true fi_X1_otherEnd [fr 20, fi i, fi v] 93 M (fun r M2 => M2 = M ∧ (fun r => r = if M 23 i = v then M 24 i else M 23 i) r) := by
  refine AMi_intro [fr 20, fi i, fi v] (by decide) (knall rfl) (Nat.le_of_ble_eq_true rfl) rfl ?_
  intro hNV hM0 μ
  have bi : N32 i := hNV (fi i) (by simp)
  have bv : N32 v := hNV (fi v) (by simp)
  refine z_aload_nr dX1_otherEnd_0 rfl ?_
  refine z_getr (b := 23) fl_X1_19 rfl (by decide) rf_20_2 rfl dX1_otherEnd_1 ?_
  refine z_iload_n dX1_otherEnd_4 rfl ?_
  refine z_iald rfl (by decide) (by omega) (by omega) dX1_otherEnd_5 (fun x1 hx1 bx1 => ?_)
  refine z_iload_n dX1_otherEnd_6 rfl ?_
  refine z_icmp_ne (tgt := 19) dX1_otherEnd_7 (by decide) (fun c2 => ?_) (fun c2 => ?_)
  · refine z_aload_nr dX1_otherEnd_19 rfl ?_
    refine z_getr (b := 23) fl_X1_19 rfl (by decide) rf_20_2 rfl dX1_otherEnd_20 ?_
    refine z_iload_n dX1_otherEnd_23 rfl ?_
    refine z_iald rfl (by decide) (by omega) (by omega) dX1_otherEnd_24 (fun x3 hx3 bx3 => ?_)
    refine z_iret rfl (by decide) rfl (Nat.sub_self _) dX1_otherEnd_25 ?_
    refine ⟨rfl, ?_⟩
    first | (rw [if_pos (by omega)]; omega) | (rw [if_neg (by omega)]; omega)
  · refine z_aload_nr dX1_otherEnd_10 rfl ?_
    refine z_getr (b := 24) fl_X1_22 rfl (by decide) rf_20_3 rfl dX1_otherEnd_11 ?_
    refine z_iload_n dX1_otherEnd_14 rfl ?_
    refine z_iald rfl (by decide) (by omega) (by omega) dX1_otherEnd_15 (fun x4 hx4 bx4 => ?_)
    refine z_goto (tgt := 25) dX1_otherEnd_16 (by decide) ?_
    refine z_iret rfl (by decide) rfl (Nat.sub_self _) dX1_otherEnd_25 ?_
    refine ⟨rfl, ?_⟩
    first | (rw [if_pos (by omega)]; omega) | (rw [if_neg (by omega)]; omega)
