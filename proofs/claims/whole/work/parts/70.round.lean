/-! ===== the reference: rounds ===== -/
def EdM (M : FMem) : EdT := fun p a b w => 0 ≤ p ∧ p < 2 * M 60 0 ∧ inM M (M 60 0) (p / 2) ∧ ((p % 2 = 0 ∧ a = loM M (p / 2) ∧ b = upM M (p / 2) ∧ w = highM M (p / 2)) ∨ (p % 2 = 1 ∧ a = upM M (p / 2) ∧ b = loM M (p / 2) ∧ w = -(lowM M (p / 2))))
def KM (M : FMem) : Int := 2 * M 60 0 + 2
theorem EdM_ok {M : FMem} (hT : MT0 M) : EdOk (EdM M) (KM M) := by
  refine ⟨fun p a b w he => ?_, fun p a b w a' b' w' he he' => ?_⟩
  · obtain ⟨h0, h1, hi, he⟩ := he
    obtain ⟨q1, q2, q3⟩ := ul_nd (hT.2.1 (p / 2) (by omega) (by omega))
    unfold KM
    rcases he with ⟨-, rfl, rfl, -⟩ | ⟨-, rfl, rfl, -⟩
    · exact ⟨h0, by omega, q2, q1, fun e => q3 e.symm⟩
    · exact ⟨h0, by omega, q1, q2, q3⟩
  · obtain ⟨h0, h1, -, he⟩ := he
    obtain ⟨-, -, -, he'⟩ := he'
    rcases he with ⟨q0, q1, q2, q3⟩ | ⟨q0, q1, q2, q3⟩ <;> rcases he' with ⟨r0, r1, r2, r3⟩ | ⟨r0, r1, r2, r3⟩
    · exact ⟨q1.trans r1.symm, q2.trans r2.symm, q3.trans r3.symm⟩
    · omega
    · omega
    · exact ⟨q1.trans r1.symm, q2.trans r2.symm, q3.trans r3.symm⟩
theorem EdM_w {M : FMem} (hT : MT0 M) {p a b w : Int} (he : EdM M p a b w) : -100000 ≤ w ∧ w ≤ 100000 := by
  obtain ⟨h0, h1, -, he⟩ := he
  have := lowM_b hT (i := p / 2) (by omega) (by omega)
  rcases he with ⟨-, -, -, rfl⟩ | ⟨-, -, -, rfl⟩ <;> omega
def RM (M M1 : FMem) (tau pe : Int → Int) (s : Int) : Prop := (∀ b j, b ≠ 87 → b ≠ 88 → b ≠ 89 → M1 b j = M b j) ∧ BG (EdM M) (KM M) 2147483647 (fun v => M1 87 v) tau pe s ∧ (∀ v, nd v → 0 ≤ tau v → M1 88 v = pe v / 2 ∧ ∃ w, EdM M (pe v) (M1 89 v) v w) ∧ (∀ v, nd v → -(s * 100000) ≤ M1 87 v ∧ M1 87 v ≤ s * 100000)
theorem RM_void {M M1 : FMem} {tau pe : Int → Int} {s : Int} (h : RM M M1 tau pe s) (hno : ∀ a b w, ¬ EdM M (s % KM M) a b w) : RM M M1 tau pe (s + 1) := by
  obtain ⟨h1, h2, h3, h4⟩ := h
  exact ⟨h1, BG_stay h2 (fun a b w he => absurd he (hno a b w)), h3, fun v hv => by have := h4 v hv; omega⟩
theorem RM_step {M M1 M2 : FMem} {tau pe : Int → Int} {s a b w i r : Int} (hT : MT0 M) (h : RM M M1 tau pe s) (hs : 0 ≤ s ∧ s ≤ 3000) (he : EdM M (s % KM M) a b w) (hi : s % KM M / 2 = i)
    (hp : if M1 87 a + w < M1 87 b then r = 1 ∧ M2 = st (st (st M1 87 b (M1 87 a + w)) 88 b i) 89 b a else r = 0 ∧ M2 = M1) :
    ∃ tau' pe', RM M M2 tau' pe' (s + 1) ∧ ((r = 0 ∧ tau' = tau) ∨ (r = 1 ∧ tau' = up tau b s)) := by
  obtain ⟨h1, h2, h3, h4⟩ := h
  have hok := EdM_ok hT
  have hww := EdM_w hT he
  obtain ⟨-, -, na, nb, hab⟩ := hok.1 _ _ _ _ he
  have hK : 0 < KM M := by unfold KM; have := hT.1; omega
  have ra := h4 a na
  have rb := h4 b nb
  split at hp
  · rename_i hc
    obtain ⟨rfl, rfl⟩ := hp
    have e1 : (fun v => st (st (st M1 87 b (M1 87 a + w)) 88 b i) 89 b a 87 v) = up (fun v => M1 87 v) b (M1 87 a + w) := by
      funext v
      simp [st, up]
    refine ⟨up tau b s, up pe b (s % KM M), ⟨fun c j c1 c2 c3 => ?_, ?_, fun v hv ht => ?_, fun v hv => ?_⟩, Or.inr ⟨rfl, rfl⟩⟩
    · rw [st_cell c3, st_cell c2, st_cell c1]; exact h1 c j c1 c2 c3
    · rw [e1]
      exact BG_relax h2 hok hK hs.1 he (by show M1 87 a ≠ 2147483647; omega) (Or.inr hc) (by show M1 87 a + w ≠ 2147483647; omega)
    · by_cases e : v = b
      · subst e
        rw [up_s] at ht ⊢
        refine ⟨by simp [st]; omega, w, ?_⟩
        rw [st_same]
        exact he
      · rw [up_n e] at ht ⊢
        have := h3 v hv ht
        refine ⟨by simp [st, e]; exact this.1, ?_⟩
        rw [show st (st (st M1 87 b (M1 87 a + w)) 88 b i) 89 b a 89 v = M1 89 v by simp [st, e]]
        exact this.2
    · have := h4 v hv
      rw [show st (st (st M1 87 b (M1 87 a + w)) 88 b i) 89 b a 87 v = up (fun v => M1 87 v) b (M1 87 a + w) v from congrFun e1 v]
      unfold up
      dsimp only
      split <;> omega
  · rename_i hc
    obtain ⟨rfl, rfl⟩ := hp
    refine ⟨tau, pe, ⟨h1, BG_stay h2 (fun a' b' w' he' => ?_), h3, fun v hv => by have := h4 v hv; omega⟩, Or.inl ⟨rfl, rfl⟩⟩
    obtain ⟨rfl, rfl, rfl⟩ := hok.2 _ _ _ _ _ _ _ he' he
    right
    exact ⟨by show M2 87 b' ≠ 2147483647; omega, by show M2 87 b' ≤ M2 87 a' + w'; omega⟩
theorem RM_0 {M M1 : FMem} (h1 : ∀ b j, b ≠ 87 → b ≠ 88 → b ≠ 89 → M1 b j = M b j) (h2 : ∀ v, nd v → M1 87 v = 0) : RM M M1 (fun _ => -1) (fun _ => 0) 0 :=
  ⟨h1, BG_start _ _ _ _ _, fun v _ h => by dsimp only at h; omega, fun v hv => by rw [h2 v hv]; omega⟩
theorem EdM_sat {M : FMem} (hw : M 60 45 = 0) {y : Int → Int} (h : Sat (EdM M) y) : SolK M (M 60 0) (M 60 0) y := by
  intro i i0 i1 hi
  unfold TK1
  rw [hw]
  have e1 := h (2 * i) (loM M i) (upM M i) (highM M i) ⟨by omega, by omega, by rw [show 2 * i / 2 = i by omega]; exact hi, Or.inl ⟨by omega, by rw [show 2 * i / 2 = i by omega], by rw [show 2 * i / 2 = i by omega], by rw [show 2 * i / 2 = i by omega]⟩⟩
  have e2 := h (2 * i + 1) (upM M i) (loM M i) (-(lowM M i)) ⟨by omega, by omega, by rw [show (2 * i + 1) / 2 = i by omega]; exact hi, Or.inr ⟨by omega, by rw [show (2 * i + 1) / 2 = i by omega], by rw [show (2 * i + 1) / 2 = i by omega], by rw [show (2 * i + 1) / 2 = i by omega]⟩⟩
  omega
theorem TK1_edge {M : FMem} (hw : M 60 45 = 0) {y : Int → Int} {p a b w : Int} (he : EdM M p a b w) (h : TK1 M y (p / 2)) : y b ≤ y a + w := by
  obtain ⟨-, -, -, he⟩ := he
  unfold TK1 at h
  rw [hw] at h
  rcases he with ⟨-, rfl, rfl, rfl⟩ | ⟨-, rfl, rfl, rfl⟩ <;> omega
theorem RM_par {M M1 : FMem} {tau pe : Int → Int} {s : Int} (hT : MT0 M) (h : RM M M1 tau pe s) : Par (EdM M) tau pe (fun v => M1 89 v) := by
  intro v hv
  obtain ⟨-, u, w, he⟩ := h.2.1.2.2.1 v hv
  exact (h.2.2.1 v ((EdM_ok hT).1 _ _ _ _ he).2.2.2.1 hv).2
theorem RM_led {M M1 : FMem} {tau pe : Int → Int} {s v : Int} (h : RM M M1 tau pe s) (hv : nd v) (ht : 0 ≤ tau v) : (0 ≤ M1 88 v ∧ M1 88 v < M 60 0) ∧ inM M (M 60 0) (M1 88 v) ∧ M1 88 v = pe v / 2 := by
  obtain ⟨e, w, he⟩ := h.2.2.1 v hv ht
  rw [e]
  exact ⟨⟨by have := he.1; omega, by have := he.2.1; omega⟩, he.2.2.1, rfl⟩
theorem par_nd {M M1 : FMem} {tau pe : Int → Int} {s v : Int} (hT : MT0 M) (h : RM M M1 tau pe s) (hv : nd v) (ht : 0 ≤ tau v) : nd (M1 89 v) := by
  obtain ⟨e, w, he⟩ := h.2.2.1 v hv ht
  exact ((EdM_ok hT).1 _ _ _ _ he).2.2.1
set_option maxHeartbeats 400000 in
theorem A_X8_raise (l : Launch) (g : Cx) (M : FMem) (i a b w : Int) (ha : nd a) (hb : nd b) (hw : -100000 ≤ w ∧ w ≤ 100000) (h1 : -400000000 ≤ M 87 a ∧ M 87 a ≤ 400000000) : AMi l g true fi_X8_raise [fr 60, fi i, fi a, fi b, fl w] 93 M (fun r M2 => if M 87 a + w < M 87 b then r = 1 ∧ M2 = st (st (st M 87 b (M 87 a + w)) 88 b i) 89 b a else r = 0 ∧ M2 = M) := by
  refine AMi_intro [fr 60, fi i, fi a, fi b, fl w, fu] (by decide) (knall rfl) (Nat.le_of_ble_eq_true rfl) rfl ?_
  intro hNV hM0 μ
  have bi : N32 i := hNV (fi i) (by simp)
  have ba : N32 a := hNV (fi a) (by simp)
  have bb : N32 b := hNV (fi b) (by simp)
  have bw : N64 w := hNV (fl w) (by simp)
  refine z_aload_nr dX8_raise_0 rfl ?_
  refine z_getr (b := 87) fl_X8_103 rfl (by decide) rf_60_46 rfl dX8_raise_1 ?_
  refine z_iload_n dX8_raise_4 rfl ?_
  refine z_lald rfl (by decide) (by omega) (by omega) dX8_raise_5 (fun x1 hx1 bx1 => ?_)
  refine z_lload dX8_raise_6 rfl ?_
  first | refine z_laddN dX8_raise_8 (by omega) (fun x2 hx2 => ?_) | refine z_ladd dX8_raise_8 (fun x2 hx2 => ?_)
  refine z_aload_nr dX8_raise_9 rfl ?_
  refine z_getr (b := 87) fl_X8_103 rfl (by decide) rf_60_46 rfl dX8_raise_10 ?_
  refine z_iload_n dX8_raise_13 rfl ?_
  refine z_lald rfl (by decide) (by omega) (by omega) dX8_raise_14 (fun x3 hx3 bx3 => ?_)
  refine z_lcmp_ge (tgt := 50) dX8_raise_15 dX8_raise_16 (by decide) (fun c4 => ?_) (fun c4 => ?_)
  · refine z_iconst dX8_raise_50 ⟨by decide, by decide⟩ ?_
    refine z_zret rfl (by omega) (by decide) rfl (Nat.sub_self _) dX8_raise_51 ?_
    rw [if_neg (by omega)]
    exact ⟨rfl, rfl⟩
  · refine z_aload_nr dX8_raise_19 rfl ?_
    refine z_getr (b := 87) fl_X8_103 rfl (by decide) rf_60_46 rfl dX8_raise_20 ?_
    refine z_iload_n dX8_raise_23 rfl ?_
    refine z_aload_nr dX8_raise_24 rfl ?_
    refine z_getr (b := 87) fl_X8_103 rfl (by decide) rf_60_46 rfl dX8_raise_25 ?_
    refine z_iload_n dX8_raise_28 rfl ?_
    refine z_lald rfl (by decide) (by omega) (by omega) dX8_raise_29 (fun x5 hx5 bx5 => ?_)
    refine z_lload dX8_raise_30 rfl ?_
    first | refine z_laddN dX8_raise_32 (by omega) (fun x6 hx6 => ?_) | refine z_ladd dX8_raise_32 (fun x6 hx6 => ?_)
    refine z_last rfl (by decide) (by omega) (by omega) dX8_raise_33 (fun Mz7 hMz7 => ?_)
    refine z_aload_nr dX8_raise_34 rfl ?_
    refine z_getr (b := 88) fl_X8_106 rfl (by decide) rf_60_47 rfl dX8_raise_35 ?_
    refine z_iload_n dX8_raise_38 rfl ?_
    refine z_iload_n dX8_raise_39 rfl ?_
    refine z_iast rfl (by decide) (by omega) (by omega) dX8_raise_40 (fun Mz8 hMz8 => ?_)
    refine z_aload_nr dX8_raise_41 rfl ?_
    refine z_getr (b := 89) fl_X8_109 rfl (by decide) rf_60_48 rfl dX8_raise_42 ?_
    refine z_iload_n dX8_raise_45 rfl ?_
    refine z_iload_n dX8_raise_46 rfl ?_
    refine z_iast rfl (by decide) (by omega) (by omega) dX8_raise_47 (fun Mz9 hMz9 => ?_)
    refine z_iconst dX8_raise_48 ⟨by decide, by decide⟩ ?_
    refine z_zret rfl (by omega) (by decide) rfl (Nat.sub_self _) dX8_raise_49 ?_
    rw [if_pos (by omega)]
    refine ⟨rfl, ?_⟩
    rw [hMz9, hMz8, hMz7]
    congr 3
    omega
