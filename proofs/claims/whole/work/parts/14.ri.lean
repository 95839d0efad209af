/-! ===== the class's net: its edges, the state of its rounds ===== -/
/-- the tellings that are tried: their nodes and spans are in bounds -/
def NetOk (M : FMem) : Prop := 0 ≤ M 20 7 ∧ M 20 7 ≤ 80 ∧ 0 ≤ M 20 8 ∧ M 20 8 ≤ 131072 ∧ ∀ k, 0 ≤ k → k < M 20 7 → 0 ≤ M 27 k ∧ M 27 k < 80 ∧ nd (M 23 (M 27 k)) ∧ nd (M 24 (M 27 k)) ∧ M 23 (M 27 k) ≠ M 24 (M 27 k) ∧ -100000 ≤ M 25 (M 27 k) ∧ M 25 (M 27 k) ≤ 100000 ∧ -100000 ≤ M 26 (M 27 k) ∧ M 26 (M 27 k) ≤ 100000
def onW (M : FMem) (what i : Int) : Int := (if what = 1 then M 26 i else -(M 25 i)) + M 20 8
def baW (M : FMem) (what i : Int) : Int := (if what = 1 then -(M 25 i) else M 26 i) + M 20 8
def EdX (M : FMem) (what : Int) : EdT := fun p a b w => 0 ≤ p ∧ p < 2 * M 20 7 ∧
  ((p % 2 = 0 ∧ a = M 23 (M 27 (p / 2)) ∧ b = M 24 (M 27 (p / 2)) ∧ w = onW M what (M 27 (p / 2))) ∨ (p % 2 = 1 ∧ a = M 24 (M 27 (p / 2)) ∧ b = M 23 (M 27 (p / 2)) ∧ w = baW M what (M 27 (p / 2))))
def KX (M : FMem) : Int := 2 * M 20 7 + 2
theorem EdX_ok {M : FMem} (h : NetOk M) (what : Int) : EdOk (EdX M what) (KX M) := by
  refine ⟨fun p a b w he => ?_, fun p a b w a' b' w' he he' => ?_⟩
  · obtain ⟨h0, h1, he⟩ := he
    obtain ⟨-, -, q1, q2, q3, -⟩ := h.2.2.2.2 (p / 2) (by omega) (by omega)
    unfold KX
    rcases he with ⟨-, rfl, rfl, -⟩ | ⟨-, rfl, rfl, -⟩
    · exact ⟨h0, by omega, q1, q2, q3⟩
    · exact ⟨h0, by omega, q2, q1, fun e => q3 e.symm⟩
  · obtain ⟨h0, h1, he⟩ := he
    obtain ⟨-, -, he'⟩ := he'
    rcases he with ⟨q0, q1, q2, q3⟩ | ⟨q0, q1, q2, q3⟩ <;> rcases he' with ⟨r0, r1, r2, r3⟩ | ⟨r0, r1, r2, r3⟩
    · exact ⟨q1.trans r1.symm, q2.trans r2.symm, q3.trans r3.symm⟩
    · omega
    · omega
    · exact ⟨q1.trans r1.symm, q2.trans r2.symm, q3.trans r3.symm⟩
theorem EdX_w {M : FMem} (h : NetOk M) {what p a b w : Int} (he : EdX M what p a b w) : -231072 ≤ w ∧ w ≤ 231072 := by
  obtain ⟨h0, h1, he⟩ := he
  obtain ⟨-, -, -, -, -, q4, q5, q6, q7⟩ := h.2.2.2.2 (p / 2) (by omega) (by omega)
  have := h.2.2.1
  have := h.2.2.2.1
  rcases he with ⟨-, -, -, rfl⟩ | ⟨-, -, -, rfl⟩ <;> (first | unfold onW | unfold baW) <;> split <;> omega
theorem EdX_sym {M : FMem} {what p a b w : Int} (he : EdX M what p a b w) : ∃ p' w', EdX M what p' b a w' := by
  obtain ⟨h0, h1, he⟩ := he
  rcases he with ⟨q0, q1, q2, -⟩ | ⟨q0, q1, q2, -⟩
  · refine ⟨p + 1, _, by omega, by omega, Or.inr ⟨by omega, ?_, ?_, rfl⟩⟩
    · rw [show (p + 1) / 2 = p / 2 by omega]; exact q2
    · rw [show (p + 1) / 2 = p / 2 by omega]; exact q1
  · refine ⟨p - 1, _, by omega, by omega, Or.inl ⟨by omega, ?_, ?_, rfl⟩⟩
    · rw [show (p - 1) / 2 = p / 2 by omega]; exact q2
    · rw [show (p - 1) / 2 = p / 2 by omega]; exact q1
/-- the state of the rounds after s steps over the edges of M0, begun with way0 -/
def RI (M0 : FMem) (what : Int) (way0 : Int → Int) (M1 : FMem) (tau pe : Int → Int) (s : Int) : Prop :=
  (∀ b j, b ≠ 28 → b ≠ 29 → M1 b j = M0 b j) ∧ BG (EdX M0 what) (KX M0) 2000000000 (fun v => M1 28 v) tau pe s ∧
  (∀ v, nd v → (tau v = -1 → M1 29 v = -1) ∧ (0 ≤ tau v → M1 29 v = M0 27 (pe v / 2))) ∧
  (∀ v, nd v → M1 28 v = 2000000000 ∨ (-(s * 231072) ≤ M1 28 v ∧ M1 28 v ≤ s * 231072)) ∧
  (∀ y, Sat (EdX M0 what) y → (∀ v, nd v → way0 v ≠ 2000000000 → y v ≤ way0 v) → ∀ v, nd v → M1 28 v ≠ 2000000000 → y v ≤ M1 28 v) ∧
  (∀ v, nd v → (tau v = -1 → M1 28 v = way0 v) ∧ (way0 v ≠ 2000000000 → M1 28 v ≠ 2000000000 ∧ M1 28 v ≤ way0 v ∧ (0 ≤ tau v → M1 28 v < way0 v)))
theorem RI_void {M0 : FMem} {what : Int} {way0 : Int → Int} {M1 : FMem} {tau pe : Int → Int} {s : Int} (h : RI M0 what way0 M1 tau pe s) (hs : 0 ≤ s) (hno : ∀ a b w, ¬ EdX M0 what (s % KX M0) a b w) : RI M0 what way0 M1 tau pe (s + 1) := by
  obtain ⟨h1, h2, h3, h4, h5, h6⟩ := h
  refine ⟨h1, BG_stay h2 (fun a b w he => absurd he (hno a b w)), h3, fun v hv => ?_, h5, h6⟩
  rcases h4 v hv with q | q
  · exact Or.inl q
  · exact Or.inr (by omega)
theorem RI_step {M0 : FMem} {what : Int} {way0 : Int → Int} {M1 M2 : FMem} {tau pe : Int → Int} {s a b w i r : Int} (hN : NetOk M0) (h : RI M0 what way0 M1 tau pe s) (hs : 0 ≤ s ∧ s ≤ 2800) (he : EdX M0 what (s % KX M0) a b w) (hi : M0 27 (s % KX M0 / 2) = i)
    (hp : if M1 28 a = 2000000000 ∨ M1 28 b ≤ M1 28 a + w then r = 0 ∧ M2 = M1 else r = 1 ∧ M2 = st (st M1 28 b (M1 28 a + w)) 29 b i) :
    ∃ tau' pe', RI M0 what way0 M2 tau' pe' (s + 1) ∧ ((r = 0 ∧ tau' = tau) ∨ (r = 1 ∧ tau' = up tau b s)) := by
  obtain ⟨h1, h2, h3, h4, h5, h6⟩ := h
  have hok := EdX_ok hN what
  have hww := EdX_w hN he
  obtain ⟨-, -, na, nb, hab⟩ := hok.1 _ _ _ _ he
  have hK : 0 < KX M0 := by unfold KX; have := hN.1; omega
  split at hp
  · rename_i hc
    obtain ⟨rfl, rfl⟩ := hp
    refine ⟨tau, pe, ⟨h1, BG_stay h2 (fun a' b' w' he' => ?_), h3, fun v hv => ?_, h5, h6⟩, Or.inl ⟨rfl, rfl⟩⟩
    · obtain ⟨rfl, rfl, rfl⟩ := hok.2 _ _ _ _ _ _ _ he' he
      rcases hc with q | q
      · exact Or.inl q
      · by_cases e : M2 28 a' = 2000000000
        · exact Or.inl e
        · refine Or.inr ⟨?_, q⟩
          rcases h4 a' na with r | r
          · exact absurd r e
          · show M2 28 b' ≠ 2000000000
            omega
    · rcases h4 v hv with q | q
      · exact Or.inl q
      · exact Or.inr (by omega)
  · rename_i hc
    obtain ⟨rfl, rfl⟩ := hp
    have ha : M1 28 a ≠ 2000000000 := fun q => hc (Or.inl q)
    have hlt : M1 28 a + w < M1 28 b := by
      by_cases q : M1 28 a + w < M1 28 b
      · exact q
      · exact absurd (Or.inr (by omega)) hc
    have hba := (h4 a na).resolve_left ha
    have hfin : M1 28 a + w ≠ 2000000000 := by omega
    have e1 : (fun v => st (st M1 28 b (M1 28 a + w)) 29 b i 28 v) = up (fun v => M1 28 v) b (M1 28 a + w) := by
      funext v
      simp [st, up]
    have e2 : ∀ v, st (st M1 28 b (M1 28 a + w)) 29 b i 29 v = if v = b then i else M1 29 v := by
      intro v
      simp [st]
    have e3 : ∀ v, st (st M1 28 b (M1 28 a + w)) 29 b i 28 v = if v = b then M1 28 a + w else M1 28 v := by
      intro v
      simp [st]
    refine ⟨up tau b s, up pe b (s % KX M0), ⟨fun c j hc1 hc2 => ?_, ?_, fun v hv => ?_, fun v hv => ?_, fun y hy hy0 v hv => ?_, fun v hv => ?_⟩, Or.inr ⟨rfl, rfl⟩⟩
    · rw [st_cell hc2, st_cell hc1]; exact h1 c j hc1 hc2
    · rw [e1]
      exact BG_relax h2 hok hK hs.1 he ha (Or.inr hlt) hfin
    · rw [e2]
      by_cases e : v = b
      · subst e
        rw [up_s, up_s, if_pos rfl]
        exact ⟨fun q => by omega, fun _ => hi.symm⟩
      · rw [up_n e, up_n e, if_neg e]
        exact h3 v hv
    · rw [e3]
      by_cases e : v = b
      · rw [if_pos e]; exact Or.inr (by omega)
      · rw [if_neg e]
        rcases h4 v hv with q | q
        · exact Or.inl q
        · exact Or.inr (by omega)
    · rw [e3]
      by_cases e : v = b
      · subst e
        rw [if_pos rfl]
        intro _
        have q1 := h5 y hy hy0 a na ha
        have q2 := hy _ _ _ _ he
        omega
      · rw [if_neg e]; exact h5 y hy hy0 v hv
    · rw [e3]
      by_cases e : v = b
      · subst e
        rw [up_s, if_pos rfl]
        refine ⟨fun q => by omega, fun q => ?_⟩
        have := (h6 v hv).2 q
        exact ⟨hfin, by omega, fun _ => by omega⟩
      · rw [up_n e, if_neg e]; exact h6 v hv
