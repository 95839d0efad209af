/-! ===== leave, redden, redness, undo, redo, blind, open over the coupling ===== -/
theorem CE_of {M M2 : FMem} (hE : CE M) (h1 : ∀ b, ((2 ≤ b ∧ b ≤ 9) ∨ b = 17 ∨ b = 18 ∨ (61 ≤ b ∧ b ≤ 68) ∨ b = 85) → M2 b = M b) (h2 : M2 10 = M2 69 ∧ M2 11 = M2 70 ∧ M2 12 = M2 71) (h3 : M2 15 = M2 72 ∧ M2 16 = M2 73 ∧ M2 38 = M2 74) (h4 : M2 1 13 = M2 60 0 ∧ M2 1 11 = M2 60 12) (h5 : M2 60 35 = M 60 35 ∧ M2 60 38 = M 60 38) : CE M2 := by
  obtain ⟨e1, e2, e3, e4, e5⟩ := hE
  refine ⟨?_, h2, h3, ?_, h4.1, h4.2, ?_, ?_⟩
  · rw [h1 2 (by decide), h1 3 (by decide), h1 4 (by decide), h1 5 (by decide), h1 6 (by decide), h1 7 (by decide), h1 8 (by decide), h1 9 (by decide), h1 61 (by decide), h1 62 (by decide), h1 63 (by decide), h1 64 (by decide), h1 65 (by decide), h1 66 (by decide), h1 67 (by decide), h1 68 (by decide)]; exact e1
  · rw [h1 18 (by decide), h1 85 (by decide)]; exact e4
  · rw [h1 17 (by decide), h5.1]; exact e5.2.2.1
  · rw [h1 17 (by decide), h5.2]; exact e5.2.2.2
theorem CT_of {M M2 : FMem} (hT : CT M) (h1 : ∀ b, (2 ≤ b ∧ b ≤ 9) → M2 b = M b) (h13 : M2 1 13 = M 1 13) (hR : RedX M2) (hN : ∀ h, 0 ≤ h → h < 10 → -1 ≤ M2 38 h ∧ M2 38 h ≤ 99999) : CT M2 := by
  refine ⟨by rw [h13]; exact hT.1, fun i p q => ?_, hR, hN⟩
  have := hT.2.1 i p (by rw [h13] at q; exact q)
  unfold TelX at this ⊢
  rw [h1 2 (by decide), h1 3 (by decide), h1 4 (by decide), h1 5 (by decide), h1 6 (by decide), h1 7 (by decide), h1 8 (by decide), h1 9 (by decide)]
  exact this
def K_leave (M : FMem) (i b q : Int) (M1 : FMem) : Prop := if ¬ (0 ≤ i ∧ i < M 1 13) then q = -1000001 ∧ M1 = M else q = M 10 i ∧ M1 = st M 10 i b
theorem C_leave (l : Launch) (g : Cx) (M : FMem) (i b : Int) (hb : b = 0 ∨ b = 1) (hC : Cp M) : AMi l g true fi_X7_leave [fr 0, fi i, fi b] 93 M (fun q M1 => K_leave M i b q M1) := A_X7_leave l g M i b hb hC.2.1.1
theorem D_leave (l : Launch) (g : Cx) (M M1 : FMem) (i b q : Int) (hb : b = 0 ∨ b = 1) (hC : Cp M) (hq : K_leave M i b q M1) : AMi l g true fi_X8_leave [fr 60, fi i, fi b] 93 M1 (fun q2 M2 => q2 = q ∧ Cp M2) := by
  obtain ⟨e1, ⟨b1, b2, b3⟩, ⟨d1, d2, d3⟩, e4, ⟨c1, c2, -⟩⟩ := hC.1
  unfold K_leave at hq
  have h60 : M1 60 = M 60 := by
    split at hq
    · rw [hq.2]
    · rw [hq.2]; simp [st_app]
  refine AMi_w (A_X8_leave l g M1 i b hb (by rw [h60, ← c1]; exact hC.2.1.1)) (fun q2 M2 _ h => ?_)
  rw [h60, ← c1] at h
  by_cases g1 : ¬ (0 ≤ i ∧ i < M 1 13)
  · rw [if_pos g1] at hq h; exact ⟨by rw [h.1, hq.1], by rw [h.2, hq.2]; exact hC⟩
  rw [if_neg g1] at hq h
  have hM2 := h.2
  rw [hq.2] at hM2
  refine ⟨by rw [h.1, hq.1, hq.2]; simp [st_app, b1], ?_⟩
  have hs := hC.2.2.1
  refine Cp_mk hC (CE_of hC.1 ?_ ?_ ?_ ?_ ?_) (CT_of hC.2.1 ?_ ?_ ?_ ?_) ⟨?_, ?_, ?_⟩ ?_ ?_
  · intro b p
    have hb : b ≠ 10 ∧ b ≠ 69 := by omega
    rw [hM2]; simp [st_app, hb]
  · rw [hM2]; simp [st_app, b1, b2, b3]
  · rw [hM2]; simp [st_app, d1, d2, d3]
  · rw [hM2]; simp [st_app, c1, c2]
  · rw [hM2]; simp [st_app]
  · intro b p
    have hb : b ≠ 10 ∧ b ≠ 69 := by omega
    rw [hM2]; simp [st_app, hb]
  · rw [hM2]; simp [st_app]
  · unfold RedX; rw [hM2]; simp only [st_app]; exact hC.2.1.2.2.1
  · rw [hM2]; simp only [st_app]; exact hC.2.1.2.2.2
  · have h13 : M2 1 13 = M 1 13 := by rw [hM2]; simp [st_app]
    intro j p
    have hj : j ≠ i := by omega
    have := hs.1 j (by omega)
    rw [hM2]; simp [st_app, hj, this]
  · rw [hM2]; simp [st_app]; exact hs.2.1
  · rw [hM2]; simp only [st_app]; exact hs.2.2
  · intro b p
    have hb : b ≠ 10 ∧ b ≠ 69 := by omega
    rw [hM2]; simp [st_app, hb]
  · intro j p1 p2
    rw [hM2]; simp [st_app]
def K_redden (M : FMem) (ho u v q : Int) (M1 : FMem) : Prop := if ¬ (0 ≤ ho ∧ ho ≤ 9) then q = -1000001 ∧ M1 = M else if ¬ (0 ≤ u ∧ u ≤ v ∧ v ≤ 2000) then q = -1000002 ∧ M1 = M else q = 1 ∧ M1 = st (st M 15 ho u) 16 ho v
theorem C_redden (l : Launch) (g : Cx) (M : FMem) (ho u v : Int) (hC : Cp M) : AMi l g true fi_X7_redden [fr 0, fi ho, fi u, fi v] 93 M (fun q M1 => K_redden M ho u v q M1) := A_X7_redden l g M ho u v
theorem D_redden (l : Launch) (g : Cx) (M M1 : FMem) (ho u v q : Int) (hC : Cp M) (hq : K_redden M ho u v q M1) : AMi l g true fi_X8_redden [fr 60, fi ho, fi u, fi v] 93 M1 (fun q2 M2 => q2 = q ∧ Cp M2) := by
  obtain ⟨e1, ⟨b1, b2, b3⟩, ⟨d1, d2, d3⟩, e4, ⟨c1, c2, -⟩⟩ := hC.1
  unfold K_redden at hq
  refine AMi_w (A_X8_redden l g M1 ho u v) (fun q2 M2 _ h => ?_)
  by_cases g1 : ¬ (0 ≤ ho ∧ ho ≤ 9)
  · rw [if_pos g1] at hq h; exact ⟨by rw [h.1, hq.1], by rw [h.2, hq.2]; exact hC⟩
  rw [if_neg g1] at hq h
  by_cases g2 : ¬ (0 ≤ u ∧ u ≤ v ∧ v ≤ 2000)
  · rw [if_pos g2] at hq h; exact ⟨by rw [h.1, hq.1], by rw [h.2, hq.2]; exact hC⟩
  rw [if_neg g2] at hq h
  have hM2 := h.2
  rw [hq.2] at hM2
  refine ⟨by rw [h.1, hq.1], ?_⟩
  have hs := hC.2.2.1
  refine Cp_mk hC (CE_of hC.1 ?_ ?_ ?_ ?_ ?_) (CT_of hC.2.1 ?_ ?_ ?_ ?_) ?_ ?_ ?_
  · intro b p
    have hb : b ≠ 15 ∧ b ≠ 16 ∧ b ≠ 72 ∧ b ≠ 73 := by omega
    rw [hM2]; simp [st_app, hb]
  · rw [hM2]; simp [st_app, b1, b2, b3]
  · rw [hM2]; simp [st_app, d1, d2, d3]
  · rw [hM2]; simp [st_app, c1, c2]
  · rw [hM2]; simp [st_app]
  · intro b p
    have hb : b ≠ 15 ∧ b ≠ 16 ∧ b ≠ 72 ∧ b ≠ 73 := by omega
    rw [hM2]; simp [st_app, hb]
  · rw [hM2]; simp [st_app]
  · intro h p q
    have := hC.2.1.2.2.1 h p q
    have k15 : M2 15 h = if h = ho then u else M 15 h := by rw [hM2]; simp [st_app]
    have k16 : M2 16 h = if h = ho then v else M 16 h := by rw [hM2]; simp [st_app]
    rw [k15, k16]
    by_cases e : h = ho
    · rw [if_pos e, if_pos e]; omega
    · rw [if_neg e, if_neg e]; exact this
  · rw [hM2]; simp only [st_app]; exact hC.2.1.2.2.2
  · unfold CS; rw [hM2]; simp only [st_app]; exact hs
  · intro b p
    have hb : b ≠ 15 ∧ b ≠ 16 ∧ b ≠ 72 ∧ b ≠ 73 := by omega
    rw [hM2]; simp [st_app, hb]
  · intro j p1 p2
    rw [hM2]; simp [st_app]
def K_redness (M : FMem) (ho w q : Int) (M1 : FMem) : Prop := if ¬ (0 ≤ ho ∧ ho ≤ 9) then q = -1000001 ∧ M1 = M else if ¬ (-1 ≤ w ∧ w ≤ 99999) then q = -1000002 ∧ M1 = M else q = M 38 ho ∧ M1 = st M 38 ho w
theorem C_redness (l : Launch) (g : Cx) (M : FMem) (ho w : Int) (hC : Cp M) : AMi l g true fi_X7_redness [fr 0, fi ho, fi w] 93 M (fun q M1 => K_redness M ho w q M1) := A_X7_redness l g M ho w
theorem D_redness (l : Launch) (g : Cx) (M M1 : FMem) (ho w q : Int) (hC : Cp M) (hq : K_redness M ho w q M1) : AMi l g true fi_X8_redness [fr 60, fi ho, fi w] 93 M1 (fun q2 M2 => q2 = q ∧ Cp M2) := by
  obtain ⟨e1, ⟨b1, b2, b3⟩, ⟨d1, d2, d3⟩, e4, ⟨c1, c2, -⟩⟩ := hC.1
  unfold K_redness at hq
  refine AMi_w (A_X8_redness l g M1 ho w) (fun q2 M2 _ h => ?_)
  by_cases g1 : ¬ (0 ≤ ho ∧ ho ≤ 9)
  · rw [if_pos g1] at hq h; exact ⟨by rw [h.1, hq.1], by rw [h.2, hq.2]; exact hC⟩
  rw [if_neg g1] at hq h
  by_cases g2 : ¬ (-1 ≤ w ∧ w ≤ 99999)
  · rw [if_pos g2] at hq h; exact ⟨by rw [h.1, hq.1], by rw [h.2, hq.2]; exact hC⟩
  rw [if_neg g2] at hq h
  have hM2 := h.2
  rw [hq.2] at hM2
  refine ⟨by rw [h.1, hq.1, hq.2]; simp [st_app, d3], ?_⟩
  have hs := hC.2.2.1
  refine Cp_mk hC (CE_of hC.1 ?_ ?_ ?_ ?_ ?_) (CT_of hC.2.1 ?_ ?_ ?_ ?_) ?_ ?_ ?_
  · intro b p
    have hb : b ≠ 38 ∧ b ≠ 74 := by omega
    rw [hM2]; simp [st_app, hb]
  · rw [hM2]; simp [st_app, b1, b2, b3]
  · rw [hM2]; simp [st_app, d1, d2, d3]
  · rw [hM2]; simp [st_app, c1, c2]
  · rw [hM2]; simp [st_app]
  · intro b p
    have hb : b ≠ 38 ∧ b ≠ 74 := by omega
    rw [hM2]; simp [st_app, hb]
  · rw [hM2]; simp [st_app]
  · unfold RedX; rw [hM2]; simp only [st_app]; exact hC.2.1.2.2.1
  · intro h p q
    have := hC.2.1.2.2.2 h p q
    have k38 : M2 38 h = if h = ho then w else M 38 h := by rw [hM2]; simp [st_app]
    rw [k38]
    by_cases e : h = ho
    · rw [if_pos e]; omega
    · rw [if_neg e]; exact this
  · unfold CS; rw [hM2]; simp only [st_app]; exact hs
  · intro b p
    have hb : b ≠ 38 ∧ b ≠ 74 := by omega
    rw [hM2]; simp [st_app, hb]
  · intro j p1 p2
    rw [hM2]; simp [st_app]
/-- room for one more on the stack -/
theorem Cp_full {M : FMem} (hC : Cp M) : 0 ≤ M 1 11 ∧ (M 1 11 < 80 ∨ ∀ j, 0 ≤ j → j < M 1 13 → M 11 j = 1) := by
  obtain ⟨h1, h2, h3⟩ := hC.2.2.1
  have hn := hC.2.1.1
  refine ⟨h2, ?_⟩
  by_cases e : M 1 11 < 80
  · exact Or.inl e
  · right
    intro j p q
    obtain ⟨a, b, -⟩ := h3 79 (by decide) (by omega)
    exact b j (by omega) q
theorem Cp_stk {M : FMem} (hC : Cp M) : M 1 11 ≤ 80 ∧ ∀ j, 0 ≤ j → j < M 1 11 → 0 ≤ M 12 j ∧ M 12 j < 80 := by
  obtain ⟨h1, h2, h3⟩ := hC.2.2.1
  have hn := hC.2.1.1
  refine ⟨?_, fun j p q => ?_⟩
  · by_cases e : M 1 11 ≤ 80
    · exact e
    · obtain ⟨a, b, -⟩ := h3 80 (by decide) (by omega)
      omega
  · obtain ⟨a, b, -⟩ := h3 j p q
    omega
def K_undo (M : FMem) (q : Int) (M1 : FMem) : Prop := (∃ i, 0 ≤ i ∧ i < M 1 13 ∧ M 11 i = 0 ∧ (∀ j, i < j → j < M 1 13 → M 11 j = 1) ∧ q = i ∧ M1 = st (st (st M 11 i 1) 12 (M 1 11) i) 1 11 (M 1 11 + 1)) ∨ ((∀ j, 0 ≤ j → j < M 1 13 → M 11 j = 1) ∧ q = -1000003 ∧ M1 = M)
theorem C_undo (l : Launch) (g : Cx) (M : FMem) (hC : Cp M) : AMi l g true fi_X7_undo [fr 0] 93 M (fun q M1 => K_undo M q M1) := A_X7_undo l g M hC.2.1.1 (Cp_full hC)
theorem D_undo (l : Launch) (g : Cx) (M M1 : FMem) (q : Int) (hC : Cp M) (hq : K_undo M q M1) : AMi l g true fi_X8_undo [fr 60] 93 M1 (fun q2 M2 => q2 = q ∧ Cp M2) := by
  obtain ⟨e1, ⟨b1, b2, b3⟩, ⟨d1, d2, d3⟩, e4, ⟨c1, c2, -⟩⟩ := hC.1
  unfold K_undo at hq
  have hx : M1 60 = M 60 ∧ M1 70 = M 70 := by
    rcases hq with ⟨i, -, -, -, -, -, e⟩ | ⟨-, -, e⟩
    · rw [e]; simp [st_app]
    · rw [e]; exact ⟨rfl, rfl⟩
  have hfu := Cp_full hC
  refine AMi_w (A_X8_undo l g M1 (by rw [hx.1, ← c1]; exact hC.2.1.1) (by rw [hx.1, hx.2, ← c1, ← c2, ← b2]; exact hfu)) (fun q2 M2 _ h => ?_)
  rw [hx.1, hx.2, ← c1, ← c2, ← b2] at h
  rcases hq with ⟨i, i0, i1, i2, i3, i4, i5⟩ | ⟨f1, f2, f3⟩
  · rcases h with ⟨k, k0, k1, k2, k3, k4, k5⟩ | ⟨k1, -, -⟩
    · have hik : k = i := by
        rcases Int.lt_trichotomy i k with z | z | z
        · have := i3 k z k1; omega
        · exact z.symm
        · have := k3 i z i1; omega
      rw [hik] at k4 k5
      refine ⟨by rw [k4, i4], ?_⟩
      have hM2 := k5
      rw [i5] at hM2
      have hs := hC.2.2.1
      have m13 : M2 1 13 = M 1 13 := by rw [hM2]; simp [st_app]
      have m11 : M2 1 11 = M 1 11 + 1 := by rw [hM2]; simp [st_app]
      have u11 : ∀ j, M2 11 j = if j = i then 1 else M 11 j := fun j => by rw [hM2]; simp [st_app]
      have u12 : ∀ j, M2 12 j = if j = M 1 11 then i else M 12 j := fun j => by rw [hM2]; simp [st_app]
      have u10 : M2 10 = M 10 := by rw [hM2]; simp [st_app]
      have hlow : ∀ k, 0 ≤ k → k < M 1 11 → i < M 12 k := fun k p q => by
        by_cases e : i < M 12 k
        · exact e
        · have := (hs.2.2 k p q).2.1 i (by omega) i1; omega
      refine Cp_mk hC (CE_of hC.1 ?_ ?_ ?_ ?_ ?_) (CT_of hC.2.1 ?_ ?_ ?_ ?_) ⟨?_, ?_, ?_⟩ ?_ ?_
      · intro b p
        have hb : b ≠ 11 ∧ b ≠ 12 ∧ b ≠ 1 ∧ b ≠ 70 ∧ b ≠ 71 ∧ b ≠ 60 := by omega
        rw [hM2]; simp [st_app, hb]
      · rw [hM2]; simp [st_app, b1, b2, b3, c2]
      · rw [hM2]; simp [st_app, d1, d2, d3]
      · rw [hM2]; simp [st_app, c1, c2]
      · rw [hM2]; simp [st_app]
      · intro b p
        have hb : b ≠ 11 ∧ b ≠ 12 ∧ b ≠ 1 ∧ b ≠ 70 ∧ b ≠ 71 ∧ b ≠ 60 := by omega
        rw [hM2]; simp [st_app, hb]
      · exact m13
      · unfold RedX; rw [hM2]; simp only [st_app]; exact hC.2.1.2.2.1
      · rw [hM2]; simp only [st_app]; exact hC.2.1.2.2.2
      · intro j p
        rw [m13] at p
        rw [u10, u11, if_neg (by omega)]; exact hs.1 j p
      · rw [m11]; have := hs.2.1; omega
      · intro k p q
        rw [m11] at q
        by_cases e : k = M 1 11
        · rw [u12, if_pos e, m13]
          refine ⟨⟨i0, ?_⟩, fun j p2 q2 => ?_, fun k2 p2 q2 => ?_⟩
          · by_cases z : k = 0
            · omega
            · have a := hlow (k - 1) (by omega) (by omega)
              have b := (hs.2.2 (k - 1) (by omega) (by omega)).1.2
              omega
          · rw [u11]
            by_cases z : j = i
            · rw [if_pos z]
            · rw [if_neg z]; exact i3 j (by omega) q2
          · rw [m11] at q2; omega
        · rw [u12, if_neg e, m13]
          obtain ⟨a1, a2, a3⟩ := hs.2.2 k p (by omega)
          refine ⟨a1, fun j p2 q2 => ?_, fun k2 p2 q2 => ?_⟩
          · rw [u11]
            by_cases z : j = i
            · rw [if_pos z]
            · rw [if_neg z]; exact a2 j p2 q2
          · rw [m11] at q2
            rw [u12]
            by_cases z : k2 = M 1 11
            · rw [if_pos z]; exact hlow k p (by omega)
            · rw [if_neg z]; exact a3 k2 p2 (by omega)
      · intro b p
        have hb : b ≠ 11 ∧ b ≠ 12 ∧ b ≠ 1 ∧ b ≠ 70 ∧ b ≠ 71 ∧ b ≠ 60 := by omega
        rw [hM2]; simp [st_app, hb]
      · intro j p1 p2
        rw [hM2]; simp [st_app, p2]
    · have := k1 i i0 i1; omega
  · rcases h with ⟨k, k0, k1, k2, -⟩ | ⟨-, k1, k2⟩
    · have := f1 k k0 k1; omega
    · exact ⟨by rw [k1, f2], by rw [k2, f3]; exact hC⟩
def K_redo (M : FMem) (q : Int) (M1 : FMem) : Prop := if M 1 11 ≤ 0 then q = -1000003 ∧ M1 = M else q = M 12 (M 1 11 - 1) ∧ M1 = st (st M 1 11 (M 1 11 - 1)) 11 (M 12 (M 1 11 - 1)) 0
theorem C_redo (l : Launch) (g : Cx) (M : FMem) (hC : Cp M) : AMi l g true fi_X7_redo [fr 0] 93 M (fun q M1 => K_redo M q M1) := A_X7_redo l g M (Cp_stk hC).2 (Cp_stk hC).1
theorem D_redo (l : Launch) (g : Cx) (M M1 : FMem) (q : Int) (hC : Cp M) (hq : K_redo M q M1) : AMi l g true fi_X8_redo [fr 60] 93 M1 (fun q2 M2 => q2 = q ∧ Cp M2) := by
  obtain ⟨e1, ⟨b1, b2, b3⟩, ⟨d1, d2, d3⟩, e4, ⟨c1, c2, -⟩⟩ := hC.1
  unfold K_redo at hq
  have hx : M1 60 = M 60 ∧ M1 71 = M 71 := by
    split at hq
    · rw [hq.2]; exact ⟨rfl, rfl⟩
    · rw [hq.2]; simp [st_app]
  have hst := Cp_stk hC
  have hs := hC.2.2.1
  refine AMi_w (A_X8_redo l g M1 (by rw [hx.1, ← c2]; exact ⟨hs.2.1, hst.1⟩) (by rw [hx.1, hx.2, ← c2, ← b3]; exact hst.2)) (fun q2 M2 _ h => ?_)
  rw [hx.1, hx.2, ← c2, ← b3] at h
  by_cases g1 : M 1 11 ≤ 0
  · rw [if_pos g1] at hq h; exact ⟨by rw [h.1, hq.1], by rw [h.2, hq.2]; exact hC⟩
  rw [if_neg g1] at hq h
  have hM2 := h.2
  rw [hq.2] at hM2
  refine ⟨by rw [h.1, hq.1], ?_⟩
  obtain ⟨p1, p2, p3⟩ := hs.2.2 (M 1 11 - 1) (by omega) (by omega)
  generalize hi : M 12 (M 1 11 - 1) = i at *
  have m13 : M2 1 13 = M 1 13 := by rw [hM2]; simp [st_app]
  have m11 : M2 1 11 = M 1 11 - 1 := by rw [hM2]; simp [st_app]
  have u11 : ∀ j, M2 11 j = if j = i then 0 else M 11 j := fun j => by rw [hM2]; simp [st_app]
  have u12 : M2 12 = M 12 := by rw [hM2]; simp [st_app]
  have u10 : M2 10 = M 10 := by rw [hM2]; simp [st_app]
  refine Cp_mk hC (CE_of hC.1 ?_ ?_ ?_ ?_ ?_) (CT_of hC.2.1 ?_ ?_ ?_ ?_) ⟨?_, ?_, ?_⟩ ?_ ?_
  · intro b p
    have hb : b ≠ 11 ∧ b ≠ 1 ∧ b ≠ 70 ∧ b ≠ 60 := by omega
    rw [hM2]; simp [st_app, hb]
  · rw [hM2]; simp [st_app, b1, b2, b3]
  · rw [hM2]; simp [st_app, d1, d2, d3]
  · rw [hM2]; simp [st_app, c1, c2]
  · rw [hM2]; simp [st_app]
  · intro b p
    have hb : b ≠ 11 ∧ b ≠ 1 ∧ b ≠ 70 ∧ b ≠ 60 := by omega
    rw [hM2]; simp [st_app, hb]
  · exact m13
  · unfold RedX; rw [hM2]; simp only [st_app]; exact hC.2.1.2.2.1
  · rw [hM2]; simp only [st_app]; exact hC.2.1.2.2.2
  · intro j p
    rw [m13] at p
    have z := hs.1 j p
    rw [u10, u11]
    refine ⟨z.1, ?_⟩
    split
    · rfl
    · exact z.2
  · rw [m11]; omega
  · intro k p q
    rw [m11] at q
    obtain ⟨a1, a2, a3⟩ := hs.2.2 k p (by omega)
    have hlt := a3 (M 1 11 - 1) (by omega) (by omega)
    rw [hi] at hlt
    rw [u12, m13, m11]
    refine ⟨a1, fun j p2 q2 => ?_, fun k2 p2 q2 => a3 k2 p2 (by omega)⟩
    rw [u11, if_neg (by omega)]; exact a2 j p2 q2
  · intro b p
    have hb : b ≠ 11 ∧ b ≠ 1 ∧ b ≠ 70 ∧ b ≠ 60 := by omega
    rw [hM2]; simp [st_app, hb]
  · intro j p1 p2
    rw [hM2]; simp [st_app, p2]
def K_blind (M : FMem) (v q : Int) (M1 : FMem) : Prop := if ¬ (-999 ≤ v ∧ v ≤ 999) then q = -1000002 ∧ M1 = M else if M 0 9 ≠ 0 then q = -1000003 ∧ M1 = M else q = 1 ∧ M1 = st (st (st M 0 8 v) 0 9 1) 0 10 1
/-- only the hidden number's fields change -/
theorem Cp_hd {M M2 : FMem} (hC : Cp M) (hb : ∀ b, b ≠ 0 → b ≠ 60 → M2 b = M b) (h0 : ∀ j, j < 8 → M2 0 j = M 0 j) (h60 : ∀ j, j < 54 → M2 60 j = M 60 j) (hh : CHd M2) : Cp M2 := by
  obtain ⟨k1, k2, k3, ⟨r, k4⟩, -, k6, k7⟩ := hC
  refine ⟨?_, ?_, ?_, ⟨r, CR_cg (fun b p q => hb b (by omega) (by omega)) (rm_cg (fun b p q => hb b (by omega) (by omega)) (h60 17 (by decide)) (h60 18 (by decide)) (h60 20 (by decide)) (h60 21 (by decide))) (h0 6 (by decide)) (h0 7 (by decide)) k4⟩, hh, ?_, ?_⟩
  · unfold CE at k1 ⊢
    rw [hb 2 (by decide) (by decide), hb 3 (by decide) (by decide), hb 4 (by decide) (by decide), hb 5 (by decide) (by decide), hb 6 (by decide) (by decide), hb 7 (by decide) (by decide), hb 8 (by decide) (by decide), hb 9 (by decide) (by decide), hb 10 (by decide) (by decide), hb 11 (by decide) (by decide), hb 12 (by decide) (by decide), hb 15 (by decide) (by decide), hb 16 (by decide) (by decide), hb 38 (by decide) (by decide), hb 18 (by decide) (by decide), hb 61 (by decide) (by decide), hb 62 (by decide) (by decide), hb 63 (by decide) (by decide), hb 64 (by decide) (by decide), hb 65 (by decide) (by decide), hb 66 (by decide) (by decide), hb 67 (by decide) (by decide), hb 68 (by decide) (by decide), hb 69 (by decide) (by decide), hb 70 (by decide) (by decide), hb 71 (by decide) (by decide), hb 72 (by decide) (by decide), hb 73 (by decide) (by decide), hb 74 (by decide) (by decide), hb 85 (by decide) (by decide), hb 1 (by decide) (by decide), hb 17 (by decide) (by decide), h60 0 (by decide), h60 12 (by decide), h60 35 (by decide), h60 38 (by decide)]
    exact k1
  · unfold CT TelX RedX at k2 ⊢
    rw [hb 2 (by decide) (by decide), hb 3 (by decide) (by decide), hb 4 (by decide) (by decide), hb 5 (by decide) (by decide), hb 6 (by decide) (by decide), hb 7 (by decide) (by decide), hb 8 (by decide) (by decide), hb 9 (by decide) (by decide), hb 15 (by decide) (by decide), hb 16 (by decide) (by decide), hb 38 (by decide) (by decide), hb 1 (by decide) (by decide)]
    exact k2
  · unfold CS at k3 ⊢
    rw [hb 10 (by decide) (by decide), hb 11 (by decide) (by decide), hb 12 (by decide) (by decide), hb 1 (by decide) (by decide)]
    exact k3
  · unfold CX at k6 ⊢
    rw [hb 17 (by decide) (by decide), hb 18 (by decide) (by decide)]
    exact k6
  · unfold CO at k7 ⊢
    rw [h60 42 (by decide), h60 43 (by decide), h60 44 (by decide), h60 45 (by decide)]
    exact k7
theorem C_blind (l : Launch) (g : Cx) (M : FMem) (v : Int) (hC : Cp M) : AMi l g true fi_X7_blind [fr 0, fi v] 93 M (fun q M1 => K_blind M v q M1) := A_X7_blind l g M v
theorem D_blind (l : Launch) (g : Cx) (M M1 : FMem) (v q : Int) (hC : Cp M) (hq : K_blind M v q M1) : AMi l g true fi_X8_blind [fr 60, fi v] 93 M1 (fun q2 M2 => q2 = q ∧ Cp M2) := by
  have hh := hC.2.2.2.2.1
  unfold CHd at hh
  unfold K_blind at hq
  have h60 : M1 60 = M 60 := by
    split at hq
    · rw [hq.2]
    · split at hq
      · rw [hq.2]
      · rw [hq.2]; simp [st_app]
  refine AMi_w (A_X8_blind l g M1 v) (fun q2 M2 _ h => ?_)
  rw [h60, ← hh.2.1.1] at h
  by_cases g1 : ¬ (-999 ≤ v ∧ v ≤ 999)
  · rw [if_pos g1] at hq h; exact ⟨by rw [h.1, hq.1], by rw [h.2, hq.2]; exact hC⟩
  rw [if_neg g1] at hq h
  by_cases g2 : M 0 9 ≠ 0
  · rw [if_pos g2] at hq h; exact ⟨by rw [h.1, hq.1], by rw [h.2, hq.2]; exact hC⟩
  rw [if_neg g2] at hq h
  have hM2 := h.2
  rw [hq.2] at hM2
  have k8 : M2 0 8 = v := by rw [hM2]; simp [st_app]
  have k9 : M2 0 9 = 1 := by rw [hM2]; simp [st_app]
  have k10 : M2 0 10 = 1 := by rw [hM2]; simp [st_app]
  have k54 : M2 60 54 = v := by rw [hM2]; simp [st_app]
  have k55 : M2 60 55 = 1 := by rw [hM2]; simp [st_app]
  have k56 : M2 60 56 = M 60 56 := by rw [hM2]; simp [st_app]
  refine ⟨by rw [h.1, hq.1], Cp_hd hC ?_ ?_ ?_ ?_⟩
  · intro b p1 p2
    rw [hM2]; simp [st_app, p1, p2]
  · intro j p
    have hj : j ≠ 8 ∧ j ≠ 9 ∧ j ≠ 10 := by omega
    rw [hM2]; simp [st_app, hj]
  · intro j p
    have hj : j ≠ 54 ∧ j ≠ 55 := by omega
    rw [hM2]; simp [st_app, hj]
  · unfold CHd
    rw [k8, k9, k10, k54, k55, k56]
    omega
def K_open (M : FMem) (q : Int) (M1 : FMem) : Prop := if M 0 10 = 0 then q = -1000003 ∧ M1 = M else q = M 0 8 ∧ M1 = st M 0 10 0
theorem C_open (l : Launch) (g : Cx) (M : FMem) (hC : Cp M) : AMi l g true fi_X7_open [fr 0] 93 M (fun q M1 => K_open M q M1) := A_X7_open l g M
theorem D_open (l : Launch) (g : Cx) (M M1 : FMem) (q : Int) (hC : Cp M) (hq : K_open M q M1) : AMi l g true fi_X8_open [fr 60] 93 M1 (fun q2 M2 => q2 = q ∧ Cp M2) := by
  have hh := hC.2.2.2.2.1
  unfold CHd at hh
  unfold K_open at hq
  have h60 : M1 60 = M 60 := by
    split at hq
    · rw [hq.2]
    · rw [hq.2]; simp [st_app]
  refine AMi_w (A_X8_open l g M1) (fun q2 M2 _ h => ?_)
  rw [h60] at h
  by_cases g1 : M 0 10 = 0
  · rw [if_pos g1] at hq
    rw [if_pos (by omega)] at h; exact ⟨by rw [h.1, hq.1], by rw [h.2, hq.2]; exact hC⟩
  rw [if_neg g1] at hq
  rw [if_neg (by omega)] at h
  have hM2 := h.2
  rw [hq.2] at hM2
  have k8 : M2 0 8 = M 0 8 := by rw [hM2]; simp [st_app]
  have k9 : M2 0 9 = M 0 9 := by rw [hM2]; simp [st_app]
  have k10 : M2 0 10 = 0 := by rw [hM2]; simp [st_app]
  have k54 : M2 60 54 = M 60 54 := by rw [hM2]; simp [st_app]
  have k55 : M2 60 55 = M 60 55 := by rw [hM2]; simp [st_app]
  have k56 : M2 60 56 = 1 := by rw [hM2]; simp [st_app]
  refine ⟨by rw [h.1, hq.1]; exact hh.1.1.symm, Cp_hd hC ?_ ?_ ?_ ?_⟩
  · intro b p1 p2
    rw [hM2]; simp [st_app, p1, p2]
  · intro j p
    have hj : j ≠ 10 := by omega
    rw [hM2]; simp [st_app, hj]
  · intro j p
    have hj : j ≠ 56 := by omega
    rw [hM2]; simp [st_app, hj]
  · unfold CHd
    rw [k8, k9, k10, k54, k55, k56]
    omega
