/-! ===== the telling calls over the coupling ===== -/
theorem st_app (M : FMem) (a : Nat) (i v : Int) (b : Nat) : st M a i v b = if b = a then (fun j => if j = i then v else M b j) else M b := by
  funext j
  unfold st
  by_cases h : b = a
  · rw [if_pos h]
    by_cases h2 : j = i
    · rw [if_pos ⟨h, h2⟩]; simp [h2]
    · rw [if_neg (fun z => h2 z.2)]; simp [h2]
  · rw [if_neg (fun z => h z.1), if_neg h]
theorem Cp_mk {M M2 : FMem} (hC : Cp M) (h1 : CE M2) (h2 : CT M2) (h3 : CS M2) (hc : ∀ b, (b = 0 ∨ b = 17 ∨ b = 18 ∨ (42 ≤ b ∧ b < 60) ∨ (75 ≤ b ∧ b < 80)) → M2 b = M b) (ho : ∀ j, j ≠ 0 → j ≠ 12 → M2 60 j = M 60 j) : Cp M2 := by
  obtain ⟨-, -, -, ⟨r, hr⟩, h5, h6, h7⟩ := hC
  refine ⟨h1, h2, h3, ⟨r, CR_cg (fun b p q => hc b (by omega)) (rm_cg (fun b p q => hc b (by omega)) (ho 17 (by decide) (by decide)) (ho 18 (by decide) (by decide)) (ho 20 (by decide) (by decide)) (ho 21 (by decide) (by decide))) (by rw [hc 0 (by decide)]) (by rw [hc 0 (by decide)]) hr⟩, ?_, ?_, ?_⟩
  · unfold CHd at h5 ⊢
    rw [hc 0 (by decide), ho 54 (by decide) (by decide), ho 55 (by decide) (by decide), ho 56 (by decide) (by decide)]; exact h5
  · unfold CX at h6 ⊢
    rw [hc 17 (by decide), hc 18 (by decide)]; exact h6
  · unfold CO at h7 ⊢
    rw [ho 42 (by decide) (by decide), ho 43 (by decide) (by decide), ho 44 (by decide) (by decide), ho 45 (by decide) (by decide)]; exact h7
theorem Cp_add {M M2 : FMem} (hC : Cp M) (hn : M 1 13 < 80) (hE : M2 2 = M2 61 ∧ M2 3 = M2 62 ∧ M2 4 = M2 63 ∧ M2 5 = M2 64 ∧ M2 6 = M2 65 ∧ M2 7 = M2 66 ∧ M2 8 = M2 67 ∧ M2 9 = M2 68)
    (hk : ∀ b j, 2 ≤ b → b ≤ 9 → j ≠ M 1 13 → M2 b j = M b j) (hT : TelX M2 (M 1 13)) (h69 : M2 69 = M 69) (h70 : M2 70 = M 70)
    (h13 : M2 1 13 = M 1 13 + 1) (h0 : M2 60 0 = M 1 13 + 1) (h11 : M2 1 11 = 0) (h12 : M2 60 12 = 0)
    (c : ∀ b, ((10 ≤ b ∧ b ≤ 12) ∨ b = 0 ∨ (14 ≤ b ∧ b < 19) ∨ b = 38 ∨ (42 ≤ b ∧ b < 60) ∨ (71 ≤ b ∧ b < 80) ∨ b = 85) → M2 b = M b) (o : ∀ j, j ≠ 0 → j ≠ 12 → M2 60 j = M 60 j) : Cp M2 := by
  obtain ⟨e1, e2, e3, e4, e5⟩ := hC.1
  refine Cp_mk hC ⟨hE, ?_, ?_, ?_, ?_⟩ ⟨by rw [h13]; have := hC.2.1.1; omega, fun i p q => ?_, ?_, ?_⟩ ⟨fun j p => ?_, by rw [h11]; decide, fun k p q => by rw [h11] at q; omega⟩ (fun b p => c b (by omega)) o
  · rw [c 10 (by decide), c 11 (by decide), c 12 (by decide), c 71 (by decide), h69, h70]; exact e2
  · rw [c 15 (by decide), c 16 (by decide), c 38 (by decide), c 72 (by decide), c 73 (by decide), c 74 (by decide)]; exact e3
  · rw [c 18 (by decide), c 85 (by decide)]; exact e4
  · exact ⟨by rw [h13, h0], by rw [h11, h12], by rw [c 17 (by decide), o 35 (by decide) (by decide)]; exact e5.2.2.1, by rw [c 17 (by decide), o 38 (by decide) (by decide)]; exact e5.2.2.2⟩
  · by_cases e : i = M 1 13
    · rw [e]; exact hT
    · have := hC.2.1.2.1 i p (by omega)
      unfold TelX at this ⊢
      rw [hk 2 i (by decide) (by decide) e, hk 3 i (by decide) (by decide) e, hk 4 i (by decide) (by decide) e, hk 5 i (by decide) (by decide) e, hk 6 i (by decide) (by decide) e, hk 7 i (by decide) (by decide) e, hk 8 i (by decide) (by decide) e, hk 9 i (by decide) (by decide) e]
      exact this
  · unfold RedX
    rw [c 15 (by decide), c 16 (by decide)]; exact hC.2.1.2.2.1
  · rw [c 38 (by decide)]; exact hC.2.1.2.2.2
  · rw [c 10 (by decide), c 11 (by decide)]; exact hC.2.2.1.1 j (by omega)
def K_shift (M : FMem) (li ho u v q : Int) (M1 : FMem) : Prop := if ¬ ((0 ≤ li ∧ li ≤ 5) ∧ (0 ≤ ho ∧ ho ≤ 9)) then q = -1000001 ∧ M1 = M else if ¬ (-40000 ≤ u ∧ u ≤ v ∧ v ≤ 40000) then q = -1000002 ∧ M1 = M else if 80 ≤ M 1 13 then q = -1000004 ∧ M1 = M else q = M 1 13 ∧ M1 = addX M 1 li (-1) ho u v
theorem C_shift (l : Launch) (g : Cx) (M : FMem) (li ho u v : Int) (hC : Cp M) : AMi l g true fi_X7_shift [fr 0, fi li, fi ho, fi u, fi v] 93 M (fun q M1 => K_shift M li ho u v q M1) := A_X7_shift l g M li ho u v hC.2.1.1
set_option maxHeartbeats 4000000 in
theorem D_shift (l : Launch) (g : Cx) (M M1 : FMem) (li ho u v q : Int) (hC : Cp M) (hq : K_shift M li ho u v q M1) : AMi l g true fi_X8_shift [fr 60, fi li, fi ho, fi u, fi v] 93 M1 (fun q2 M2 => q2 = q ∧ Cp M2) := by
  have hn := Cp_n hC
  have hx : ∀ b, 60 ≤ b → M1 b = M b := by
    intro b p
    unfold K_shift addX at hq
    have hb : (b ≠ 1 ∧ b ≠ 2 ∧ b ≠ 3 ∧ b ≠ 4 ∧ b ≠ 5) ∧ (b ≠ 6 ∧ b ≠ 7 ∧ b ≠ 8 ∧ b ≠ 9) := by omega
    split at hq
    · rw [hq.2]
    · split at hq
      · rw [hq.2]
      · split at hq
        · rw [hq.2]
        · rw [hq.2]; simp [st_app, hb]
  have h60 : M1 60 0 = M 1 13 := by rw [hx 60 (by decide), hn]
  refine AMi_w (A_X8_shift l g M1 li ho u v (by rw [h60]; exact hC.2.1.1)) (fun q2 M2 _ h => ?_)
  unfold K_shift at hq
  rw [h60] at h
  by_cases g1 : ¬ ((0 ≤ li ∧ li ≤ 5) ∧ (0 ≤ ho ∧ ho ≤ 9))
  · rw [if_pos g1] at hq h; exact ⟨by rw [h.1, hq.1], by rw [h.2, hq.2]; exact hC⟩
  rw [if_neg g1] at hq h
  by_cases g2 : ¬ (-40000 ≤ u ∧ u ≤ v ∧ v ≤ 40000)
  · rw [if_pos g2] at hq h; exact ⟨by rw [h.1, hq.1], by rw [h.2, hq.2]; exact hC⟩
  rw [if_neg g2] at hq h
  by_cases g3 : 80 ≤ M 1 13
  · rw [if_pos g3] at hq h; exact ⟨by rw [h.1, hq.1], by rw [h.2, hq.2]; exact hC⟩
  rw [if_neg g3] at hq h
  refine ⟨by rw [h.1, hq.1], ?_⟩
  have hM2 := h.2
  unfold addM at hM2
  rw [h60, hq.2] at hM2
  clear h hq hx h60
  obtain ⟨⟨a1, a2, a3, a4, a5, a6, a7, a8⟩, ⟨b1, b2, b3⟩, -, -, ⟨c1, -⟩⟩ := hC.1
  have s1 := (hC.2.2.1.1 (M 1 13) (Int.le_refl _))
  rw [b1, b2] at s1
  have t2 : M2 2 (M 1 13) = 1 := by rw [hM2]; simp [addX, addM, st_app]
  have t3 : M2 3 (M 1 13) = li := by rw [hM2]; simp [addX, addM, st_app]
  have t4 : M2 4 (M 1 13) = (-1) := by rw [hM2]; simp [addX, addM, st_app]
  have t5 : M2 5 (M 1 13) = ho := by rw [hM2]; simp [addX, addM, st_app]
  have t6 : M2 6 (M 1 13) = u := by rw [hM2]; simp [addX, addM, st_app]
  have t7 : M2 7 (M 1 13) = v := by rw [hM2]; simp [addX, addM, st_app]
  refine Cp_add hC (by omega) ?_ ?_ ?_ ?_ ?_ ?_ ?_ ?_ ?_ ?_ ?_
  · rw [hM2]; refine ⟨?_, ?_, ?_, ?_, ?_, ?_, ?_, ?_⟩ <;> simp [addX, st_app, a1, a2, a3, a4, a5, a6, a7, a8]
  · intro b j p1 p2 p3
    rw [hM2]
    have : b = 2 ∨ b = 3 ∨ b = 4 ∨ b = 5 ∨ b = 6 ∨ b = 7 ∨ b = 8 ∨ b = 9 := by omega
    rcases this with rfl | rfl | rfl | rfl | rfl | rfl | rfl | rfl <;> simp [addX, st_app, p3]
  · unfold TelX TelOk
    rw [t2, t3, t4, t5, t6, t7]
    omega
  · rw [hM2]; funext j; by_cases e : j = M 1 13 <;> simp [addX, st_app, e, s1]
  · rw [hM2]; funext j; by_cases e : j = M 1 13 <;> simp [addX, st_app, e, s1]
  · rw [hM2]; simp [addX, st_app]
  · rw [hM2]; simp [addX, st_app]
  · rw [hM2]; simp [addX, st_app]
  · rw [hM2]; simp [addX, st_app]
  · intro b p
    rw [hM2]
    have hb : (b ≠ 1 ∧ b ≠ 2 ∧ b ≠ 3 ∧ b ≠ 4 ∧ b ≠ 5 ∧ b ≠ 6 ∧ b ≠ 7 ∧ b ≠ 8 ∧ b ≠ 9) ∧ (b ≠ 60 ∧ b ≠ 61 ∧ b ≠ 62 ∧ b ≠ 63 ∧ b ≠ 64 ∧ b ≠ 65 ∧ b ≠ 66 ∧ b ≠ 67 ∧ b ≠ 68 ∧ b ≠ 69 ∧ b ≠ 70) := by omega
    simp [addX, st_app, hb]
  · intro j p1 p2
    rw [hM2]; simp [addX, st_app, p1, p2]
def K_anchor (M : FMem) (li so u v q : Int) (M1 : FMem) : Prop := if ¬ ((0 ≤ li ∧ li ≤ 5) ∧ (0 ≤ so ∧ so ≤ 5)) then q = -1000001 ∧ M1 = M else if ¬ (-40000 ≤ u ∧ u ≤ v ∧ v ≤ 40000) then q = -1000002 ∧ M1 = M else if 80 ≤ M 1 13 then q = -1000004 ∧ M1 = M else q = M 1 13 ∧ M1 = addX M 2 li so (-1) u v
theorem C_anchor (l : Launch) (g : Cx) (M : FMem) (li so u v : Int) (hC : Cp M) : AMi l g true fi_X7_anchor [fr 0, fi li, fi so, fi u, fi v] 93 M (fun q M1 => K_anchor M li so u v q M1) := A_X7_anchor l g M li so u v hC.2.1.1
set_option maxHeartbeats 4000000 in
theorem D_anchor (l : Launch) (g : Cx) (M M1 : FMem) (li so u v q : Int) (hC : Cp M) (hq : K_anchor M li so u v q M1) : AMi l g true fi_X8_anchor [fr 60, fi li, fi so, fi u, fi v] 93 M1 (fun q2 M2 => q2 = q ∧ Cp M2) := by
  have hn := Cp_n hC
  have hx : ∀ b, 60 ≤ b → M1 b = M b := by
    intro b p
    unfold K_anchor addX at hq
    have hb : (b ≠ 1 ∧ b ≠ 2 ∧ b ≠ 3 ∧ b ≠ 4 ∧ b ≠ 5) ∧ (b ≠ 6 ∧ b ≠ 7 ∧ b ≠ 8 ∧ b ≠ 9) := by omega
    split at hq
    · rw [hq.2]
    · split at hq
      · rw [hq.2]
      · split at hq
        · rw [hq.2]
        · rw [hq.2]; simp [st_app, hb]
  have h60 : M1 60 0 = M 1 13 := by rw [hx 60 (by decide), hn]
  refine AMi_w (A_X8_anchor l g M1 li so u v (by rw [h60]; exact hC.2.1.1)) (fun q2 M2 _ h => ?_)
  unfold K_anchor at hq
  rw [h60] at h
  by_cases g1 : ¬ ((0 ≤ li ∧ li ≤ 5) ∧ (0 ≤ so ∧ so ≤ 5))
  · rw [if_pos g1] at hq h; exact ⟨by rw [h.1, hq.1], by rw [h.2, hq.2]; exact hC⟩
  rw [if_neg g1] at hq h
  by_cases g2 : ¬ (-40000 ≤ u ∧ u ≤ v ∧ v ≤ 40000)
  · rw [if_pos g2] at hq h; exact ⟨by rw [h.1, hq.1], by rw [h.2, hq.2]; exact hC⟩
  rw [if_neg g2] at hq h
  by_cases g3 : 80 ≤ M 1 13
  · rw [if_pos g3] at hq h; exact ⟨by rw [h.1, hq.1], by rw [h.2, hq.2]; exact hC⟩
  rw [if_neg g3] at hq h
  refine ⟨by rw [h.1, hq.1], ?_⟩
  have hM2 := h.2
  unfold addM at hM2
  rw [h60, hq.2] at hM2
  clear h hq hx h60
  obtain ⟨⟨a1, a2, a3, a4, a5, a6, a7, a8⟩, ⟨b1, b2, b3⟩, -, -, ⟨c1, -⟩⟩ := hC.1
  have s1 := (hC.2.2.1.1 (M 1 13) (Int.le_refl _))
  rw [b1, b2] at s1
  have t2 : M2 2 (M 1 13) = 2 := by rw [hM2]; simp [addX, addM, st_app]
  have t3 : M2 3 (M 1 13) = li := by rw [hM2]; simp [addX, addM, st_app]
  have t4 : M2 4 (M 1 13) = so := by rw [hM2]; simp [addX, addM, st_app]
  have t5 : M2 5 (M 1 13) = (-1) := by rw [hM2]; simp [addX, addM, st_app]
  have t6 : M2 6 (M 1 13) = u := by rw [hM2]; simp [addX, addM, st_app]
  have t7 : M2 7 (M 1 13) = v := by rw [hM2]; simp [addX, addM, st_app]
  refine Cp_add hC (by omega) ?_ ?_ ?_ ?_ ?_ ?_ ?_ ?_ ?_ ?_ ?_
  · rw [hM2]; refine ⟨?_, ?_, ?_, ?_, ?_, ?_, ?_, ?_⟩ <;> simp [addX, st_app, a1, a2, a3, a4, a5, a6, a7, a8]
  · intro b j p1 p2 p3
    rw [hM2]
    have : b = 2 ∨ b = 3 ∨ b = 4 ∨ b = 5 ∨ b = 6 ∨ b = 7 ∨ b = 8 ∨ b = 9 := by omega
    rcases this with rfl | rfl | rfl | rfl | rfl | rfl | rfl | rfl <;> simp [addX, st_app, p3]
  · unfold TelX TelOk
    rw [t2, t3, t4, t5, t6, t7]
    omega
  · rw [hM2]; funext j; by_cases e : j = M 1 13 <;> simp [addX, st_app, e, s1]
  · rw [hM2]; funext j; by_cases e : j = M 1 13 <;> simp [addX, st_app, e, s1]
  · rw [hM2]; simp [addX, st_app]
  · rw [hM2]; simp [addX, st_app]
  · rw [hM2]; simp [addX, st_app]
  · rw [hM2]; simp [addX, st_app]
  · intro b p
    rw [hM2]
    have hb : (b ≠ 1 ∧ b ≠ 2 ∧ b ≠ 3 ∧ b ≠ 4 ∧ b ≠ 5 ∧ b ≠ 6 ∧ b ≠ 7 ∧ b ≠ 8 ∧ b ≠ 9) ∧ (b ≠ 60 ∧ b ≠ 61 ∧ b ≠ 62 ∧ b ≠ 63 ∧ b ≠ 64 ∧ b ≠ 65 ∧ b ≠ 66 ∧ b ≠ 67 ∧ b ≠ 68 ∧ b ≠ 69 ∧ b ≠ 70) := by omega
    simp [addX, st_app, hb]
  · intro j p1 p2
    rw [hM2]; simp [addX, st_app, p1, p2]
def K_light (M : FMem) (li so ho b m t c q : Int) (M1 : FMem) : Prop := if ¬ ((0 ≤ li ∧ li ≤ 5) ∧ (0 ≤ so ∧ so ≤ 5) ∧ (0 ≤ ho ∧ ho ≤ 9)) then q = -1000001 ∧ M1 = M else if ¬ ((-5000 ≤ b ∧ b ≤ 30000) ∧ (0 ≤ m ∧ m ≤ 999) ∧ (0 ≤ t ∧ t ≤ 3000) ∧ (-500 ≤ c ∧ c ≤ 3000)) then q = -1000002 ∧ M1 = M else if 80 ≤ M 1 13 then q = -1000004 ∧ M1 = M else q = M 1 13 ∧ M1 = st (st (addX M 0 li so ho b m) 8 (M 1 13) t) 9 (M 1 13) c
theorem C_light (l : Launch) (g : Cx) (M : FMem) (li so ho b m t c : Int) (hC : Cp M) : AMi l g true fi_X7_light [fr 0, fi li, fi so, fi ho, fi b, fi m, fi t, fi c] 93 M (fun q M1 => K_light M li so ho b m t c q M1) := A_X7_light l g M li so ho b m t c hC.2.1.1
set_option maxHeartbeats 4000000 in
theorem D_light (l : Launch) (g : Cx) (M M1 : FMem) (li so ho b m t c q : Int) (hC : Cp M) (hq : K_light M li so ho b m t c q M1) : AMi l g true fi_X8_light [fr 60, fi li, fi so, fi ho, fi b, fi m, fi t, fi c] 93 M1 (fun q2 M2 => q2 = q ∧ Cp M2) := by
  have hn := Cp_n hC
  have hx : ∀ b, 60 ≤ b → M1 b = M b := by
    intro b p
    unfold K_light addX at hq
    have hb : (b ≠ 1 ∧ b ≠ 2 ∧ b ≠ 3 ∧ b ≠ 4 ∧ b ≠ 5) ∧ (b ≠ 6 ∧ b ≠ 7 ∧ b ≠ 8 ∧ b ≠ 9) := by omega
    split at hq
    · rw [hq.2]
    · split at hq
      · rw [hq.2]
      · split at hq
        · rw [hq.2]
        · rw [hq.2]; simp [st_app, hb]
  have h60 : M1 60 0 = M 1 13 := by rw [hx 60 (by decide), hn]
  refine AMi_w (A_X8_light l g M1 li so ho b m t c (by rw [h60]; exact hC.2.1.1)) (fun q2 M2 _ h => ?_)
  unfold K_light at hq
  rw [h60] at h
  by_cases g1 : ¬ ((0 ≤ li ∧ li ≤ 5) ∧ (0 ≤ so ∧ so ≤ 5) ∧ (0 ≤ ho ∧ ho ≤ 9))
  · rw [if_pos g1] at hq h; exact ⟨by rw [h.1, hq.1], by rw [h.2, hq.2]; exact hC⟩
  rw [if_neg g1] at hq h
  by_cases g2 : ¬ ((-5000 ≤ b ∧ b ≤ 30000) ∧ (0 ≤ m ∧ m ≤ 999) ∧ (0 ≤ t ∧ t ≤ 3000) ∧ (-500 ≤ c ∧ c ≤ 3000))
  · rw [if_pos g2] at hq h; exact ⟨by rw [h.1, hq.1], by rw [h.2, hq.2]; exact hC⟩
  rw [if_neg g2] at hq h
  by_cases g3 : 80 ≤ M 1 13
  · rw [if_pos g3] at hq h; exact ⟨by rw [h.1, hq.1], by rw [h.2, hq.2]; exact hC⟩
  rw [if_neg g3] at hq h
  refine ⟨by rw [h.1, hq.1], ?_⟩
  have hM2 := h.2
  unfold addM at hM2
  rw [h60, hq.2] at hM2
  clear h hq hx h60
  obtain ⟨⟨a1, a2, a3, a4, a5, a6, a7, a8⟩, ⟨b1, b2, b3⟩, -, -, ⟨c1, -⟩⟩ := hC.1
  have s1 := (hC.2.2.1.1 (M 1 13) (Int.le_refl _))
  rw [b1, b2] at s1
  have t2 : M2 2 (M 1 13) = 0 := by rw [hM2]; simp [addX, addM, st_app]
  have t3 : M2 3 (M 1 13) = li := by rw [hM2]; simp [addX, addM, st_app]
  have t4 : M2 4 (M 1 13) = so := by rw [hM2]; simp [addX, addM, st_app]
  have t5 : M2 5 (M 1 13) = ho := by rw [hM2]; simp [addX, addM, st_app]
  have t6 : M2 6 (M 1 13) = b := by rw [hM2]; simp [addX, addM, st_app]
  have t7 : M2 7 (M 1 13) = m := by rw [hM2]; simp [addX, addM, st_app]
  have t8 : M2 8 (M 1 13) = t := by rw [hM2]; simp [addX, addM, st_app]
  have t9 : M2 9 (M 1 13) = c := by rw [hM2]; simp [addX, addM, st_app]
  refine Cp_add hC (by omega) ?_ ?_ ?_ ?_ ?_ ?_ ?_ ?_ ?_ ?_ ?_
  · rw [hM2]; refine ⟨?_, ?_, ?_, ?_, ?_, ?_, ?_, ?_⟩ <;> simp [addX, st_app, a1, a2, a3, a4, a5, a6, a7, a8]
  · intro b j p1 p2 p3
    rw [hM2]
    have : b = 2 ∨ b = 3 ∨ b = 4 ∨ b = 5 ∨ b = 6 ∨ b = 7 ∨ b = 8 ∨ b = 9 := by omega
    rcases this with rfl | rfl | rfl | rfl | rfl | rfl | rfl | rfl <;> simp [addX, st_app, p3]
  · unfold TelX TelOk
    rw [t2, t3, t4, t5, t6, t7, t8, t9]
    omega
  · rw [hM2]; funext j; by_cases e : j = M 1 13 <;> simp [addX, st_app, e, s1]
  · rw [hM2]; funext j; by_cases e : j = M 1 13 <;> simp [addX, st_app, e, s1]
  · rw [hM2]; simp [addX, st_app]
  · rw [hM2]; simp [addX, st_app]
  · rw [hM2]; simp [addX, st_app]
  · rw [hM2]; simp [addX, st_app]
  · intro b p
    rw [hM2]
    have hb : (b ≠ 1 ∧ b ≠ 2 ∧ b ≠ 3 ∧ b ≠ 4 ∧ b ≠ 5 ∧ b ≠ 6 ∧ b ≠ 7 ∧ b ≠ 8 ∧ b ≠ 9) ∧ (b ≠ 60 ∧ b ≠ 61 ∧ b ≠ 62 ∧ b ≠ 63 ∧ b ≠ 64 ∧ b ≠ 65 ∧ b ≠ 66 ∧ b ≠ 67 ∧ b ≠ 68 ∧ b ≠ 69 ∧ b ≠ 70) := by omega
    simp [addX, st_app, hb]
  · intro j p1 p2
    rw [hM2]; simp [addX, st_app, p1, p2]
