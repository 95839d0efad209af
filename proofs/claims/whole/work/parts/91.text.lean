/-! ===== feed and read over the coupling ===== -/
theorem byt_nn (b k : Int) : 0 ≤ byt b k := Int.emod_nonneg _ (by decide)
def K_feed (M : FMem) (cnt bytes q : Int) (M1 : FMem) : Prop := if ¬ (1 ≤ cnt ∧ cnt ≤ 8) then q = -1000002 ∧ M1 = M else if 240 < M 17 1 + cnt then q = -1000004 ∧ M1 = M else q = M 17 1 + cnt ∧ (∀ b j, b ≠ 18 → ¬ (b = 17 ∧ j = 1) → M1 b j = M b j) ∧ M1 17 1 = M 17 1 + cnt ∧ ∀ j, M1 18 j = if M 17 1 ≤ j ∧ j < M 17 1 + cnt then byt bytes (M 17 1 + cnt - 1 - j) else M 18 j
theorem C_feed (l : Launch) (g : Cx) (M : FMem) (cnt bytes : Int) (hC : Cp M) : AMi l g true fi_X7_feed [fr 0, fi cnt, fl bytes] 93 M (fun q M1 => K_feed M cnt bytes q M1) := A_X7_feed l g M cnt bytes hC.2.2.2.2.2.1.1
/-- only text, its length, the place of its fault and the rules change -/
theorem Cp_tx {M M2 : FMem} (hC : Cp M) (hb : ∀ b, (b < 13 ∧ b ≠ 0) ∨ (14 ≤ b ∧ b < 17) ∨ b = 38 ∨ (60 < b ∧ b < 75) → M2 b = M b) (h0 : ∀ j, j ≠ 6 → j ≠ 7 → M2 0 j = M 0 j) (ho : ∀ j, j = 0 ∨ j = 12 ∨ (42 ≤ j ∧ j ≤ 45) ∨ (54 ≤ j ∧ j ≤ 56) → M2 60 j = M 60 j) (h18 : M2 18 = M2 85) (h1 : M2 17 1 = M2 60 35) (h3 : M2 17 3 = M2 60 38) (hR : ∃ r, CR M2 r) (hX : CX M2) : Cp M2 := by
  obtain ⟨k1, k2, k3, -, k5, -, k7⟩ := hC
  obtain ⟨e1, e2, e3, e4, e5⟩ := k1
  refine ⟨⟨?_, ?_, ?_, h18, ?_, ?_, h1, h3⟩, ?_, ?_, hR, ?_, hX, ?_⟩
  · rw [hb 2 (by decide), hb 3 (by decide), hb 4 (by decide), hb 5 (by decide), hb 6 (by decide), hb 7 (by decide), hb 8 (by decide), hb 9 (by decide), hb 61 (by decide), hb 62 (by decide), hb 63 (by decide), hb 64 (by decide), hb 65 (by decide), hb 66 (by decide), hb 67 (by decide), hb 68 (by decide)]; exact e1
  · rw [hb 10 (by decide), hb 11 (by decide), hb 12 (by decide), hb 69 (by decide), hb 70 (by decide), hb 71 (by decide)]; exact e2
  · rw [hb 15 (by decide), hb 16 (by decide), hb 38 (by decide), hb 72 (by decide), hb 73 (by decide), hb 74 (by decide)]; exact e3
  · rw [hb 1 (by decide), ho 0 (by decide)]; exact e5.1
  · rw [hb 1 (by decide), ho 12 (by decide)]; exact e5.2.1
  · unfold CT TelX RedX at k2 ⊢
    rw [hb 2 (by decide), hb 3 (by decide), hb 4 (by decide), hb 5 (by decide), hb 6 (by decide), hb 7 (by decide), hb 8 (by decide), hb 9 (by decide), hb 15 (by decide), hb 16 (by decide), hb 38 (by decide), hb 1 (by decide)]
    exact k2
  · unfold CS at k3 ⊢
    rw [hb 10 (by decide), hb 11 (by decide), hb 12 (by decide), hb 1 (by decide)]
    exact k3
  · unfold CHd at k5 ⊢
    rw [h0 8 (by decide) (by decide), h0 9 (by decide) (by decide), h0 10 (by decide) (by decide), ho 54 (by decide), ho 55 (by decide), ho 56 (by decide)]
    exact k5
  · unfold CO at k7 ⊢
    rw [ho 42 (by decide), ho 43 (by decide), ho 44 (by decide), ho 45 (by decide)]
    exact k7
theorem D_feed (l : Launch) (g : Cx) (M M1 : FMem) (cnt bytes q : Int) (hC : Cp M) (hq : K_feed M cnt bytes q M1) : AMi l g true fi_X8_feed [fr 60, fi cnt, fl bytes] 93 M1 (fun q2 M2 => q2 = q ∧ Cp M2) := by
  obtain ⟨-, -, -, e4, ⟨c1, c2, c3, c4⟩⟩ := hC.1
  obtain ⟨x1, x2⟩ := hC.2.2.2.2.2.1
  unfold K_feed at hq
  have h60 : M1 60 = M 60 := by
    split at hq
    · rw [hq.2]
    · split at hq
      · rw [hq.2]
      · exact funext fun j => hq.2.1 60 j (by decide) (by omega)
  refine AMi_w (A_X8_feed l g M1 cnt bytes (by rw [h60, ← c3]; exact x1)) (fun q2 M2 _ h => ?_)
  rw [h60, ← c3] at h
  by_cases g1 : ¬ (1 ≤ cnt ∧ cnt ≤ 8)
  · rw [if_pos g1] at hq h; exact ⟨by rw [h.1, hq.1], by rw [h.2, hq.2]; exact hC⟩
  rw [if_neg g1] at hq h
  by_cases g2 : 240 < M 17 1 + cnt
  · rw [if_pos g2] at hq h; exact ⟨by rw [h.1, hq.1], by rw [h.2, hq.2]; exact hC⟩
  rw [if_neg g2] at hq h
  obtain ⟨q1, q2', q3, q4⟩ := hq
  obtain ⟨p1, p2, p3, p4⟩ := h
  have hb : ∀ b j, b ≠ 18 → b ≠ 17 → b ≠ 85 → b ≠ 60 → M2 b j = M b j := fun b j a1 a2 a3 a4 => (p2 b j a3 (by omega)).trans (q2' b j a1 (by omega))
  have hbf : ∀ b, b ≠ 18 → b ≠ 17 → b ≠ 85 → b ≠ 60 → M2 b = M b := fun b a1 a2 a3 a4 => funext fun j => hb b j a1 a2 a3 a4
  have ho : ∀ j, j ≠ 35 → M2 60 j = M 60 j := fun j a => (p2 60 j (by decide) (by omega)).trans (q2' 60 j (by decide) (by omega))
  have h18 : ∀ j, M2 18 j = if M 17 1 ≤ j ∧ j < M 17 1 + cnt then byt bytes (M 17 1 + cnt - 1 - j) else M 18 j := fun j => (p2 18 j (by decide) (by omega)).trans (q4 j)
  have h171 : M2 17 1 = M 17 1 + cnt := (p2 17 1 (by decide) (by omega)).trans q3
  refine ⟨by rw [p1, q1], Cp_tx hC (fun b p => hbf b (by omega) (by omega) (by omega) (by omega)) (fun j _ _ => hb 0 j (by decide) (by decide) (by decide) (by decide)) (fun j p => ho j (by omega)) ?_ ?_ ?_ ?_ ?_⟩
  · funext j
    rw [h18 j, p4 j, q2' 85 j (by decide) (by omega), e4]
  · rw [h171, p3]
  · rw [ho 38 (by decide), p2 17 3 (by decide) (by omega), q2' 17 3 (by decide) (by omega)]; exact c4
  · obtain ⟨r, hr⟩ := hC.2.2.2.1
    exact ⟨r, CR_cg (fun b a1 a2 => hbf b (by omega) (by omega) (by omega) (by omega)) (rm_cg (fun b a1 a2 => hbf b (by omega) (by omega) (by omega) (by omega)) (ho 17 (by decide)) (ho 18 (by decide)) (ho 20 (by decide)) (ho 21 (by decide))) (hb 0 6 (by decide) (by decide) (by decide) (by decide)) (hb 0 7 (by decide) (by decide) (by decide) (by decide)) hr⟩
  · refine ⟨by rw [h171]; omega, fun i a1 a2 => ?_⟩
    rw [h171] at a2
    rw [h18]
    by_cases z : M 17 1 ≤ i ∧ i < M 17 1 + cnt
    · rw [if_pos z]; exact byt_nn _ _
    · rw [if_neg z]; exact x2 i a1 (by omega)
def K_read (M : FMem) (q : Int) (M1 : FMem) : Prop := M1 17 3 = (rdl (tx M) (M 17 1) 21 0 0 R0).2.1 ∧ M1 17 1 = 0 ∧ (∀ b j, b ≠ 17 → b ≠ 19 → ¬ (b = 0 ∧ (j = 6 ∨ j = 7)) → (b < 42 ∨ 59 < b) → M1 b j = M b j) ∧ (((rdl (tx M) (M 17 1) 21 0 0 R0).1 ≠ 0 ∧ q = -10 - (rdl (tx M) (M 17 1) 21 0 0 R0).1 ∧ ∃ r, CR M1 r) ∨ ((rdl (tx M) (M 17 1) 21 0 0 R0).1 = 0 ∧ q = (rdl (tx M) (M 17 1) 21 0 0 R0).2.2.1 ∧ ∃ r : Nat, (r = 42 ∨ r = 51) ∧ (M1 0 6 = (r : Int) ∧ M1 0 7 = 93 - (r : Int)) ∧ DrP (sh r M1) (rdl (tx M) (M 17 1) 21 0 0 R0).2.2.2))
theorem C_read (l : Launch) (g : Cx) (M : FMem) (hC : Cp M) : AMi l g true fi_X7_read [fr 0] 93 M (fun q M1 => K_read M q M1) := by
  obtain ⟨r, hr⟩ := hC.2.2.2.1
  have hl := hC.2.2.2.2.2.1.1
  have h6 := hr.2.1.1
  have h7 := hr.2.1.2
  obtain ⟨w1, w2, w3, w4⟩ := hr
  rcases w1 with rfl | rfl
  · refine AMi_w (A_X7_read42 l g M hl h6 h7) (fun q M1 _ h => ?_)
    obtain ⟨a1, a2, a3, a4⟩ := h
    have hf : ∀ b j, b ≠ 17 → b ≠ 19 → ¬ (b = 0 ∧ (j = 6 ∨ j = 7)) → (b < 42 ∨ 59 < b) → M1 b j = M b j := fun b j p1 p2 p3 p4 => a3 b j p1 p2 p3 (by omega)
    refine ⟨a1, a2, hf, ?_⟩
    rcases a4 with ⟨b1, b2, b3, b4⟩ | ⟨b1, b2, b3, b4, b5⟩
    · refine Or.inl ⟨b1, b2, 42, Or.inl rfl, ⟨b3, b4⟩, RulX_cg (fun b p q => funext fun j => a3 b j (by omega) (by omega) (by omega) (by omega)) w3, ?_⟩
      rw [rm_cg (M := M) (fun b p q => funext fun j => hf b j (by omega) (by omega) (by omega) (by omega)) (hf 60 17 (by decide) (by decide) (by omega) (by decide)) (hf 60 18 (by decide) (by decide) (by omega) (by decide)) (hf 60 20 (by decide) (by decide) (by omega) (by decide)) (hf 60 21 (by decide) (by decide) (by omega) (by decide))]
      exact DrP_cg (fun c p => funext fun j => a3 (42 + c) j (by omega) (by omega) (by omega) (by omega)) w4
    · exact Or.inr ⟨b1, b2, 51, Or.inr rfl, ⟨b3, b4⟩, b5⟩
  · refine AMi_w (A_X7_read51 l g M hl h6 h7) (fun q M1 _ h => ?_)
    obtain ⟨a1, a2, a3, a4⟩ := h
    have hf : ∀ b j, b ≠ 17 → b ≠ 19 → ¬ (b = 0 ∧ (j = 6 ∨ j = 7)) → (b < 42 ∨ 59 < b) → M1 b j = M b j := fun b j p1 p2 p3 p4 => a3 b j p1 p2 p3 (by omega)
    refine ⟨a1, a2, hf, ?_⟩
    rcases a4 with ⟨b1, b2, b3, b4⟩ | ⟨b1, b2, b3, b4, b5⟩
    · refine Or.inl ⟨b1, b2, 51, Or.inr rfl, ⟨b3, b4⟩, RulX_cg (fun b p q => funext fun j => a3 b j (by omega) (by omega) (by omega) (by omega)) w3, ?_⟩
      rw [rm_cg (M := M) (fun b p q => funext fun j => hf b j (by omega) (by omega) (by omega) (by omega)) (hf 60 17 (by decide) (by decide) (by omega) (by decide)) (hf 60 18 (by decide) (by decide) (by omega) (by decide)) (hf 60 20 (by decide) (by decide) (by omega) (by decide)) (hf 60 21 (by decide) (by decide) (by omega) (by decide))]
      exact DrP_cg (fun c p => funext fun j => a3 (51 + c) j (by omega) (by omega) (by omega) (by omega)) w4
    · exact Or.inr ⟨b1, b2, 42, Or.inl rfl, ⟨b3, b4⟩, b5⟩
theorem RulX_R0 : RulX R0 0 := by
  unfold RulX R0
  refine ⟨fun s _ _ => ?_, fun s _ _ => ?_, ?_, ?_, ?_, fun k p q => ?_⟩
  all_goals simp_all
theorem DrP_two {P Q R : FMem} (h : DrP P R) (h2 : DrP Q R) : DrP P Q := by
  obtain ⟨a1, a2, a3⟩ := h
  obtain ⟨b1, b2, b3⟩ := h2
  refine ⟨fun c i p1 p2 p3 p4 => (a1 c i p1 p2 p3 p4).trans (b1 c i p1 p2 p3 p4).symm, ⟨a2.1.trans b2.1.symm, a2.2.1.trans b2.2.1.symm, a2.2.2.1.trans b2.2.2.1.symm, a2.2.2.2.trans b2.2.2.2.symm⟩, fun c i p1 p2 p3 p4 => ?_⟩
  rw [b2.2.2.2] at p4
  exact (a3 c i p1 p2 p3 p4).trans (b3 c i p1 p2 p3 p4).symm
theorem D_read (l : Launch) (g : Cx) (M M1 : FMem) (q : Int) (hC : Cp M) (hq : K_read M q M1) : AMi l g true fi_X8_read [fr 60] 93 M1 (fun q2 M2 => q2 = q ∧ Cp M2) := by
  obtain ⟨-, -, -, e4, ⟨c1, c2, c3, c4⟩⟩ := hC.1
  obtain ⟨x1, x2⟩ := hC.2.2.2.2.2.1
  obtain ⟨q1, q2', q3, q4⟩ := hq
  have h85 : M1 85 = M 18 := by rw [e4]; exact funext fun j => q3 85 j (by decide) (by decide) (by omega) (by decide)
  have h35 : M1 60 35 = M 17 1 := by rw [c3]; exact q3 60 35 (by decide) (by decide) (by omega) (by decide)
  refine AMi_w (A_X8_read l g M1 (by rw [h35]; exact x1) (by rw [h35, h85]; exact x2)) (fun q2 M2 _ h => ?_)
  have htm : tm M1 = tx M := by unfold tm tx; rw [h85]
  rw [htm, h35] at h
  obtain ⟨p1, p2, p3, p4⟩ := h
  have hb : ∀ b, b ≠ 17 → b ≠ 19 → b ≠ 0 → b ≠ 60 → (b < 42 ∨ (59 < b ∧ b < 75) ∨ 84 < b) → M2 b = M b := fun b a1 a2 a3 a4 a5 => funext fun j => (p3 b j (by omega) (by omega)).trans (q3 b j a1 a2 (by omega) (by omega))
  have h0 : ∀ j, M2 0 j = M1 0 j := fun j => p3 0 j (by omega) (by omega)
  have hX : ∀ b, b < 60 → M2 b = M1 b := fun b a => funext fun j => p3 b j (by omega) (by omega)
  have hcp : (∃ r, CR M2 r) → Cp M2 := fun hR => by
    refine Cp_tx hC (fun b p => hb b (by omega) (by omega) (by omega) (by omega) (by omega)) (fun j a1 a2 => (h0 j).trans (q3 0 j (by decide) (by decide) (by omega) (by decide))) (fun j p => (p3 60 j (by omega) (by omega)).trans (q3 60 j (by decide) (by decide) (by omega) (by decide))) ?_ ?_ ?_ hR ?_
    · rw [hb 18 (by decide) (by decide) (by decide) (by decide) (by decide), hb 85 (by decide) (by decide) (by decide) (by decide) (by decide)]; exact e4
    · rw [hX 17 (by decide), q2', p2]
    · rw [hX 17 (by decide), q1, p1]
    · have h171 : M2 17 1 = 0 := by rw [hX 17 (by decide), q2']
      exact ⟨by rw [h171]; decide, fun i a1 a2 => by rw [h171] at a2; omega⟩
  rcases q4 with ⟨r1, r2, r, hr⟩ | ⟨r1, r2, r, r3, r4, r5⟩
  · rcases p4 with ⟨s1, s2, s3⟩ | ⟨s1, -, -⟩
    · refine ⟨by rw [s2, r2], hcp ⟨r, CR_cg (fun b a1 a2 => hX b (by omega)) (rm_cg (fun b a1 a2 => funext fun j => s3 b j (Or.inl (by omega))) (s3 60 17 (by omega)) (s3 60 18 (by omega)) (s3 60 20 (by omega)) (s3 60 21 (by omega))) (h0 6) (h0 7) hr⟩⟩
    · exact absurd s1 r1
  · rcases p4 with ⟨s1, -, -⟩ | ⟨s1, s2, s3⟩
    · exact absurd r1 s1
    · have hdr : DrP (sh r M2) (rdl (tx M) (M 17 1) 21 0 0 R0).2.2.2 := DrP_cg (fun c a => hX (r + c) (by omega)) r5
      have hok := rdl_ok (tx M) (M 17 1) 21 0 0 R0 (by decide) x1.1 RulX_R0 r1
      exact ⟨by rw [s2, r2], hcp ⟨r, r3, ⟨by rw [h0]; exact r4.1, by rw [h0]; exact r4.2⟩, DrP_ok hdr hok, DrP_two hdr s3⟩⟩
