/-! ===== the class's cells beside the reference's ===== -/
def CE (M : FMem) : Prop := (M 2 = M 61 ∧ M 3 = M 62 ∧ M 4 = M 63 ∧ M 5 = M 64 ∧ M 6 = M 65 ∧ M 7 = M 66 ∧ M 8 = M 67 ∧ M 9 = M 68) ∧ (M 10 = M 69 ∧ M 11 = M 70 ∧ M 12 = M 71) ∧ (M 15 = M 72 ∧ M 16 = M 73 ∧ M 38 = M 74) ∧ M 18 = M 85 ∧ (M 1 13 = M 60 0 ∧ M 1 11 = M 60 12 ∧ M 17 1 = M 60 35 ∧ M 17 3 = M 60 38)
def CT (M : FMem) : Prop := (0 ≤ M 1 13 ∧ M 1 13 ≤ 80) ∧ (∀ i, 0 ≤ i → i < M 1 13 → TelX M i) ∧ RedX M ∧ ∀ h, 0 ≤ h → h < 10 → -1 ≤ M 38 h ∧ M 38 h ≤ 99999
/-- what is not told yet is neither out nor undone; the stack of what is undone falls -/
def CS (M : FMem) : Prop := (∀ j, M 1 13 ≤ j → M 10 j = 0 ∧ M 11 j = 0) ∧ 0 ≤ M 1 11 ∧ ∀ k, 0 ≤ k → k < M 1 11 → (0 ≤ M 12 k ∧ M 12 k + k < M 1 13) ∧ (∀ j, M 12 k ≤ j → j < M 1 13 → M 11 j = 1) ∧ ∀ k2, k < k2 → k2 < M 1 11 → M 12 k2 < M 12 k
def CR (M : FMem) (r : Nat) : Prop := (r = 42 ∨ r = 51) ∧ (M 0 6 = (r : Int) ∧ M 0 7 = 93 - (r : Int)) ∧ RulX M r ∧ DrP (sh r M) (rm M)
def CHd (M : FMem) : Prop := (M 0 8 = M 60 54 ∧ -999 ≤ M 0 8 ∧ M 0 8 ≤ 999) ∧ (M 0 9 = M 60 55 ∧ (M 60 55 = 0 ∨ M 60 55 = 1)) ∧ (M 60 56 = 0 ∨ M 60 56 = 1) ∧ (M 60 55 = 0 → M 60 56 = 0) ∧ ((M 0 10 = 1 ∧ M 60 55 = 1 ∧ M 60 56 = 0) ∨ (M 0 10 = 0 ∧ (M 60 55 = 0 ∨ M 60 56 = 1)))
def CX (M : FMem) : Prop := (0 ≤ M 17 1 ∧ M 17 1 ≤ 240) ∧ ∀ i, 0 ≤ i → i < M 17 1 → 0 ≤ M 18 i
def CO (M : FMem) : Prop := M 60 42 = -1 ∧ M 60 43 = -1 ∧ M 60 44 = -1 ∧ M 60 45 = 0
def Cp (M : FMem) : Prop := CE M ∧ CT M ∧ CS M ∧ (∃ r, CR M r) ∧ CHd M ∧ CX M ∧ CO M
/-- all that the coupling speaks of stays -/
def Fr (M M2 : FMem) : Prop := ∀ b j, (b < 13 ∨ (14 ≤ b ∧ b < 19) ∨ b = 38 ∨ (42 ≤ b ∧ b < 60) ∨ (60 < b ∧ b < 80) ∨ b = 85 ∨ (b = 60 ∧ (j < 42 ∨ 52 < j))) → M2 b j = M b j
theorem Fr_c {M M2 : FMem} (h : Fr M M2) {b : Nat} (hb : b < 13 ∨ (14 ≤ b ∧ b < 19) ∨ b = 38 ∨ (42 ≤ b ∧ b < 60) ∨ (60 < b ∧ b < 80) ∨ b = 85) : M2 b = M b := funext fun j => h b j (by omega)
theorem Fr_o {M M2 : FMem} (h : Fr M M2) {j : Int} (hj : j < 42 ∨ 52 < j) : M2 60 j = M 60 j := h 60 j (by omega)
theorem Fr_X {M M2 : FMem} (h : OffX M M2) : Fr M M2 := fun b j q => h b j (by omega)
theorem Fr_M {M M2 : FMem} (h : OffM M M2) : Fr M M2 := fun b j q => h b j (by omega)
theorem RulX_cg {M M2 : FMem} {r : Nat} (h : ∀ b, r ≤ b → b ≤ r + 8 → M2 b = M b) (hT : RulX M r) : RulX M2 r := by
  unfold RulX at hT ⊢
  rw [h r (by omega) (by omega), h (r + 1) (by omega) (by omega), h (r + 2) (by omega) (by omega), h (r + 3) (by omega) (by omega), h (r + 4) (by omega) (by omega), h (r + 5) (by omega) (by omega), h (r + 6) (by omega) (by omega), h (r + 7) (by omega) (by omega)]
  exact hT
theorem DrP_cg {Q Q2 R : FMem} (h : ∀ c, c ≤ 8 → Q2 c = Q c) (hT : DrP Q R) : DrP Q2 R := by
  obtain ⟨h1, h2, h3⟩ := hT
  refine ⟨fun c i a b d e => ?_, ?_, fun c i a b d e => ?_⟩
  · rw [h c (by omega)]; exact h1 c i a b d e
  · rw [h 0 (by omega)]; exact h2
  · rw [h c (by omega)]; exact h3 c i a b d e
theorem CE_fr {M M2 : FMem} (h : Fr M M2) (hT : CE M) : CE M2 := by
  unfold CE at hT ⊢
  rw [Fr_c h (b := 2) (by decide), Fr_c h (b := 3) (by decide), Fr_c h (b := 4) (by decide), Fr_c h (b := 5) (by decide), Fr_c h (b := 6) (by decide), Fr_c h (b := 7) (by decide), Fr_c h (b := 8) (by decide), Fr_c h (b := 9) (by decide), Fr_c h (b := 10) (by decide), Fr_c h (b := 11) (by decide), Fr_c h (b := 12) (by decide), Fr_c h (b := 15) (by decide), Fr_c h (b := 16) (by decide), Fr_c h (b := 38) (by decide), Fr_c h (b := 18) (by decide), Fr_c h (b := 61) (by decide), Fr_c h (b := 62) (by decide), Fr_c h (b := 63) (by decide), Fr_c h (b := 64) (by decide), Fr_c h (b := 65) (by decide), Fr_c h (b := 66) (by decide), Fr_c h (b := 67) (by decide), Fr_c h (b := 68) (by decide), Fr_c h (b := 69) (by decide), Fr_c h (b := 70) (by decide), Fr_c h (b := 71) (by decide), Fr_c h (b := 72) (by decide), Fr_c h (b := 73) (by decide), Fr_c h (b := 74) (by decide), Fr_c h (b := 85) (by decide), Fr_c h (b := 1) (by decide), Fr_c h (b := 17) (by decide), Fr_o h (j := 0) (by decide), Fr_o h (j := 12) (by decide), Fr_o h (j := 35) (by decide), Fr_o h (j := 38) (by decide)]
  exact hT
theorem CT_fr {M M2 : FMem} (h : Fr M M2) (hT : CT M) : CT M2 := by
  unfold CT TelX RedX at hT ⊢
  rw [Fr_c h (b := 2) (by decide), Fr_c h (b := 3) (by decide), Fr_c h (b := 4) (by decide), Fr_c h (b := 5) (by decide), Fr_c h (b := 6) (by decide), Fr_c h (b := 7) (by decide), Fr_c h (b := 8) (by decide), Fr_c h (b := 9) (by decide), Fr_c h (b := 15) (by decide), Fr_c h (b := 16) (by decide), Fr_c h (b := 38) (by decide), Fr_c h (b := 1) (by decide)]
  exact hT
theorem CS_fr {M M2 : FMem} (h : Fr M M2) (hT : CS M) : CS M2 := by
  unfold CS at hT ⊢
  rw [Fr_c h (b := 10) (by decide), Fr_c h (b := 11) (by decide), Fr_c h (b := 12) (by decide), Fr_c h (b := 1) (by decide)]
  exact hT
theorem CHd_fr {M M2 : FMem} (h : Fr M M2) (hT : CHd M) : CHd M2 := by
  unfold CHd at hT ⊢
  rw [Fr_c h (b := 0) (by decide), Fr_o h (j := 54) (by decide), Fr_o h (j := 55) (by decide), Fr_o h (j := 56) (by decide)]
  exact hT
theorem CX_fr {M M2 : FMem} (h : Fr M M2) (hT : CX M) : CX M2 := by
  unfold CX at hT ⊢
  rw [Fr_c h (b := 17) (by decide), Fr_c h (b := 18) (by decide)]
  exact hT
theorem rm_cg {M M2 : FMem} (h : ∀ b, 75 ≤ b → b < 80 → M2 b = M b) (h17 : M2 60 17 = M 60 17) (h18 : M2 60 18 = M 60 18) (h20 : M2 60 20 = M 60 20) (h21 : M2 60 21 = M 60 21) : rm M2 = rm M := by
  unfold rm
  rw [h 75 (by decide) (by decide), h 76 (by decide) (by decide), h 77 (by decide) (by decide), h 78 (by decide) (by decide), h 79 (by decide) (by decide), h17, h18, h20, h21]
theorem CR_cg {M M2 : FMem} {r : Nat} (h : ∀ b, 42 ≤ b → b < 60 → M2 b = M b) (hm : rm M2 = rm M) (h6 : M2 0 6 = M 0 6) (h7 : M2 0 7 = M 0 7) (hT : CR M r) : CR M2 r := by
  obtain ⟨h1, h2, h3, h4⟩ := hT
  refine ⟨h1, by rw [h6, h7]; exact h2, RulX_cg (fun b p q => h b (by omega) (by omega)) h3, ?_⟩
  rw [hm]
  exact DrP_cg (fun c p => h (r + c) (by omega) (by omega)) h4
theorem CR_fr {M M2 : FMem} {r : Nat} (h : Fr M M2) (hT : CR M r) : CR M2 r :=
  CR_cg (fun b p q => Fr_c h (by omega)) (rm_cg (fun b p q => Fr_c h (by omega)) (Fr_o h (by decide)) (Fr_o h (by decide)) (Fr_o h (by decide)) (Fr_o h (by decide))) (h 0 6 (by decide)) (h 0 7 (by decide)) hT
theorem Cp_fr {M M2 : FMem} (h : Fr M M2) (ho : CO M2) (hT : Cp M) : Cp M2 := by
  obtain ⟨h1, h2, h3, ⟨r, h4⟩, h5, h6, -⟩ := hT
  exact ⟨CE_fr h h1, CT_fr h h2, CS_fr h h3, ⟨r, CR_fr h h4⟩, CHd_fr h h5, CX_fr h h6, ho⟩
theorem Cp_X {M M2 : FMem} (h : OffX M M2) (hT : Cp M) : Cp M2 := Cp_fr (Fr_X h) (by
  have := hT.2.2.2.2.2.2
  unfold CO at this ⊢
  rw [h 60 42 (by decide), h 60 43 (by decide), h 60 44 (by decide), h 60 45 (by decide)]
  exact this) hT
theorem Cp_N {M M2 : FMem} (h : OffN M M2) (hT : Cp M) : Cp M2 := Cp_fr (Fr_M h.1) h.2 hT
theorem Cp_XT {M : FMem} {r : Nat} (hT : Cp M) (hr : CR M r) : XT M r := ⟨hT.2.1.1, hT.2.1.2.1, hr.2.1.1, hT.2.1.2.2.1, hr.2.2.1⟩
theorem sort_at {M : FMem} {r : Nat} (h : DrP (sh r M) (rm M)) {s : Int} (h0 : 0 ≤ s) (h5 : s < 6) : M (r + 1) s = M 75 (4 * s) ∧ M (r + 2) s = M 75 (4 * s + 1) ∧ M (r + 3) s = M 75 (4 * s + 2) ∧ M (r + 4) s = M 75 (4 * s + 3) ∧ M (r + 5) s = M 76 s := by
  have e := fun c a b => h.1 c s a b h0 h5
  have e1 := e 1 (by decide) (by decide)
  have e2 := e 2 (by decide) (by decide)
  have e3 := e 3 (by decide) (by decide)
  have e4 := e 4 (by decide) (by decide)
  have e5 := e 5 (by decide) (by decide)
  simp [sh, rm] at e1 e2 e3 e4 e5
  exact ⟨e1, e2, e3, e4, e5⟩
theorem rule_at {M : FMem} {r : Nat} (h : DrP (sh r M) (rm M)) : M r 5 = M 60 17 ∧ M r 6 = M 60 18 ∧ M r 7 = M 60 20 ∧ M r 11 = M 60 21 := by
  have e := h.2.1
  simp [sh, rm] at e
  exact e
theorem claim_at {M : FMem} {r : Nat} (h : DrP (sh r M) (rm M)) {k : Int} (h0 : 0 ≤ k) (h1 : k < M 60 21) : M (r + 6) k = M 77 k ∧ M (r + 7) k = M 78 k ∧ M (r + 8) k = M 79 k := by
  have e := fun c a b => h.2.2 c k a b h0 (by simp [rm]; exact h1)
  have e6 := e 6 (by decide) (by decide)
  have e7 := e 7 (by decide) (by decide)
  have e8 := e 8 (by decide) (by decide)
  simp [sh, rm] at e6 e7 e8
  exact ⟨e6, e7, e8⟩
theorem CR_M {M : FMem} {r : Nat} (hr : CR M r) : RulM M := by
  obtain ⟨-, -, h3, h4⟩ := hr
  obtain ⟨a1, a2, a3, a4, a5, a6⟩ := h3
  obtain ⟨b1, b2, b3, b4⟩ := rule_at h4
  refine ⟨fun s p q => ?_, fun s p q => ?_, by rw [← b1, ← b2]; exact a3, by rw [← b3]; exact a4, by rw [← b4]; exact a5, fun k p q => ?_⟩
  · obtain ⟨c1, c2, c3, c4, c5⟩ := sort_at h4 p q
    rw [← c1, ← c2, ← c3, ← c4]; exact a1 s p q
  · obtain ⟨c1, c2, c3, c4, c5⟩ := sort_at h4 p q
    rw [← c5]; exact a2 s p q
  · obtain ⟨c1, c2, c3⟩ := claim_at h4 p q
    rw [← c1, ← c2]; exact a6 k p (by rw [b4]; exact q)
theorem Cp_MT {M : FMem} (hT : Cp M) : MT M := by
  obtain ⟨h1, h2, h3, ⟨r, h4⟩, h5, h6, h7⟩ := hT
  obtain ⟨⟨a1, a2, a3, a4, a5, a6, a7, a8⟩, -, ⟨b1, b2, b3⟩, -, ⟨c1, -⟩⟩ := h1
  obtain ⟨d1, d2, d3, -⟩ := h2
  refine ⟨⟨by rw [← c1]; exact d1, fun i p q => ?_, ?_, CR_M h4⟩, h7⟩
  · unfold TelM
    rw [← a1, ← a2, ← a3, ← a4, ← a5, ← a6, ← a7, ← a8]; exact d2 i p (by rw [c1]; exact q)
  · unfold RedM
    rw [← b1, ← b2]; exact d3
theorem Cp_RedN {M : FMem} (hT : Cp M) : RedN M := by
  unfold RedN
  rw [← hT.1.2.2.1.2.2]; exact hT.2.1.2.2.2
/-- both sides read a telling alike -/
theorem Cp_span {M : FMem} {r : Nat} (hT : Cp M) (hr : CR M r) {i : Int} (h0 : 0 ≤ i) (h1 : i < M 1 13) : lowX M r i = lowM M i ∧ highX M r i = highM M i ∧ toT M i = un (upM M i) ∧ frT M i = un (loM M i) := by
  have ht := hT.2.1.2.1 i h0 h1
  obtain ⟨⟨a1, a2, a3, a4, a5, a6, a7, a8⟩, -, ⟨b1, b2, b3⟩, -⟩ := hT.1
  obtain ⟨c1, c2, c3, c4⟩ := rule_at hr.2.2.2
  unfold TelX TelOk at ht
  have hl : M (r + 5) (M 3 i) = M 76 (M 3 i) := (sort_at hr.2.2.2 (by omega) (by omega)).2.2.2.2
  unfold lowX highX lowM highM lowS highS toT frT upM loM
  rw [← a1, ← a2, ← a3, ← a4, ← a5, ← a6, ← a7, ← a8, ← b1, ← b2, c1, c2, hl]
  refine ⟨?_, ?_, ?_, ?_⟩
  · by_cases k0 : M 2 i = 0
    · obtain ⟨d1, d2, d3, d4, d5⟩ := sort_at hr.2.2.2 (s := M 4 i) (by omega) (by omega)
      rw [if_pos k0, if_pos k0, d2, d3, d4]
    · rw [if_neg k0, if_neg k0]
  · by_cases k0 : M 2 i = 0
    · obtain ⟨d1, d2, d3, d4, d5⟩ := sort_at hr.2.2.2 (s := M 4 i) (by omega) (by omega)
      rw [if_pos k0, if_pos k0, d1, d3, d4]
    · rw [if_neg k0, if_neg k0]
  · unfold un
    by_cases k2 : M 2 i = 2
    · rw [if_pos k2, if_pos k2, if_pos rfl]
    · rw [if_neg k2, if_neg k2, if_neg (by omega)]; omega
  · unfold un
    by_cases k2 : M 2 i = 1
    · rw [if_pos k2, if_pos k2, if_pos rfl]
    · rw [if_neg k2, if_neg k2, if_neg (by omega)]; omega
theorem Cp_sol {M : FMem} {r : Nat} (hT : Cp M) (hr : CR M r) {kw : Int} (hk : kw ≤ M 1 13) (li one two w : Int) : SolT M r kw li one two w = SolR M kw li one two w := by
  obtain ⟨⟨a1, a2, -⟩, ⟨b1, b2, -⟩, -, -, ⟨c1, -⟩⟩ := hT.1
  funext x
  apply propext
  unfold SolT SolR inT inR TTX
  rw [← a2, ← b1, ← b2, ← c1]
  constructor
  · rintro h i i0 i1 ⟨j1, j2, j3, j4, j5, j6⟩
    obtain ⟨s1, s2, s3, s4⟩ := Cp_span hT hr i0 i1
    have := h i i0 j1 ⟨j2, j3⟩ j6 j4 j5
    rw [s1, s2, s3, s4] at this
    omega
  · intro h i i0 i1 i2 i3 i4 i5
    obtain ⟨s1, s2, s3, s4⟩ := Cp_span hT hr i0 (by omega)
    have := h i i0 (by omega) ⟨i1, i2.1, i2.2, i4, i5, i3⟩
    rw [s1, s2, s3, s4]
    omega
/-- SolR over a frame -/
theorem SolR_ox {M M2 : FMem} (h : OffX M M2) (kw li one two w : Int) : SolR M2 kw li one two w = SolR M kw li one two w := by
  have e : ∀ b, 41 < b → M2 b = M b := fun b p => funext fun j => h b j (by omega)
  unfold SolR inR upM loM lowM highM
  rw [e 60 (by decide), e 61 (by decide), e 62 (by decide), e 63 (by decide), e 64 (by decide), e 65 (by decide), e 66 (by decide), e 67 (by decide), e 68 (by decide), e 69 (by decide), e 70 (by decide), e 72 (by decide), e 73 (by decide), e 75 (by decide), e 76 (by decide)]
theorem PEnds_cg {n : Int} {S S' : Int → (Int → Int) → Prop} {home k what hid q : Int} (h : ∀ kw, kw ≤ n → S kw = S' kw) (a : PEnds n S home k what hid q) : PEnds n S' home k what hid q := by
  unfold PEnds at a ⊢
  split
  · rw [if_pos (by assumption)] at a; exact a
  · rw [if_neg (by assumption)] at a
    split
    · rw [if_pos (by assumption)] at a; exact a
    · rename_i z
      rw [if_neg z] at a
      rw [← h _ (by split <;> omega)]; exact a
theorem PWid_cg {n : Int} {F F' : Int → Int → Prop} {k q : Int} (h : ∀ kw, kw ≤ n → F kw = F' kw) (a : PWid n F k q) : PWid n F' k q := by
  unfold PWid at a ⊢
  split
  · rw [if_pos (by assumption)] at a; exact a
  · rename_i z
    rw [if_neg z] at a
    rw [← h _ (by split <;> omega)]; exact a
/-! contracts weakened -/
theorem AMi_w {l : Launch} {g : Cx} {ph : Bool} {f : FI} {as : List FV} {n : Nat} {M : FMem} {P P2 : Int → FMem → Prop} (h : AMi l g ph f as n M P) (hw : ∀ r M2, MOk ph M2 → P r M2 → P2 r M2) : AMi l g ph f as n M P2 := by
  intro a b p e ha hc hk s m args below hf happ hP ht
  obtain ⟨k, o, h1, h2, h3, ⟨⟨r, u, e1, ⟨e2, e3, e4, e5⟩, e6⟩, e7⟩, e8⟩ := h a b p e ha hc hk s m args below hf happ hP ht
  exact ⟨k, o, h1, h2, h3, ⟨⟨r, u, e1, ⟨e2, e3, e4, hw _ _ e4 e5⟩, e6⟩, e7⟩, e8⟩
theorem AMl_w {l : Launch} {g : Cx} {ph : Bool} {f : FI} {as : List FV} {n : Nat} {M : FMem} {P P2 : Int → FMem → Prop} (h : AMl l g ph f as n M P) (hw : ∀ r M2, MOk ph M2 → P r M2 → P2 r M2) : AMl l g ph f as n M P2 := by
  intro a b p e ha hc hk s m args below hf happ hP ht
  obtain ⟨k, o, h1, h2, h3, ⟨⟨r, u, e1, ⟨e2, e3, e4, e5⟩, e6⟩, e7⟩, e8⟩ := h a b p e ha hc hk s m args below hf happ hP ht
  exact ⟨k, o, h1, h2, h3, ⟨⟨r, u, e1, ⟨e2, e3, e4, hw _ _ e4 e5⟩, e6⟩, e7⟩, e8⟩
