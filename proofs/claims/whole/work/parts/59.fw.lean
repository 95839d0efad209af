/-! ===== sums of ways, three loops: purely ===== -/
def dg0 (D : Int → Int → Int) : Prop := ∀ a, nd a → 0 ≤ D a a
def FWs (K : (Int → Int) → Prop) (D : Int → Int → Int) : Prop := (∀ a b, nd a → nd b → -1000000000000 ≤ D a b ∧ D a b ≤ 1000000000000) ∧ (∀ a, nd a → D a a ≤ 0) ∧ (∀ y, K y → ∀ a b, nd a → nd b → D a b < 1000000000000 → y b - y a ≤ D a b)
def FWc (D : Int → Int → Int) (c B : Int) : Prop := (∀ a b k, nd a → nd b → 0 ≤ k → k < c → k < 17 → D a k < 1000000000000 → D k b < 1000000000000 → D a b ≤ D a k + D k b) ∧ (∀ a b, nd a → nd b → D a b = 1000000000000 ∨ (-B ≤ D a b ∧ D a b ≤ B)) ∧ (∀ a b, nd a → nd b → D a b < 1000000000000 → D b a < 1000000000000)
def bnd (c : Int) : Int := 600000 * 2 ^ c.toNat
theorem bnd_s {c : Int} (h : 0 ≤ c) : bnd (c + 1) = 2 * bnd c := by
  unfold bnd
  rw [show (c + 1).toNat = c.toNat + 1 by omega, Int.pow_succ]
  omega
theorem bnd_b {c : Int} (h0 : 0 ≤ c) (h : c ≤ 17) : 600000 ≤ bnd c ∧ bnd c ≤ 100000000000 := by
  have hc : ∀ k : Fin 18, 600000 ≤ bnd (k.val : Int) ∧ bnd (k.val : Int) ≤ 100000000000 := by decide +kernel
  have := hc ⟨c.toNat, by omega⟩
  simp only [Int.toNat_of_nonneg h0] at this
  exact this
def FWI (K : (Int → Int) → Prop) (D0 D : Int → Int → Int) (c : Int) : Prop := FWs K D ∧ (∀ a b, nd a → nd b → D a b ≤ D0 a b) ∧ (dg0 D → FWc D c (bnd c))
def nw (D : Int → Int → Int) (c p q : Int) : Int := if D p c < 1000000000000 ∧ D c q < 1000000000000 ∧ D p c + D c q < D p q then D p c + D c q else D p q
def FWp (K : (Int → Int) → Prop) (Do D : Int → Int → Int) (c a b : Int) : Prop := FWs K D ∧ (∀ p q, nd p → nd q → D p q ≤ Do p q) ∧ (dg0 D → ∀ p q, nd p → nd q → D p q = if p < a ∨ (p = a ∧ q < b) then nw Do c p q else Do p q)
theorem fw_start {K : (Int → Int) → Prop} {D0 D : Int → Int → Int} {c : Int} (h : FWI K D0 D c) : FWp K D D c 0 0 :=
  ⟨h.1, fun _ _ _ _ => Int.le_refl _, fun _ p q hp hq => by rw [if_neg (by omega)]⟩
theorem fw_row {K : (Int → Int) → Prop} {Do D : Int → Int → Int} {c a : Int} (h : FWp K Do D c a 17) : FWp K Do D c (a + 1) 0 :=
  ⟨h.1, h.2.1, fun z p q hp hq => by
    rw [h.2.2 z p q hp hq]
    by_cases e : p < a ∨ (p = a ∧ q < 17)
    · rw [if_pos e, if_pos (by omega)]
    · rw [if_neg e, if_neg (by omega)]⟩
theorem fw_skip {K : (Int → Int) → Prop} {D0 Do D : Int → Int → Int} {c a b : Int} (hc : nd c) (ha : nd a) (hb : nd b) (hI : FWI K D0 Do c) (h : FWp K Do D c a b) (hn : ¬ (D a c < 1000000000000 ∧ D c b < 1000000000000)) : FWp K Do D c a (b + 1) := by
  refine ⟨h.1, h.2.1, fun z p q hp hq => ?_⟩
  have hz := h.2.2 z
  have hdo : dg0 Do := fun v hv => Int.le_trans (z v hv) (h.2.1 v v hv hv)
  have hcc : Do c c = 0 := by have := hdo c hc; have := hI.1.2.1 c hc; omega
  have e1 : D a c = Do a c := by
    rw [hz a c ha hc]
    split
    · unfold nw
      rw [hcc, if_neg (by omega)]
    · rfl
  have e2 : D c b = Do c b := by
    rw [hz c b hc hb]
    split
    · unfold nw
      rw [hcc, if_neg (by omega)]
    · rfl
  rw [hz p q hp hq]
  by_cases e : p = a ∧ q = b
  · rw [if_neg (by omega), if_pos (by omega), e.1, e.2]
    unfold nw
    rw [if_neg (by omega)]
  · by_cases e3 : p < a ∨ (p = a ∧ q < b)
    · rw [if_pos e3, if_pos (by omega)]
    · rw [if_neg e3, if_neg (by omega)]
theorem fw_step {K : (Int → Int) → Prop} {D0 Do D D' : Int → Int → Int} {c a b v : Int} (hc : nd c) (ha : nd a) (hb : nd b) (hI : FWI K D0 Do c) (h : FWp K Do D c a b) (hfin : D a c < 1000000000000 ∧ D c b < 1000000000000)
    (hv : v = if D a c + D c b < -1000000000000 then -1000000000000 else D a c + D c b) (hD' : ∀ p q, nd p → nd q → D' p q = if p = a ∧ q = b then (if D a b < v then D a b else v) else D p q) : FWp K Do D' c a (b + 1) := by
  have hle : ∀ p q, nd p → nd q → D' p q ≤ D p q := by
    intro p q hp hq
    rw [hD' p q hp hq]
    split
    · rename_i e; rw [e.1, e.2]; split <;> omega
    · exact Int.le_refl _
  have r1 := h.1.1 a c ha hc
  have r2 := h.1.1 c b hc hb
  have hvb : -1000000000000 ≤ v ∧ D a c + D c b ≤ v := by rw [hv]; split <;> omega
  refine ⟨⟨fun p q hp hq => ?_, fun p hp => Int.le_trans (hle p p hp hp) (h.1.2.1 p hp), fun y hy p q hp hq hf => ?_⟩, fun p q hp hq => Int.le_trans (hle p q hp hq) (h.2.1 p q hp hq), fun z p q hp hq => ?_⟩
  · have r := h.1.1 p q hp hq
    have := hle p q hp hq
    rw [hD' p q hp hq] at this ⊢
    split
    · rename_i e
      have r3 := h.1.1 a b ha hb
      split <;> omega
    · exact r
  · rw [hD' p q hp hq] at hf ⊢
    by_cases e : p = a ∧ q = b
    · rw [if_pos e] at hf ⊢
      rw [e.1, e.2]
      have s1 := h.1.2.2 y hy a c ha hc hfin.1
      have s2 := h.1.2.2 y hy c b hc hb hfin.2
      by_cases e2 : D a b < v
      · rw [if_pos e2] at hf ⊢
        exact h.1.2.2 y hy a b ha hb hf
      · rw [if_neg e2]; omega
    · rw [if_neg e] at hf ⊢
      exact h.1.2.2 y hy p q hp hq hf
  · have hdD : dg0 D := fun w hw => Int.le_trans (z w hw) (hle w w hw hw)
    have hz := h.2.2 hdD
    have hdo : dg0 Do := fun w hw => Int.le_trans (hdD w hw) (h.2.1 w w hw hw)
    have hcc : Do c c = 0 := by have := hdo c hc; have := hI.1.2.1 c hc; omega
    have e1 : D a c = Do a c := by
      rw [hz a c ha hc]
      split
      · unfold nw
        rw [hcc, if_neg (by omega)]
      · rfl
    have e2 : D c b = Do c b := by
      rw [hz c b hc hb]
      split
      · unfold nw
        rw [hcc, if_neg (by omega)]
      · rfl
    have e0 : D a b = Do a b := by rw [hz a b ha hb, if_neg (by omega)]
    have hB := bnd_b hc.1 (by omega)
    have hq1 := (hI.2.2 hdo).2.1 a c ha hc
    have hq2 := (hI.2.2 hdo).2.1 c b hc hb
    have hvv : v = Do a c + Do c b := by rw [hv, e1, e2, if_neg (by omega)]
    rw [hD' p q hp hq]
    by_cases e : p = a ∧ q = b
    · rw [if_pos e, if_pos (show p < a ∨ (p = a ∧ q < b + 1) by omega), e.1, e.2]
      unfold nw
      rw [e0, hvv]
      by_cases e3 : Do a c + Do c b < Do a b
      · rw [if_neg (by omega), if_pos (by omega)]
      · rw [if_neg (show ¬ (_ ∧ _ ∧ _) by omega)]
        split <;> omega
    · rw [if_neg e, hz p q hp hq]
      by_cases e3 : p < a ∨ (p = a ∧ q < b)
      · rw [if_pos e3, if_pos (by omega)]
      · rw [if_neg e3, if_neg (by omega)]
theorem nw_le (D : Int → Int → Int) (c p q : Int) : nw D c p q ≤ D p q := by unfold nw; split <;> omega
theorem nw_v {D : Int → Int → Int} {c p q : Int} (h1 : D p c < 1000000000000) (h2 : D c q < 1000000000000) : nw D c p q ≤ D p c + D c q := by unfold nw; split <;> omega
theorem nw_c (D : Int → Int → Int) (c p q : Int) : nw D c p q = D p q ∨ (D p c < 1000000000000 ∧ D c q < 1000000000000 ∧ nw D c p q = D p c + D c q) := by
  unfold nw
  split
  · rename_i e; exact Or.inr ⟨e.1, e.2.1, rfl⟩
  · exact Or.inl rfl
theorem fw_stage {K : (Int → Int) → Prop} {D0 Do D : Int → Int → Int} {c : Int} (hc : nd c) (hI : FWI K D0 Do c) (h : FWp K Do D c 17 0) : FWI K D0 D (c + 1) := by
  refine ⟨h.1, fun a b ha hb => Int.le_trans (h.2.1 a b ha hb) (hI.2.1 a b ha hb), fun z => ?_⟩
  have hz : ∀ p q, nd p → nd q → D p q = nw Do c p q := fun p q hp hq => by rw [h.2.2 z p q hp hq, if_pos (by omega)]
  have hdo : dg0 Do := fun w hw => Int.le_trans (z w hw) (h.2.1 w w hw hw)
  have hcc : Do c c = 0 := by have := hdo c hc; have := hI.1.2.1 c hc; omega
  obtain ⟨h1, h2, h3⟩ := hI.2.2 hdo
  have hB := bnd_b hc.1 (by omega)
  have hfin : ∀ p q, nd p → nd q → (D p q < 1000000000000 ↔ Do p q < 1000000000000 ∨ (Do p c < 1000000000000 ∧ Do c q < 1000000000000)) := by
    intro p q hp hq
    rw [hz p q hp hq]
    constructor
    · intro hf
      rcases nw_c Do c p q with e | ⟨e1, e2, e3⟩
      · left; omega
      · exact Or.inr ⟨e1, e2⟩
    · rintro (e | ⟨e1, e2⟩)
      · have := nw_le Do c p q; omega
      · have := nw_v (D := Do) (c := c) e1 e2
        have := h2 p c hp hc
        have := h2 c q hc hq
        omega
  have hac : ∀ p, nd p → D p c = Do p c := by
    intro p hp
    rw [hz p c hp hc]
    unfold nw
    rw [hcc, if_neg (by omega)]
  have hca : ∀ p, nd p → D c p = Do c p := by
    intro p hp
    rw [hz c p hc hp]
    unfold nw
    rw [hcc, if_neg (by omega)]
  refine ⟨fun a b k ha hb k0 k1 k2 fa fb => ?_, fun a b ha hb => ?_, fun a b ha hb hf => ?_⟩
  · have hk : nd k := ⟨k0, k2⟩
    by_cases ek : k = c
    · subst ek
      rw [hac a ha, hca b hb] at *
      rw [hz a b ha hb]
      exact nw_v fa fb
    · have hkc : k < c := by omega
      have hab := nw_le Do c a b
      rw [hz a b ha hb]
      rw [hz a k ha hk] at fa ⊢
      rw [hz k b hk hb] at fb ⊢
      rcases nw_c Do c a k with e | ⟨e1, e2, e3⟩ <;> rcases nw_c Do c k b with f | ⟨f1, f2, f3⟩
      · rw [e] at fa ⊢; rw [f] at fb ⊢
        have := h1 a b k ha hb k0 hkc k2 fa fb
        omega
      · rw [e] at fa ⊢; rw [f3]
        have g1 := h1 a c k ha hc k0 hkc k2 fa f1
        have g2 := nw_v (D := Do) (c := c) (p := a) (q := b) (by have := h2 a k ha hk; have := h2 k c hk hc; omega) f2
        omega
      · rw [f] at fb ⊢; rw [e3]
        have g1 := h1 c b k hc hb k0 hkc k2 e2 fb
        have g2 := nw_v (D := Do) (c := c) (p := a) (q := b) e1 (by have := h2 c k hc hk; have := h2 k b hk hb; omega)
        omega
      · rw [e3, f3]
        have g1 := h1 c c k hc hc k0 hkc k2 e2 f1
        have g2 := nw_v (D := Do) (c := c) (p := a) (q := b) e1 f2
        omega
  · rw [bnd_s hc.1, hz a b ha hb]
    have := h2 a b ha hb
    rcases nw_c Do c a b with e | ⟨e1, e2, e3⟩
    · omega
    · have := h2 a c ha hc
      have := h2 c b hc hb
      omega
  · rw [hfin a b ha hb] at hf
    rw [hfin b a hb ha]
    rcases hf with e | ⟨e1, e2⟩
    · exact Or.inl (h3 a b ha hb e)
    · exact Or.inr ⟨h3 c b hc hb e2, h3 a c ha hc e1⟩
/-! the end: what the sums say -/
def minN (f : Int → Int) : Nat → Int
  | 0 => f 0
  | k + 1 => if f ((k : Int) + 1) < minN f k then f ((k : Int) + 1) else minN f k
theorem minN_le (f : Int → Int) : ∀ (k : Nat) (j : Int), 0 ≤ j → j ≤ k → minN f k ≤ f j := by
  intro k
  induction k with
  | zero => intro j a b; rw [show j = 0 by omega]; exact Int.le_refl _
  | succ k ih =>
    intro j a b
    show (if f ((k : Int) + 1) < minN f k then f ((k : Int) + 1) else minN f k) ≤ f j
    by_cases e : j = (k : Int) + 1
    · rw [e]; split <;> omega
    · have := ih j a (by omega)
      split <;> omega
theorem minN_at (f : Int → Int) : ∀ (k : Nat), ∃ j : Int, 0 ≤ j ∧ j ≤ k ∧ minN f k = f j := by
  intro k
  induction k with
  | zero => exact ⟨0, by omega, by omega, rfl⟩
  | succ k ih =>
    obtain ⟨j, a, b, c⟩ := ih
    show ∃ j, _ ∧ _ ∧ (if f ((k : Int) + 1) < minN f k then f ((k : Int) + 1) else minN f k) = f j
    split
    · exact ⟨(k : Int) + 1, by omega, by omega, rfl⟩
    · exact ⟨j, a, by omega, c⟩
def Obey (D : Int → Int → Int) (y : Int → Int) : Prop := ∀ a b, nd a → nd b → D a b < 1000000000000 → y b - y a ≤ D a b
/-- all that the sums give: closed, no diagonal below 0 -/
theorem fw_feas {D : Int → Int → Int} (h0 : ∀ a, nd a → D a a = 0) (h : FWc D 17 (bnd 17)) : Obey D (fun v => minN (fun u => D u v) 16) := by
  intro a b ha hb hf
  obtain ⟨u, u0, u1, u2⟩ := minN_at (fun u => D u a) 16
  have hu : nd u := ⟨u0, by omega⟩
  have h1 := minN_le (fun u => D u a) 16 a ha.1 (by have := ha.2; omega)
  have h2 := minN_le (fun u => D u b) 16 u u0 u1
  simp only at h1 h2 u2 ⊢
  rw [h0 a ha] at h1
  have := h.1 u b a hu hb ha.1 ha.2 ha.2 (by omega) hf
  omega
theorem fw_sol {D : Int → Int → Int} {z : Int → Int} {s C : Int} (hs : nd s) (h : FWc D 17 (bnd 17)) (hz : Obey D z) : Obey D (fun v => if D s v < 1000000000000 then D s v else z v + C) := by
  intro a b ha hb hf
  have hz := hz a b ha hb hf
  have hsym := h.2.2 a b ha hb hf
  simp only
  by_cases e1 : D s a < 1000000000000
  · have h1 := h.1 s b a hs hb ha.1 ha.2 ha.2 e1 hf
    have e2 : D s b < 1000000000000 := by
      have := h.2.1 s a hs ha
      have := h.2.1 a b ha hb
      have := bnd_b (c := 17) (by decide) (by decide)
      omega
    rw [if_pos e1, if_pos e2]; omega
  · have e2 : ¬ D s b < 1000000000000 := by
      intro e2
      have h1 := h.1 s a b hs ha hb.1 hb.2 hb.2 e2 hsym
      have := h.2.1 s b hs hb
      have := h.2.1 b a hb ha
      have := bnd_b (c := 17) (by decide) (by decide)
      omega
    rw [if_neg e1, if_neg e2]; omega
