/-- m is the mask of those k below 10 that keep P -/
def MaskOf (P : Nat → Prop) (m : Int) : Prop := ∃ a : Nat, m = (a : Int) ∧ a < 1024 ∧ ∀ k, k < 10 → (a.testBit k = true ↔ P k)
theorem Mask_congr {P Q : Nat → Prop} {m : Int} (h : MaskOf P m) (e : ∀ k, k < 10 → (P k ↔ Q k)) : MaskOf Q m := by
  obtain ⟨a, h1, h2, h3⟩ := h
  exact ⟨a, h1, h2, fun k hk => (h3 k hk).trans (e k hk)⟩
theorem Mask_0 {P : Nat → Prop} (h : ∀ k, k < 10 → ¬ P k) : MaskOf P 0 := ⟨0, rfl, by decide, fun k hk => by simp [h k hk]⟩
theorem Mask_b {P : Nat → Prop} {m : Int} (h : MaskOf P m) : 0 ≤ m ∧ m < 1024 := by
  obtain ⟨a, h1, h2, -⟩ := h
  omega
theorem Mask_or {P Q : Nat → Prop} {m m2 : Int} (h : MaskOf P m) (h2 : MaskOf Q m2) : MaskOf (fun k => P k ∨ Q k) (or32 m m2) := by
  obtain ⟨a, rfl, a2, a3⟩ := h
  obtain ⟨b, rfl, b2, b3⟩ := h2
  refine ⟨a ||| b, or32_nat a2 b2, Nat.or_lt_two_pow (n := 10) a2 b2, fun k hk => ?_⟩
  rw [Nat.testBit_or, Bool.or_eq_true, a3 k hk, b3 k hk]
theorem Mask_1 {j : Int} (h0 : 0 ≤ j) (h1 : j < 10) : MaskOf (fun k => (k : Int) = j) (shl32 1 j) := by
  obtain ⟨n, rfl⟩ : ∃ n : Nat, j = n := ⟨j.toNat, by omega⟩
  refine ⟨2 ^ n, shl1_nat (by omega), ?_, fun k hk => ?_⟩
  · exact Nat.pow_lt_pow_right (n := 10) (by decide) (by omega)
  · rw [Nat.testBit_two_pow, decide_eq_true_iff]
    omega
theorem Mask_bit {P : Nat → Prop} {m j : Int} (h : MaskOf P m) (h0 : 0 ≤ j) (h1 : j < 10) : (and32 (shr32 m j) 1 = 1 ∧ P j.toNat) ∨ (and32 (shr32 m j) 1 = 0 ∧ ¬ P j.toNat) := by
  obtain ⟨a, rfl, a2, a3⟩ := h
  obtain ⟨n, rfl⟩ : ∃ n : Nat, j = n := ⟨j.toNat, by omega⟩
  rw [bit_nat a2 (by omega)]
  have := a3 n (by omega)
  rw [show ((n : Int)).toNat = n by omega]
  by_cases e : a.testBit n = true
  · rw [if_pos e]; exact Or.inl ⟨rfl, this.1 e⟩
  · rw [if_neg e]; exact Or.inr ⟨rfl, fun z => e (this.2 z)⟩
theorem Mask_and {P Q : Nat → Prop} {m m2 : Int} (h : MaskOf P m) (h2 : MaskOf Q m2) : and32 m m2 = 0 ↔ ∀ k, k < 10 → ¬ (P k ∧ Q k) := by
  obtain ⟨a, rfl, a2, a3⟩ := h
  obtain ⟨b, rfl, b2, b3⟩ := h2
  rw [and32_nat a2 b2]
  constructor
  · intro e k hk ⟨hp, hq⟩
    have e2 : a &&& b = 0 := by omega
    have := congrArg (fun x => Nat.testBit x k) e2
    simp [(a3 k hk).2 hp, (b3 k hk).2 hq] at this
  · intro hz
    have e2 : a &&& b = 0 := by
      apply Nat.eq_of_testBit_eq
      intro k
      rw [Nat.testBit_and, Nat.zero_testBit]
      by_cases hk : k < 10
      · have := hz k hk
        rw [← a3 k hk, ← b3 k hk] at this
        cases ha : a.testBit k <;> cases hb : b.testBit k <;> simp_all
      · have : a < 2 ^ k := Nat.lt_of_lt_of_le a2 (Nat.pow_le_pow_right (n := 2) (i := 10) (j := k) (by decide) (by omega))
        rw [Nat.testBit_lt_two_pow this, Bool.false_and]
    rw [e2]
    rfl
