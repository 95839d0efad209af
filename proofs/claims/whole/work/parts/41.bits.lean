/-! ===== masks as natural numbers ===== -/
theorem bv_of {a : Nat} (h : a < 2147483648) : (BitVec.ofInt 32 (a : Int)).toNat = a := by
  rw [BitVec.ofInt_natCast, BitVec.toNat_ofNat]
  omega
theorem i32_nat {x : Int32} {a : Nat} (h : x.toBitVec.toNat = a) (ha : a < 2147483648) : x.toInt = (a : Int) := by
  show x.toBitVec.toInt = a
  rw [BitVec.toInt_eq_toNat_of_lt (by omega), h]
theorem or32_nat {a b : Nat} (ha : a < 1024) (hb : b < 1024) : or32 a b = ((a ||| b : Nat) : Int) := by
  unfold or32
  refine i32_nat ?_ (Nat.lt_trans (Nat.or_lt_two_pow (n := 10) ha hb) (by decide))
  show (BitVec.ofInt 32 (a : Int) ||| BitVec.ofInt 32 (b : Int)).toNat = _
  rw [BitVec.toNat_or, bv_of (by omega), bv_of (by omega)]
theorem and32_nat {a b : Nat} (ha : a < 1024) (hb : b < 1024) : and32 a b = ((a &&& b : Nat) : Int) := by
  unfold and32
  refine i32_nat ?_ (Nat.lt_of_le_of_lt Nat.and_le_left (by omega))
  show (BitVec.ofInt 32 (a : Int) &&& BitVec.ofInt 32 (b : Int)).toNat = _
  rw [BitVec.toNat_and, bv_of (by omega), bv_of (by omega)]
theorem shl1_nat {k : Nat} (hk : k < 10) : shl32 1 k = ((2 ^ k : Nat) : Int) := by
  have h : ∀ k : Fin 10, shl32 1 (k.val : Int) = ((2 ^ k.val : Nat) : Int) := by decide +kernel
  exact h ⟨k, hk⟩
theorem shr_nat {a k : Nat} (ha : a < 1024) (hk : k < 10) : shr32 a k = ((a >>> k : Nat) : Int) := by
  have h : ∀ k : Fin 10, ∀ a : Fin 1024, shr32 (a.val : Int) (k.val : Int) = ((a.val >>> k.val : Nat) : Int) := by decide +kernel
  exact h ⟨k, hk⟩ ⟨a, ha⟩
theorem bit_nat {a k : Nat} (ha : a < 1024) (hk : k < 10) : and32 (shr32 a k) 1 = if a.testBit k = true then 1 else 0 := by
  rw [shr_nat ha hk, show (1 : Int) = ((1 : Nat) : Int) from rfl, and32_nat (Nat.lt_of_le_of_lt (Nat.shiftRight_le a k) ha) (by decide)]
  rw [Nat.testBit_eq_decide_div_mod_eq, Nat.and_one_is_mod, Nat.shiftRight_eq_div_pow]
  by_cases e : a / 2 ^ k % 2 = 1
  · simp [e]
  · have : a / 2 ^ k % 2 = 0 := by omega
    simp [this]
