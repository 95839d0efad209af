/-! ===== numbers: ints and longs of the machine as Ints in their range ===== -/
def w32 (x : Int) : Int := (x + 2147483648) % 4294967296 - 2147483648
def w64 (x : Int) : Int := (x + 9223372036854775808) % 18446744073709551616 - 9223372036854775808
abbrev N32 (x : Int) : Prop := -2147483648 ≤ x ∧ x ≤ 2147483647
abbrev N64 (x : Int) : Prop := -9223372036854775808 ≤ x ∧ x ≤ 9223372036854775807
theorem w32_id {x : Int} (h : N32 x) : w32 x = x := by unfold N32 at h; unfold w32; omega
theorem w64_id {x : Int} (h : N64 x) : w64 x = x := by unfold N64 at h; unfold w64; omega
theorem w32_n (x : Int) : N32 (w32 x) := by unfold N32 w32; omega
theorem w64_n (x : Int) : N64 (w64 x) := by unfold N64 w64; omega
theorem n32_64 {x : Int} (h : N32 x) : N64 x := by unfold N32 at h; unfold N64; omega
theorem i3_toInt {x : Int} (h : N32 x) : (Int32.ofInt x).toInt = x := Int32.toInt_ofInt_of_le (by have := h.1; omega) (by have := h.2; omega)
theorem i6_toInt {x : Int} (h : N64 x) : (Int64.ofInt x).toInt = x := Int64.toInt_ofInt_of_le (by have := h.1; omega) (by have := h.2; omega)
theorem i3_n (a : Int32) : N32 a.toInt := ⟨by have := a.le_toInt; omega, by have := a.toInt_lt; omega⟩
theorem i6_n (a : Int64) : N64 a.toInt := ⟨by have := a.le_toInt; omega, by have := a.toInt_lt; omega⟩
theorem w32_bmod (x : Int) : w32 x = x.bmod 4294967296 := by
  unfold w32
  rw [Int.bmod_def]
  split <;> omega
theorem w64_bmod (x : Int) : w64 x = x.bmod 18446744073709551616 := by
  unfold w64
  rw [Int.bmod_def]
  split <;> omega
theorem i3_w (x : Int) : Int32.ofInt (w32 x) = Int32.ofInt x := by
  apply Int32.toInt_inj.1
  rw [i3_toInt (w32_n x), Int32.toInt_ofInt, w32_bmod]
theorem i6_w (x : Int) : Int64.ofInt (w64 x) = Int64.ofInt x := by
  apply Int64.toInt_inj.1
  rw [i6_toInt (w64_n x), Int64.toInt_ofInt, w64_bmod]
theorem i3_wt (x : Int) : (Int32.ofInt x).toInt = w32 x := by rw [← i3_w, i3_toInt (w32_n x)]
theorem i6_wt (x : Int) : (Int64.ofInt x).toInt = w64 x := by rw [← i6_w, i6_toInt (w64_n x)]
theorem i3_add (x y : Int) : Int32.ofInt x + Int32.ofInt y = Int32.ofInt (w32 (x + y)) := by rw [i3_w, Int32.ofInt_add]
theorem i3_sub (x y : Int) : Int32.ofInt x - Int32.ofInt y = Int32.ofInt (w32 (x - y)) := by rw [i3_w, Int32.ofInt_sub]
theorem i3_mul (x y : Int) : Int32.ofInt x * Int32.ofInt y = Int32.ofInt (w32 (x * y)) := by rw [i3_w, Int32.ofInt_mul]
theorem i3_neg (x : Int) : -Int32.ofInt x = Int32.ofInt (w32 (-x)) := by rw [i3_w, Int32.ofInt_neg]
theorem i6_add (x y : Int) : Int64.ofInt x + Int64.ofInt y = Int64.ofInt (w64 (x + y)) := by rw [i6_w, Int64.ofInt_add]
theorem i6_sub (x y : Int) : Int64.ofInt x - Int64.ofInt y = Int64.ofInt (w64 (x - y)) := by rw [i6_w, Int64.ofInt_sub]
theorem i6_mul (x y : Int) : Int64.ofInt x * Int64.ofInt y = Int64.ofInt (w64 (x * y)) := by rw [i6_w, Int64.ofInt_mul]
theorem i6_neg (x : Int) : -Int64.ofInt x = Int64.ofInt (w64 (-x)) := by rw [i6_w, Int64.ofInt_neg]
theorem i3_div {x y : Int} (hx : N32 x) (hy : N32 y) : Int32.ofInt x / Int32.ofInt y = Int32.ofInt (w32 (x.tdiv y)) := by
  apply Int32.toInt_inj.1
  rw [Int32.toInt_div, i3_toInt hx, i3_toInt hy, i3_toInt (w32_n _), w32_bmod]
theorem i6_div {x y : Int} (hx : N64 x) (hy : N64 y) : Int64.ofInt x / Int64.ofInt y = Int64.ofInt (w64 (x.tdiv y)) := by
  apply Int64.toInt_inj.1
  rw [Int64.toInt_div, i6_toInt hx, i6_toInt hy, i6_toInt (w64_n _), w64_bmod]
theorem i3_rem {x y : Int} (hx : N32 x) (hy : N32 y) : Int32.ofInt x % Int32.ofInt y = Int32.ofInt (x.tmod y) := by
  apply Int32.toInt_inj.1
  have h : ((Int32.ofInt x) % (Int32.ofInt y)).toInt = x.tmod y := by rw [Int32.toInt_mod, i3_toInt hx, i3_toInt hy]
  rw [h, i3_toInt (h ▸ i3_n _)]
theorem rem_n {x y : Int} (hx : N32 x) (hy : N32 y) : N32 (x.tmod y) := by
  have h : ((Int32.ofInt x) % (Int32.ofInt y)).toInt = x.tmod y := by rw [Int32.toInt_mod, i3_toInt hx, i3_toInt hy]
  exact h ▸ i3_n _
theorem i3_eq {x y : Int} (hx : N32 x) (hy : N32 y) : Int32.ofInt x = Int32.ofInt y ↔ x = y := by
  constructor
  · intro h
    have := congrArg Int32.toInt h
    rwa [i3_toInt hx, i3_toInt hy] at this
  · intro h; rw [h]
theorem i6_eq {x y : Int} (hx : N64 x) (hy : N64 y) : Int64.ofInt x = Int64.ofInt y ↔ x = y := by
  constructor
  · intro h
    have := congrArg Int64.toInt h
    rwa [i6_toInt hx, i6_toInt hy] at this
  · intro h; rw [h]
theorem i3_lt {x y : Int} (hx : N32 x) (hy : N32 y) : Int32.ofInt x < Int32.ofInt y ↔ x < y := by rw [Int32.lt_iff_toInt_lt, i3_toInt hx, i3_toInt hy]
theorem i3_le {x y : Int} (hx : N32 x) (hy : N32 y) : Int32.ofInt x ≤ Int32.ofInt y ↔ x ≤ y := by rw [Int32.le_iff_toInt_le, i3_toInt hx, i3_toInt hy]
theorem i6_lt {x y : Int} (hx : N64 x) (hy : N64 y) : Int64.ofInt x < Int64.ofInt y ↔ x < y := by rw [Int64.lt_iff_toInt_lt, i6_toInt hx, i6_toInt hy]
theorem n32_0 : N32 0 := by unfold N32; omega
theorem i3_clamp {x : Int} (h : N32 x) : (Int32.ofInt x).toNatClampNeg = x.toNat := by
  show (Int32.ofInt x).toInt.toNat = x.toNat
  rw [i3_toInt h]
theorem i3_in {x : Int} {n : Nat} (h : N32 x) (h0 : 0 ≤ x) (hn : x < n) : vp_in (Int32.ofInt x) n := by
  unfold vp_in
  rw [i3_clamp h]
  rintro (a | a)
  · rw [show (0 : Int32) = Int32.ofInt 0 from rfl, i3_lt h n32_0] at a; omega
  · omega
theorem i3_i6 {x : Int} (h : N32 x) : (Int32.ofInt x).toInt64 = Int64.ofInt x := by
  apply Int64.toInt_inj.1
  rw [Int32.toInt_toInt64, i3_toInt h, i6_toInt (n32_64 h)]
theorem i6_i3 (x : Int) : (Int64.ofInt x).toInt32 = Int32.ofInt (w32 x) := by rw [i3_w, Int64.toInt32_ofInt]
/-! bits: by the machine's own -/
def and32 (x y : Int) : Int := (Int32.ofInt x &&& Int32.ofInt y).toInt
def or32 (x y : Int) : Int := (Int32.ofInt x ||| Int32.ofInt y).toInt
def shl32 (x y : Int) : Int := (Int32.ofInt x <<< (Int32.ofInt y &&& 31)).toInt
def shr32 (x y : Int) : Int := (Int32.ofInt x >>> (Int32.ofInt y &&& 31)).toInt
def and64 (x y : Int) : Int := (Int64.ofInt x &&& Int64.ofInt y).toInt
def or64 (x y : Int) : Int := (Int64.ofInt x ||| Int64.ofInt y).toInt
def cmp64 (x y : Int) : Int := if x < y then -1 else if x = y then 0 else 1
