/-! ===== fewer locals, by lists ===== -/
def fle (a b : List FV) : Prop := match a, b with
  | [], _ => True
  | _ :: _, [] => False
  | x :: xs, y :: ys => (kn x = true → x = y) ∧ fle xs ys
theorem fle_get {a b : List FV} (h : fle a b) {j : Nat} {v : FV} (hj : a[j]? = some v) (hk : kn v = true) : b[j]? = some v := by
  induction a generalizing b j with
  | nil => simp at hj
  | cons x xs ih =>
    cases b with
    | nil => exact h.elim
    | cons y ys =>
      cases j with
      | zero =>
        simp only [List.getElem?_cons_zero, Option.some.injEq] at hj ⊢
        subst hj
        exact (h.1 hk).symm
      | succ j => simpa using ih h.2 (by simpa using hj)
theorem z_few {l : Launch} {g : Cx} {ph : Bool} {f : FI} {n0 : Nat} {μ : Mc} {Q : State → Prop} {pc : Nat} {stk : List FV} {loc : List FV} {n : Nat} {M : FMem} (loc2 : List FV) (h : fle loc2 loc) (k : Wa l g ph f n0 μ Q pc stk loc2 n M) : Wa l g ph f n0 μ Q pc stk loc n M :=
  z_fewer loc2 (fun _ _ hj hk => fle_get h hj hk) k
/-- what the relation knows of the memory, for use -/
theorem z_mok {l : Launch} {g : Cx} {ph : Bool} {f : FI} {n0 : Nat} {μ : Mc} {Q : State → Prop} {pc : Nat} {stk : List FV} {loc : List FV} {n : Nat} {M : FMem} (k : MOk ph M → Wa l g ph f n0 μ Q pc stk loc n M) : Wa l g ph f n0 μ Q pc stk loc n M :=
  fun F hn hs hl hM => k hM F hn hs hl hM
theorem mok_i {ph : Bool} {M : FMem} (h : MOk ph M) {a len : Nat} (hs : fSH[a]? = some (.inr (0, len))) (i : Int) : N32 (M a i) := by have := h.1 a i; rw [fty_arr hs] at this; exact this
theorem mok_z {ph : Bool} {M : FMem} (h : MOk ph M) {a len : Nat} (hs : fSH[a]? = some (.inr (1, len))) (i : Int) : M a i = 0 ∨ M a i = 1 := by have := h.1 a i; rw [fty_arr hs] at this; exact this
theorem mok_l {ph : Bool} {M : FMem} (h : MOk ph M) {a len : Nat} (hs : fSH[a]? = some (.inr (2, len))) (i : Int) : N64 (M a i) := by have := h.1 a i; rw [fty_arr hs] at this; exact this
/-! xor, as the library's floorDiv uses it -/
def xor32 (x y : Int) : Int := (Int32.ofInt x ^^^ Int32.ofInt y).toInt
def xor64 (x y : Int) : Int := (Int64.ofInt x ^^^ Int64.ofInt y).toInt
section ZX
variable {l : Launch} {g : Cx} {ph : Bool} {f : FI} {n0 : Nat} {μ : Mc} {Q : State → Prop} {pc : Nat} {stk : List FV} {loc : List FV} {n : Nat} {M : FMem}
theorem z_ixor {x y : Int} (d : decode f.2.1 pc = .ok (.ixor, 1)) (k : ∀ v, v = xor32 x y → N32 v → Wa l g ph f n0 μ Q (pc + 1) (fi v :: stk) loc n M) : Wa l g ph f n0 μ Q pc (fi y :: fi x :: stk) loc n M := by
  intro F hn hs hl hM ls H locs L P S
  refine lv_ixor F.1 F.2.1 d ?_
  have k := k _ rfl (i3_n _) F hn (nvc (i3_n _) (nvt (nvt hs))) hl hM ls H locs L P S
  simpa only [List.map_cons, cv, xor32, Int32.ofInt_toInt] using k
theorem z_lxor {x y : Int} (d : decode f.2.1 pc = .ok (.lxor, 1)) (k : ∀ v, v = xor64 x y → N64 v → Wa l g ph f n0 μ Q (pc + 1) (fl v :: stk) loc n M) : Wa l g ph f n0 μ Q pc (fl y :: fl x :: stk) loc n M := by
  intro F hn hs hl hM ls H locs L P S
  refine lv_lxor F.1 F.2.1 d ?_
  have k := k _ rfl (i6_n _) F hn (nvc (i6_n _) (nvt (nvt hs))) hl hM ls H locs L P S
  simpa only [List.map_cons, cv, xor64, Int64.ofInt_toInt] using k
end ZX
theorem neg_msb32 (x : Int32) : x.toInt < 0 ↔ x.toBitVec.msb = true := by
  show x.toBitVec.toInt < 0 ↔ _
  rw [BitVec.toInt_neg_iff, BitVec.msb_eq_decide]
  simp
  omega
theorem neg_msb64 (x : Int64) : x.toInt < 0 ↔ x.toBitVec.msb = true := by
  show x.toBitVec.toInt < 0 ↔ _
  rw [BitVec.toInt_neg_iff, BitVec.msb_eq_decide]
  simp
  omega
theorem xor32_neg {x : Int} (h : N32 x) : xor32 x 1000 < 0 ↔ x < 0 := by
  unfold xor32
  rw [neg_msb32]
  have h1 : (Int32.ofInt x ^^^ Int32.ofInt 1000).toBitVec.msb = ((Int32.ofInt x).toBitVec.msb ^^ (Int32.ofInt 1000).toBitVec.msb) := by
    show ((Int32.ofInt x).toBitVec ^^^ (Int32.ofInt 1000).toBitVec).msb = _
    rw [BitVec.msb_xor]
  rw [h1, show (Int32.ofInt 1000).toBitVec.msb = false by decide, Bool.xor_false, ← neg_msb32, i3_toInt h]
theorem xor64_neg {x : Int} (h : N64 x) : xor64 x 1000 < 0 ↔ x < 0 := by
  unfold xor64
  rw [neg_msb64]
  have h1 : (Int64.ofInt x ^^^ Int64.ofInt 1000).toBitVec.msb = ((Int64.ofInt x).toBitVec.msb ^^ (Int64.ofInt 1000).toBitVec.msb) := by
    show ((Int64.ofInt x).toBitVec ^^^ (Int64.ofInt 1000).toBitVec).msb = _
    rw [BitVec.msb_xor]
  rw [h1, show (Int64.ofInt 1000).toBitVec.msb = false by decide, Bool.xor_false, ← neg_msb64, i6_toInt h]
/-- the machine's division, by the floor -/
theorem tdiv_fl (x c : Int) (hc : 0 < c) : x.tdiv c = if 0 ≤ x then x / c else -((-x) / c) := by
  split
  · rw [Int.tdiv_eq_ediv_of_nonneg (by assumption)]
  · rw [show x = -(-x) by omega, Int.neg_tdiv, Int.tdiv_eq_ediv_of_nonneg (by omega)]; simp
theorem mulb {x y A B : Int} (hx : -A ≤ x ∧ x ≤ A) (hy : -B ≤ y ∧ y ≤ B) : -(A * B) ≤ x * y ∧ x * y ≤ A * B := by
  have h : (x * y).natAbs ≤ A.natAbs * B.natAbs := by
    rw [Int.natAbs_mul]
    exact Nat.mul_le_mul (by omega) (by omega)
  have h2 : ((A.natAbs * B.natAbs : Nat) : Int) = A * B := by
    rw [Int.natCast_mul, Int.natAbs_of_nonneg (by omega), Int.natAbs_of_nonneg (by omega)]
  omega
theorem tdiv_cs (x c : Int) (hc : 0 < c) : (0 ≤ x → x.tdiv c = x / c) ∧ (x < 0 → x.tdiv c = -((-x) / c)) := by
  rw [tdiv_fl x c hc]
  exact ⟨fun h => if_pos h, fun h => if_neg (by omega)⟩
/-! entry of the library's methods -/
section ZF
variable {l : Launch} {g : Cx} {ph : Bool} {f : FI} {n : Nat} {M : FMem}
theorem AMi_introF {as : List FV} {P : Int → FMem → Prop} (loc0 : List FV) (hy : plainFor f.1 = true) (hk : ∀ v ∈ as, kn v = true) (hlen : (fent as).length ≤ f.2.2.1) (h0 : fent as ++ List.replicate (f.2.2.1 - (fent as).length) fu = loc0)
    (body : (∀ v ∈ as, NV v) → MOk ph M → ∀ μ : Mc, Wa l g ph f n μ (Zi g ph f n μ P) 0 [] loc0 n M) : AMi l g ph f as n M P := by
  intro hNV hM
  refine va_MetF (cc := f.2.1) (maxL := f.2.2.1) (ret := f.2.2.2.1) hy rfl ?_
  intro p e s m args below meth c s₁ B hml hv
  obtain ⟨rfl, hP, hK, hsz, hE⟩ := hv
  have hts := atoms_spec (ws := fwl f) B.pre
  have W0 := body hNV hM (p, e, s, m, _, below, meth, c) ⟨B.exec, B.bytes, hml, findClass_of_methodNamed B.named, fun w hw => hts w (List.mem_cons_of_mem _ hw), B.returns, B.notSynchronized, (name_of_methodNamed B.named B.method).1, hK, hE, hsz⟩ (Nat.le_refl _) (fun v hv => by cases hv) (pad_nv h0 hNV) hM _ s.heap [] (fentry as loc0 hk hlen h0) hP va_S.rf
  rw [Nat.sub_self, Nat.sub_self] at W0
  rw [lg_entry_eq]
  exact W0
theorem AMl_introF {as : List FV} {P : Int → FMem → Prop} (loc0 : List FV) (hy : plainFor f.1 = true) (hk : ∀ v ∈ as, kn v = true) (hlen : (fent as).length ≤ f.2.2.1) (h0 : fent as ++ List.replicate (f.2.2.1 - (fent as).length) fu = loc0)
    (body : (∀ v ∈ as, NV v) → MOk ph M → ∀ μ : Mc, Wa l g ph f n μ (Zl g ph f n μ P) 0 [] loc0 n M) : AMl l g ph f as n M P := by
  intro hNV hM
  refine va_MetF (cc := f.2.1) (maxL := f.2.2.1) (ret := f.2.2.2.1) hy rfl ?_
  intro p e s m args below meth c s₁ B hml hv
  obtain ⟨rfl, hP, hK, hsz, hE⟩ := hv
  have hts := atoms_spec (ws := fwl f) B.pre
  have W0 := body hNV hM (p, e, s, m, _, below, meth, c) ⟨B.exec, B.bytes, hml, findClass_of_methodNamed B.named, fun w hw => hts w (List.mem_cons_of_mem _ hw), B.returns, B.notSynchronized, (name_of_methodNamed B.named B.method).1, hK, hE, hsz⟩ (Nat.le_refl _) (fun v hv => by cases hv) (pad_nv h0 hNV) hM _ s.heap [] (fentry as loc0 hk hlen h0) hP va_S.rf
  rw [Nat.sub_self, Nat.sub_self] at W0
  rw [lg_entry_eq]
  exact W0
end ZF
