/-! ===== fewer locals, by lists ===== -/
def fle (a b : List FV) : Prop := match a, b with
  | [], _ => True
  | _ :: _, [] => False
  | x :: xs, y :: ys => (kn x = true → x = y) ∧ fle xs ys
theorem fle_get {a b : List FV} (h : fle a b) {j : Nat} {v : FV} (hj : a[j]? = some v) (hk : kn v = true) : b[j]? = some v := by
  induction a generalizing b j with
  | nil => simp at hj
  | cons x xs ih =>
    cases b with
    | nil => exact h.elim
    | cons y ys =>
      cases j with
      | zero =>
        simp only [List.getElem?_cons_zero, Option.some.injEq] at hj ⊢
        subst hj
        exact (h.1 hk).symm
      | succ j => simpa using ih h.2 (by simpa using hj)
theorem z_few {l : Launch} {g : Cx} {ph : Bool} {f : FI} {n0 : Nat} {μ : Mc} {Q : State → Prop} {pc : Nat} {stk : List FV} {loc : List FV} {n : Nat} {M : FMem} (loc2 : List FV) (h : fle loc2 loc) (k : Wa l g ph f n0 μ Q pc stk loc2 n M) : Wa l g ph f n0 μ Q pc stk loc n M :=
  z_fewer loc2 (fun _ _ hj hk => fle_get h hj hk) k
/-- what the relation knows of the memory, for use -/
theorem z_mok {l : Launch} {g : Cx} {ph : Bool} {f : FI} {n0 : Nat} {μ : Mc} {Q : State → Prop} {pc : Nat} {stk : List FV} {loc : List FV} {n : Nat} {M : FMem} (k : MOk ph M → Wa l g ph f n0 μ Q pc stk loc n M) : Wa l g ph f n0 μ Q pc stk loc n M :=
  fun F hn hs hl hM => k hM F hn hs hl hM
theorem mok_i {ph : Bool} {M : FMem} (h : MOk ph M) {a len : Nat} (hs : fSH[a]? = some (.inr (0, len))) (i : Int) : N32 (M a i) := by have := h.1 a i; rw [fty_arr hs] at this; exact this
theorem mok_z {ph : Bool} {M : FMem} (h : MOk ph M) {a len : Nat} (hs : fSH[a]? = some (.inr (1, len))) (i : Int) : M a i = 0 ∨ M a i = 1 := by have := h.1 a i; rw [fty_arr hs] at this; exact this
theorem mok_l {ph : Bool} {M : FMem} (h : MOk ph M) {a len : Nat} (hs : fSH[a]? = some (.inr (2, len))) (i : Int) : N64 (M a i) := by have := h.1 a i; rw [fty_arr hs] at this; exact this
