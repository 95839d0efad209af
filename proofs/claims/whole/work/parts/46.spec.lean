/-! ===== the text of rules, purely: runs of bytes, words, numbers, clauses, all of it ===== -/
def rnF (P : Int → Bool) (n : Int) : Nat → Int → Int
  | 0, p => p
  | k + 1, p => if p < n ∧ P p = true then rnF P n k (p + 1) else p
/-- the end of the run of P from p on -/
def rn (P : Int → Bool) (n p : Int) : Int := rnF P n (n - p).toNat p
theorem rn_go {P : Int → Bool} {n p : Int} (h : p < n) (h2 : P p = true) : rn P n p = rn P n (p + 1) := by
  unfold rn
  rw [show (n - p).toNat = (n - (p + 1)).toNat + 1 by omega]
  exact if_pos ⟨h, h2⟩
theorem rn_no {P : Int → Bool} {n p : Int} (h : ¬ (p < n ∧ P p = true)) : rn P n p = p := by
  unfold rn
  cases (n - p).toNat with
  | zero => rfl
  | succ k => exact if_neg h
theorem rn_spec (P : Int → Bool) (n : Int) : ∀ (m : Nat) (p : Int), (n - p).toNat = m → p ≤ rn P n p ∧ (p ≤ n → rn P n p ≤ n) ∧ (∀ j, p ≤ j → j < rn P n p → j < n ∧ P j = true) ∧ ¬ (rn P n p < n ∧ P (rn P n p) = true) := by
  intro m
  induction m with
  | zero =>
    intro p hp
    have h : ¬ (p < n ∧ P p = true) := by omega
    rw [rn_no h]
    exact ⟨Int.le_refl _, id, fun j a b => by omega, h⟩
  | succ m ih =>
    intro p hp
    by_cases h : p < n ∧ P p = true
    · rw [rn_go h.1 h.2]
      obtain ⟨a, b, c, d⟩ := ih (p + 1) (by omega)
      refine ⟨by omega, fun _ => b (by omega), fun j j1 j2 => ?_, d⟩
      by_cases e : j = p
      · subst e; exact h
      · exact c j (by omega) j2
    · rw [rn_no h]
      exact ⟨Int.le_refl _, id, fun j a b => by omega, h⟩
theorem rn_ge (P : Int → Bool) (n p : Int) : p ≤ rn P n p := (rn_spec P n _ p rfl).1
theorem rn_le {P : Int → Bool} {n p : Int} (h : p ≤ n) : rn P n p ≤ n := (rn_spec P n _ p rfl).2.1 h
theorem rn_in {P : Int → Bool} {n p j : Int} (h1 : p ≤ j) (h2 : j < rn P n p) : j < n ∧ P j = true := (rn_spec P n _ p rfl).2.2.1 j h1 h2
theorem rn_end (P : Int → Bool) (n p : Int) : ¬ (rn P n p < n ∧ P (rn P n p) = true) := (rn_spec P n _ p rfl).2.2.2
theorem rn_uq {P : Int → Bool} {n p q : Int} (h : p ≤ q) (hi : ∀ j, p ≤ j → j < q → j < n ∧ P j = true) (he : ¬ (q < n ∧ P q = true)) : rn P n p = q := by
  have h1 := rn_ge P n p
  by_cases e : rn P n p < q
  · exact absurd (hi _ h1 e) (rn_end P n p)
  · by_cases e2 : q < rn P n p
    · exact absurd (rn_in h e2) he
    · omega
def isB (t : Int → Int) : Int → Bool := fun j => decide (t j = 32)
def isD (t : Int → Int) : Int → Bool := fun j => decide (48 ≤ t j ∧ t j ≤ 57)
def isL (t : Int → Int) : Int → Bool := fun j => decide (97 ≤ t j ∧ t j ≤ 122)
theorem isB_i {t : Int → Int} {j : Int} : isB t j = true ↔ t j = 32 := by simp [isB]
theorem isD_i {t : Int → Int} {j : Int} : isD t j = true ↔ 48 ≤ t j ∧ t j ≤ 57 := by simp [isD]
theorem isL_i {t : Int → Int} {j : Int} : isL t j = true ↔ 97 ≤ t j ∧ t j ≤ 122 := by simp [isL]
/-- behind the blanks -/
abbrev sk (t : Int → Int) (n p : Int) : Int := rn (isB t) n p
/-- the number of k figures from p on -/
def dv (t : Int → Int) (p : Int) : Nat → Int
  | 0 => 0
  | k + 1 => 10 * dv t p k + (t (p + k) - 48)
theorem dv_b {t : Int → Int} {p : Int} : ∀ (k : Nat), (∀ j, p ≤ j → j < p + k → 48 ≤ t j ∧ t j ≤ 57) → 0 ≤ dv t p k ∧ dv t p k + 1 ≤ 10 ^ k := by
  intro k
  induction k with
  | zero => intro _; exact ⟨Int.le_refl 0, Int.le_refl 1⟩
  | succ k ih =>
    intro h
    have h1 := ih (fun j a b => h j a (by omega))
    have h2 := h (p + k) (by omega) (by omega)
    have e : (10 : Int) ^ (k + 1) = 10 * 10 ^ k := by rw [Int.pow_succ]; omega
    show 0 ≤ 10 * dv t p k + (t (p + k) - 48) ∧ 10 * dv t p k + (t (p + k) - 48) + 1 ≤ 10 ^ (k + 1)
    rw [e]
    omega
theorem dv_5 {t : Int → Int} {p : Int} {k : Nat} (hk : k ≤ 5) (h : ∀ j, p ≤ j → j < p + k → 48 ≤ t j ∧ t j ≤ 57) : 0 ≤ dv t p k ∧ dv t p k ≤ 99999 := by
  have h1 := dv_b k h
  have : k = 0 ∨ k = 1 ∨ k = 2 ∨ k = 3 ∨ k = 4 ∨ k = 5 := by omega
  rcases this with rfl | rfl | rfl | rfl | rfl | rfl <;> omega
/-- string j stands at p and goes no further -/
def isW (t : Int → Int) (n p : Int) (j : Nat) : Prop := (∀ k, 0 ≤ k → k < wl j → p + k < n ∧ t (p + k) = wc j k) ∧ ¬ (p + wl j < n ∧ 97 ≤ t (p + wl j) ∧ t (p + wl j) ≤ 122)
theorem wc_l : ∀ j : Fin 11, ∀ k : Fin 6, (k.val : Int) < wl j.val → 97 ≤ wc j.val (k.val : Int) ∧ wc j.val (k.val : Int) ≤ 122 := by decide +kernel
theorem wc_b {j : Nat} {i : Int} (hj : j < 11) (h0 : 0 ≤ i) (hi : i < wl j) : 97 ≤ wc j i ∧ wc j i ≤ 122 := by
  have hb := wl_b hj
  have := wc_l ⟨j, hj⟩ ⟨i.toNat, by omega⟩
  simp only [Int.toNat_of_nonneg h0] at this
  exact this hi
/-- a fault's number (0: none), its place, the place behind -/
abbrev PR : Type := Int × Int × Int
/-- that, how many numbers the clause has, the numbers -/
abbrev PS : Type := PR × Int × (Int → Int)
noncomputable def opW (t : Int → Int) (n : Int) (j : Nat) (s : PS) : PS := if s.1.1 = 0 then (@ite PR (isW t n (sk t n s.1.2.2) j) (Classical.propDecidable _) (0, 0, sk t n s.1.2.2 + wl j) (1, sk t n s.1.2.2, 0), s.2) else s
def nvl (t : Int → Int) (n st d : Int) : Int := (if st < d then -1 else 1) * dv t d (rn (isD t) n d - d).toNat
def opF (t : Int → Int) (n st d lo hi : Int) : PR × Int := if rn (isD t) n d = d then ((1, d, 0), 0) else if 5 < rn (isD t) n d - d ∨ ¬ (lo ≤ nvl t n st d ∧ nvl t n st d ≤ hi) then ((2, st, 0), 0) else ((0, 0, rn (isD t) n d), nvl t n st d)
/-- behind a sign, if there may be one and there is one -/
def sgn (t : Int → Int) (n : Int) (sg : Int) (p : Int) : Int := if sg = 1 ∧ p < n ∧ t p = 45 then p + 1 else p
def opK (r : PR × Int) (s : PS) : PS := (r.1, if r.1.1 = 0 then s.2.1 + 1 else s.2.1, if r.1.1 = 0 then up s.2.2 s.2.1 r.2 else s.2.2)
def opN (t : Int → Int) (n : Int) (sg lo hi : Int) (s : PS) : PS := if s.1.1 = 0 then opK (opF t n (sk t n s.1.2.2) (sgn t n sg (sk t n s.1.2.2)) lo hi) s else s
/-- the least is the number ahead -/
def opT (t : Int → Int) (n : Int) (sg hi : Int) (s : PS) : PS := opN t n sg (s.2.2 (s.2.1 - 1)) hi s
def opE (t : Int → Int) (n : Int) (s : PS) : PS := if s.1.1 = 0 then (if sk t n s.1.2.2 < n ∧ t (sk t n s.1.2.2) = 59 then (0, 0, sk t n s.1.2.2 + 1) else (1, sk t n s.1.2.2, 0), s.2) else s
theorem opW_f {t : Int → Int} {n : Int} {j : Nat} {s : PS} (h : s.1.1 ≠ 0) : opW t n j s = s := if_neg h
theorem opN_f {t : Int → Int} {n sg lo hi : Int} {s : PS} (h : s.1.1 ≠ 0) : opN t n sg lo hi s = s := if_neg h
theorem opT_f {t : Int → Int} {n sg hi : Int} {s : PS} (h : s.1.1 ≠ 0) : opT t n sg hi s = s := if_neg h
theorem opE_f {t : Int → Int} {n : Int} {s : PS} (h : s.1.1 ≠ 0) : opE t n s = s := if_neg h
/-- strings: 0 claim 1 sort 2 dust 3 blur 4 own 5 time 6 to 7 colour 8 by 9 above 10 below -/
noncomputable def clS (t : Int → Int) (n : Int) (s : PS) : PS := opE t n (opT t n 1 9999 (opW t n 6 (opN t n 1 (-9999) 9999 (opW t n 7 (opT t n 1 9999 (opW t n 6 (opN t n 1 (-9999) 9999 (opW t n 5 (opN t n 0 0 5 s)))))))))
noncomputable def clD (t : Int → Int) (n : Int) (s : PS) : PS := opE t n (opT t n 0 99 (opW t n 6 (opN t n 0 0 99 s)))
noncomputable def clB (t : Int → Int) (n : Int) (s : PS) : PS := opE t n (opN t n 0 0 999 (opW t n 8 (opN t n 0 0 5 s)))
def clO (t : Int → Int) (n : Int) (s : PS) : PS := opE t n (opN t n 0 0 9999 s)
/-- above or below -/
noncomputable def opA (t : Int → Int) (n : Int) (s : PS) : PS := @ite PS (s.1.1 = 0 ∧ isW t n (sk t n s.1.2.2) 9) (Classical.propDecidable _) (opW t n 9 s) (opW t n 10 s)
noncomputable def abv (t : Int → Int) (n : Int) (s : PS) : Int := c01 (isW t n (sk t n s.1.2.2) 9)
noncomputable def clC (t : Int → Int) (n : Int) (s : PS) : PS := opE t n (opN t n 1 (-40000) 40000 (opA t n (opN t n 0 0 9 s)))
/-- which clause the word at p begins -/
noncomputable def kdW (t : Int → Int) (n p : Int) : Int := @ite Int (isW t n p 1) (Classical.propDecidable _) 0 (@ite Int (isW t n p 2) (Classical.propDecidable _) 1 (@ite Int (isW t n p 3) (Classical.propDecidable _) 2 (@ite Int (isW t n p 4) (Classical.propDecidable _) 3 (@ite Int (isW t n p 0) (Classical.propDecidable _) 4 (-1)))))
def s0 (p : Int) : PS := ((0, 0, p), 0, fun _ => 0)
noncomputable def clR (t : Int → Int) (n p kd : Int) : PS := if kd = 0 then clS t n (s0 (p + wl 1)) else if kd = 1 then clD t n (s0 (p + wl 2)) else if kd = 2 then clB t n (s0 (p + wl 3)) else if kd = 3 then clO t n (s0 (p + wl 4)) else clC t n (s0 (p + wl 0))
/-- rules, with cells and fields numbered as they lie in the class -/
def eff (kd : Int) (v : Int → Int) (ab : Int) (R : FMem) : FMem := if kd = 0 then st (st (st (st R 1 (v 0) (v 1)) 2 (v 0) (v 2)) 3 (v 0) (v 3)) 4 (v 0) (v 4) else if kd = 1 then st (st R 0 5 (v 0)) 0 6 (v 1) else if kd = 2 then st R 5 (v 0) (v 1) else if kd = 3 then st R 0 7 (v 0) else st (st (st (st R 6 (R 0 11) (v 0)) 8 (R 0 11) ab) 7 (R 0 11) (v 1)) 0 11 (R 0 11 + 1)
noncomputable def clV (t : Int → Int) (n p kd : Int) : Int := abv t n (opN t n 0 0 9 (s0 (p + wl 0)))
/-- all clauses from p on: fault, place, how many, rules -/
noncomputable def rdl (t : Int → Int) (n : Int) : Nat → Int → Int → FMem → Int × Int × Int × FMem
  | 0, _, k, R => (0, -1, k, R)
  | m + 1, p, k, R => if ¬ sk t n p < n then (0, -1, k, R) else if kdW t n (sk t n p) = -1 then (1, sk t n p, k, R) else if kdW t n (sk t n p) = 4 ∧ 8 ≤ R 0 11 then (3, sk t n p, k, R) else if 20 ≤ k then (4, sk t n p, k, R)
    else if (clR t n (sk t n p) (kdW t n (sk t n p))).1.1 ≠ 0 then ((clR t n (sk t n p) (kdW t n (sk t n p))).1.1, (clR t n (sk t n p) (kdW t n (sk t n p))).1.2.1, k, R)
    else rdl t n m (clR t n (sk t n p) (kdW t n (sk t n p))).1.2.2 (k + 1) (eff (kdW t n (sk t n p)) (clR t n (sk t n p) (kdW t n (sk t n p))).2.2 (clV t n (sk t n p) (kdW t n (sk t n p))) R)
def R0 : FMem := fun c i => if c = 0 ∧ (i = 5 ∨ i = 6) then 31 else 0
theorem kdW_r (t : Int → Int) (n p : Int) : -1 ≤ kdW t n p ∧ kdW t n p ≤ 4 := by
  unfold kdW
  repeat' split
  all_goals omega
/-! what an op leaves: places behind, numbers in their bounds -/
def SOk (n : Int) (s : PS) : Prop := s.1.1 = 0 → 0 ≤ s.1.2.2 ∧ s.1.2.2 ≤ n
theorem opF_ok {t : Int → Int} {n st d lo hi : Int} (h0 : 0 ≤ d) (h1 : d ≤ n) (hf : (opF t n st d lo hi).1.1 = 0) : (0 ≤ (opF t n st d lo hi).1.2.2 ∧ (opF t n st d lo hi).1.2.2 ≤ n) ∧ lo ≤ (opF t n st d lo hi).2 ∧ (opF t n st d lo hi).2 ≤ hi := by
  unfold opF at hf ⊢
  split at hf
  · simp at hf
  · split at hf
    · simp at hf
    · rename_i a b
      rw [if_neg a, if_neg b]
      have := rn_ge (isD t) n d
      have := rn_le (P := isD t) h1
      exact ⟨⟨by show 0 ≤ rn (isD t) n d; omega, by show rn (isD t) n d ≤ n; omega⟩, by show lo ≤ nvl t n st d; omega, by show nvl t n st d ≤ hi; omega⟩
theorem sgn_b {t : Int → Int} {n sg p : Int} (h0 : 0 ≤ p) (h1 : p ≤ n) : 0 ≤ sgn t n sg p ∧ sgn t n sg p ≤ n := by
  unfold sgn
  split <;> omega
theorem sk_b {t : Int → Int} {n p : Int} (h0 : 0 ≤ p) (h1 : p ≤ n) : 0 ≤ sk t n p ∧ sk t n p ≤ n := by
  have := rn_ge (isB t) n p
  exact ⟨by show 0 ≤ rn (isB t) n p; omega, rn_le h1⟩
theorem opN_ok {t : Int → Int} {n sg lo hi : Int} {s : PS} (h : SOk n s) : SOk n (opN t n sg lo hi s) := by
  intro hf
  by_cases e : s.1.1 = 0
  · have hs := h e
    unfold opN at hf ⊢
    rw [if_pos e] at hf ⊢
    have hb := sk_b (t := t) hs.1 hs.2
    have hb2 := sgn_b (t := t) (sg := sg) hb.1 hb.2
    exact (opF_ok hb2.1 hb2.2 hf).1
  · rw [opN_f e] at hf; exact absurd hf e
theorem opN_v {t : Int → Int} {n sg lo hi : Int} {s : PS} (h : SOk n s) (hf : (opN t n sg lo hi s).1.1 = 0) : s.1.1 = 0 ∧ (opN t n sg lo hi s).2.1 = s.2.1 + 1 ∧ lo ≤ (opN t n sg lo hi s).2.2 s.2.1 ∧ (opN t n sg lo hi s).2.2 s.2.1 ≤ hi ∧ ∀ k, k ≠ s.2.1 → (opN t n sg lo hi s).2.2 k = s.2.2 k := by
  by_cases e : s.1.1 = 0
  · have hs := h e
    unfold opN at hf ⊢
    rw [if_pos e] at hf ⊢
    have hb := sk_b (t := t) hs.1 hs.2
    have hb2 := sgn_b (t := t) (sg := sg) hb.1 hb.2
    have := (opF_ok hb2.1 hb2.2 hf).2
    refine ⟨e, ?_⟩
    have hf' : (opF t n (sk t n s.1.2.2) (sgn t n sg (sk t n s.1.2.2)) lo hi).1.1 = 0 := hf
    unfold opK
    simp only [hf', if_true]
    rw [up_s]
    exact ⟨trivial, this.1, this.2, fun k hk => up_n hk⟩
  · rw [opN_f e] at hf; exact absurd hf e
theorem opT_ok {t : Int → Int} {n sg hi : Int} {s : PS} (h : SOk n s) : SOk n (opT t n sg hi s) := opN_ok h
theorem opW_ok {t : Int → Int} {n : Int} {j : Nat} {s : PS} (hj : j < 11) (h : SOk n s) : SOk n (opW t n j s) := by
  intro hf
  by_cases e : s.1.1 = 0
  · have hs := h e
    unfold opW at hf ⊢
    rw [if_pos e] at hf ⊢
    have hb := sk_b (t := t) hs.1 hs.2
    have hw := wl_b hj
    split at hf
    · rename_i a
      rw [if_pos a]
      have := (a.1 (wl j - 1) (by omega) (by omega)).1
      exact ⟨by show 0 ≤ sk t n s.1.2.2 + wl j; omega, by show sk t n s.1.2.2 + wl j ≤ n; omega⟩
    · simp at hf
  · rw [opW_f e] at hf; exact absurd hf e
theorem opW_v {t : Int → Int} {n : Int} {j : Nat} {s : PS} : (opW t n j s).2 = s.2 ∧ ((opW t n j s).1.1 = 0 → s.1.1 = 0) := by
  by_cases e : s.1.1 = 0
  · unfold opW
    rw [if_pos e]
    exact ⟨rfl, fun _ => e⟩
  · rw [opW_f e]; exact ⟨rfl, id⟩
theorem opE_ok {t : Int → Int} {n : Int} {s : PS} (h : SOk n s) : SOk n (opE t n s) := by
  intro hf
  by_cases e : s.1.1 = 0
  · have hs := h e
    unfold opE at hf ⊢
    rw [if_pos e] at hf ⊢
    have hb := sk_b (t := t) hs.1 hs.2
    split at hf
    · rename_i a
      rw [if_pos a]
      exact ⟨by show 0 ≤ sk t n s.1.2.2 + 1; omega, by show sk t n s.1.2.2 + 1 ≤ n; omega⟩
    · simp at hf
  · rw [opE_f e] at hf; exact absurd hf e
theorem opE_v {t : Int → Int} {n : Int} {s : PS} : (opE t n s).2 = s.2 ∧ ((opE t n s).1.1 = 0 → s.1.1 = 0) := by
  by_cases e : s.1.1 = 0
  · unfold opE
    rw [if_pos e]
    exact ⟨rfl, fun _ => e⟩
  · rw [opE_f e]; exact ⟨rfl, id⟩
theorem opA_ok {t : Int → Int} {n : Int} {s : PS} (h : SOk n s) : SOk n (opA t n s) := by
  unfold opA
  split
  · exact opW_ok (by decide) h
  · exact opW_ok (by decide) h
theorem opA_v {t : Int → Int} {n : Int} {s : PS} : (opA t n s).2 = s.2 ∧ ((opA t n s).1.1 = 0 → s.1.1 = 0) := by
  unfold opA
  split <;> exact opW_v
