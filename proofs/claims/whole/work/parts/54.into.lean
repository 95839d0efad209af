/-! ===== the reader: all clauses ===== -/
/-- the cells from r on, numbered from 0 -/
def sh (r : Nat) (M : FMem) : FMem := fun c i => M (r + c) i
theorem sh_st (r a : Nat) (M : FMem) (i v : Int) : sh r (st M (r + a) i v) = st (sh r M) a i v := by
  funext c j
  unfold sh st
  by_cases e : c = a ∧ j = i
  · rw [if_pos e, if_pos ⟨by omega, e.2⟩]
  · rw [if_neg e, if_neg (fun z => e ⟨by omega, z.2⟩)]
theorem sh_st0 (r : Nat) (M : FMem) (i v : Int) : sh r (st M r i v) = st (sh r M) 0 i v := sh_st r 0 M i v
theorem sh_eff (r : Nat) (kd : Int) (v : Int → Int) (ab : Int) (M : FMem) : sh r (effR r kd v ab M) = eff kd v ab (sh r M) := by
  unfold effR eff
  split
  · rw [sh_st, sh_st, sh_st, sh_st]
  · split
    · rw [sh_st0, sh_st0]
    · split
      · rw [sh_st]
      · split
        · rw [sh_st0]
        · rw [sh_st0, sh_st, sh_st, sh_st]; rfl
def DrP (Q R : FMem) : Prop := (∀ (c : Nat) (i : Int), 1 ≤ c → c ≤ 5 → 0 ≤ i → i < 6 → Q c i = R c i) ∧ (Q 0 5 = R 0 5 ∧ Q 0 6 = R 0 6 ∧ Q 0 7 = R 0 7 ∧ Q 0 11 = R 0 11) ∧ (∀ (c : Nat) (i : Int), 6 ≤ c → c ≤ 8 → 0 ≤ i → i < R 0 11 → Q c i = R c i)
theorem st_cg {Q R : FMem} {a c : Nat} {i w j : Int} (h : Q c j = R c j) : st Q a i w c j = st R a i w c j := by
  unfold st
  split
  · rfl
  · exact h
theorem DrP_eff {Q R : FMem} {kd ab : Int} {v : Int → Int} (h : DrP Q R) : DrP (eff kd v ab Q) (eff kd v ab R) := by
  obtain ⟨h1, ⟨h5, h6, h7, h11⟩, h3⟩ := h
  unfold eff
  split
  · refine ⟨fun c i a b e f => st_cg (st_cg (st_cg (st_cg (h1 c i a b e f)))), ⟨st_cg (st_cg (st_cg (st_cg h5))), st_cg (st_cg (st_cg (st_cg h6))), st_cg (st_cg (st_cg (st_cg h7))), st_cg (st_cg (st_cg (st_cg h11)))⟩, fun c i a b e f => st_cg (st_cg (st_cg (st_cg (h3 c i a b e ?_))))⟩
    rw [st_cell (by decide), st_cell (by decide), st_cell (by decide), st_cell (by decide)] at f
    exact f
  · split
    · refine ⟨fun c i a b e f => st_cg (st_cg (h1 c i a b e f)), ⟨st_cg (st_cg h5), st_cg (st_cg h6), st_cg (st_cg h7), st_cg (st_cg h11)⟩, fun c i a b e f => st_cg (st_cg (h3 c i a b e ?_))⟩
      rw [st_at, if_neg (by decide), st_at, if_neg (by decide)] at f
      exact f
    · split
      · refine ⟨fun c i a b e f => st_cg (h1 c i a b e f), ⟨st_cg h5, st_cg h6, st_cg h7, st_cg h11⟩, fun c i a b e f => st_cg (h3 c i a b e ?_)⟩
        rw [st_cell (by decide)] at f
        exact f
      · split
        · refine ⟨fun c i a b e f => st_cg (h1 c i a b e f), ⟨st_cg h5, st_cg h6, st_cg h7, st_cg h11⟩, fun c i a b e f => st_cg (h3 c i a b e ?_)⟩
          rw [st_at, if_neg (by decide)] at f
          exact f
        · rw [h11]
          refine ⟨fun c i a b e f => st_cg (st_cg (st_cg (st_cg (h1 c i a b e f)))), ⟨st_cg (st_cg (st_cg (st_cg h5))), st_cg (st_cg (st_cg (st_cg h6))), st_cg (st_cg (st_cg (st_cg h7))), st_cg (st_cg (st_cg (st_cg h11)))⟩, fun c i a b e f => ?_⟩
          rw [st_same] at f
          by_cases g : i = R 0 11
          · have hc : c = 6 ∨ c = 7 ∨ c = 8 := by omega
            subst g
            rcases hc with rfl | rfl | rfl <;> simp [st]
          · exact st_cg (st_cg (st_cg (st_cg (h3 c i a b e (by omega)))))
theorem effR_off {r : Nat} {kd ab : Int} {v : Int → Int} {M : FMem} {b : Nat} {j : Int} (h : b < r ∨ r + 8 < b) : effR r kd v ab M b j = M b j := by
  unfold effR
  repeat' split
  · rw [st_cell (by omega), st_cell (by omega), st_cell (by omega), st_cell (by omega)]
  · rw [st_cell (by omega), st_cell (by omega)]
  · rw [st_cell (by omega)]
  · rw [st_cell (by omega)]
  · rw [st_cell (by omega), st_cell (by omega), st_cell (by omega), st_cell (by omega)]
theorem kd_i (t : Int → Int) (n p : Int) : (kdW t n p = 0 ∧ isW t n p 1) ∨ (kdW t n p = 1 ∧ isW t n p 2) ∨ (kdW t n p = 2 ∧ isW t n p 3) ∨ (kdW t n p = 3 ∧ isW t n p 4) ∨ (kdW t n p = 4 ∧ isW t n p 0) ∨ kdW t n p = -1 := by
  by_cases h1 : isW t n p 1
  · exact Or.inl ⟨kd_1 h1, h1⟩
  by_cases h2 : isW t n p 2
  · exact Or.inr (Or.inl ⟨kd_2 h2, h2⟩)
  by_cases h3 : isW t n p 3
  · exact Or.inr (Or.inr (Or.inl ⟨kd_3 h3, h3⟩))
  by_cases h4 : isW t n p 4
  · exact Or.inr (Or.inr (Or.inr (Or.inl ⟨kd_4 h4, h4⟩)))
  by_cases h0 : isW t n p 0
  · exact Or.inr (Or.inr (Or.inr (Or.inr (Or.inl ⟨kd_0 h0, h0⟩))))
  · exact Or.inr (Or.inr (Or.inr (Or.inr (Or.inr (kd_n h1 h2 h3 h4 h0)))))
theorem s0_ok {t : Int → Int} {n p : Int} {j : Nat} (hj : j < 11) (h0 : 0 ≤ p) (h : isW t n p j) : SOk n (s0 (p + wl j)) := by
  have hb := wl_b hj
  have hl := isW_le hj h
  exact fun _ => ⟨by show 0 ≤ p + wl j; omega, by show p + wl j ≤ n; omega⟩
/-- a clause that stands: the place behind it, and the rules that it leaves -/
theorem clR_ok {t : Int → Int} {n p ab : Int} {R : FMem} (h0 : 0 ≤ p) (hk : kdW t n p ≠ -1) (hf : (clR t n p (kdW t n p)).1.1 = 0) : (0 ≤ (clR t n p (kdW t n p)).1.2.2 ∧ (clR t n p (kdW t n p)).1.2.2 ≤ n) ∧ (RulX R 0 → (kdW t n p = 4 → R 0 11 < 8) → RulX (eff (kdW t n p) (clR t n p (kdW t n p)).2.2 ab R) 0) := by
  rcases kd_i t n p with ⟨e, w⟩ | ⟨e, w⟩ | ⟨e, w⟩ | ⟨e, w⟩ | ⟨e, w⟩ | e
  · have hC : clR t n p (kdW t n p) = clS t n (s0 (p + wl 1)) := by unfold clR; rw [if_pos e]
    rw [hC] at hf ⊢
    obtain ⟨c1, -, c3, c4, c5⟩ := clS_v (t := t) (s0_ok (by decide) h0 w) rfl hf
    refine ⟨c1 hf, fun hR hc => ?_⟩
    generalize (clS t n (s0 (p + wl 1))).2.2 = v at *
    unfold eff
    rw [e, if_pos rfl]
    obtain ⟨r1, r2, r3, r4, r5, r6⟩ := hR
    refine ⟨fun s s1 s2 => ?_, fun l l1 l2 => ?_, ?_, ?_, ?_, fun k k1 k2 => ?_⟩
    · have := r1 s s1 s2
      simp only [st] at this ⊢
      by_cases z : s = v 0
      · subst z; simp; omega
      · simp [z]; simpa using this
    · have := r2 l l1 l2; simpa [st] using this
    · simpa [st] using r3
    · simpa [st] using r4
    · simpa [st] using r5
    · have := r6 k k1 (by simpa [st] using k2); simpa [st] using this
  · have hC : clR t n p (kdW t n p) = clD t n (s0 (p + wl 2)) := by unfold clR; rw [e]; rfl
    rw [hC] at hf ⊢
    obtain ⟨c1, -, c3⟩ := clD_v (t := t) (s0_ok (by decide) h0 w) rfl hf
    refine ⟨c1 hf, fun hR hc => ?_⟩
    generalize (clD t n (s0 (p + wl 2))).2.2 = v at *
    unfold eff
    rw [e, if_neg (by decide), if_pos rfl]
    obtain ⟨r1, r2, r3, r4, r5, r6⟩ := hR
    refine ⟨fun s s1 s2 => ?_, fun l l1 l2 => ?_, ?_, ?_, ?_, fun k k1 k2 => ?_⟩
    · have := r1 s s1 s2; simpa [st] using this
    · have := r2 l l1 l2; simpa [st] using this
    · simp [st]; omega
    · simpa [st] using r4
    · simpa [st] using r5
    · have := r6 k k1 (by simpa [st] using k2); simpa [st] using this
  · have hC : clR t n p (kdW t n p) = clB t n (s0 (p + wl 3)) := by unfold clR; rw [e]; rfl
    rw [hC] at hf ⊢
    obtain ⟨c1, -, c3, c4⟩ := clB_v (t := t) (s0_ok (by decide) h0 w) rfl hf
    refine ⟨c1 hf, fun hR hc => ?_⟩
    generalize (clB t n (s0 (p + wl 3))).2.2 = v at *
    unfold eff
    rw [e, if_neg (by decide), if_neg (by decide), if_pos rfl]
    obtain ⟨r1, r2, r3, r4, r5, r6⟩ := hR
    refine ⟨fun s s1 s2 => ?_, fun l l1 l2 => ?_, ?_, ?_, ?_, fun k k1 k2 => ?_⟩
    · have := r1 s s1 s2; simpa [st] using this
    · have := r2 l l1 l2
      simp only [st] at this ⊢
      by_cases z : l = v 0
      · subst z; simp; omega
      · simp [z]; simpa using this
    · simpa [st] using r3
    · simpa [st] using r4
    · simpa [st] using r5
    · have := r6 k k1 (by simpa [st] using k2); simpa [st] using this
  · have hC : clR t n p (kdW t n p) = clO t n (s0 (p + wl 4)) := by unfold clR; rw [e]; rfl
    rw [hC] at hf ⊢
    obtain ⟨c1, -, c3⟩ := clO_v (t := t) (s0_ok (by decide) h0 w) rfl hf
    refine ⟨c1 hf, fun hR hc => ?_⟩
    generalize (clO t n (s0 (p + wl 4))).2.2 = v at *
    unfold eff
    rw [e, if_neg (by decide), if_neg (by decide), if_neg (by decide), if_pos rfl]
    obtain ⟨r1, r2, r3, r4, r5, r6⟩ := hR
    refine ⟨fun s s1 s2 => ?_, fun l l1 l2 => ?_, ?_, ?_, ?_, fun k k1 k2 => ?_⟩
    · have := r1 s s1 s2; simpa [st] using this
    · have := r2 l l1 l2; simpa [st] using this
    · simpa [st] using r3
    · simp [st]; omega
    · simpa [st] using r5
    · have := r6 k k1 (by simpa [st] using k2); simpa [st] using this
  · have hC : clR t n p (kdW t n p) = clC t n (s0 (p + wl 0)) := by unfold clR; rw [e]; rfl
    rw [hC] at hf ⊢
    obtain ⟨c1, -, c3, c4⟩ := clC_v (t := t) (s0_ok (by decide) h0 w) rfl hf
    refine ⟨c1 hf, fun hR hc => ?_⟩
    generalize (clC t n (s0 (p + wl 0))).2.2 = v at *
    have hc := hc e
    unfold eff
    rw [e, if_neg (by decide), if_neg (by decide), if_neg (by decide), if_neg (by decide)]
    obtain ⟨r1, r2, r3, r4, r5, r6⟩ := hR
    refine ⟨fun s s1 s2 => ?_, fun l l1 l2 => ?_, ?_, ?_, ?_, fun k k1 k2 => ?_⟩
    · have := r1 s s1 s2; simpa [st] using this
    · have := r2 l l1 l2; simpa [st] using this
    · simpa [st] using r3
    · simpa [st] using r4
    · simp [st]; omega
    · have k3 : k < R 0 11 + 1 := by simpa [st] using k2
      by_cases z : k = R 0 11
      · subst z; simp [st]; omega
      · have := r6 k k1 (by omega); simpa [st, z] using this
  · exact absurd e hk
theorem rdl_ok (t : Int → Int) (n : Int) : ∀ (m : Nat) (p k : Int) (R : FMem), 0 ≤ p → p ≤ n → RulX R 0 → (rdl t n m p k R).1 = 0 → RulX (rdl t n m p k R).2.2.2 0 := by
  intro m
  induction m with
  | zero => intro p k R h0 h1 hR _; exact hR
  | succ m ih =>
    intro p k R h0 h1 hR hf
    unfold rdl at hf ⊢
    have hb := sk_b (t := t) h0 h1
    split
    · exact hR
    · rename_i q1; rw [if_neg q1] at hf
      split
      · exact hR
      · rename_i q2; rw [if_neg q2] at hf
        split
        · exact hR
        · rename_i q3; rw [if_neg q3] at hf
          split
          · exact hR
          · rename_i q4; rw [if_neg q4] at hf
            split
            · exact hR
            · rename_i q5; rw [if_neg q5] at hf
              have q5' := Classical.byContradiction q5
              have hc := clR_ok (R := R) (ab := clV t n (sk t n p) (kdW t n (sk t n p))) hb.1 q2 q5'
              exact ih _ _ _ hc.1.1 hc.1.2 (hc.2 hR (fun z => by omega)) hf
theorem R0_ok : RulX R0 0 := by
  refine ⟨fun s _ _ => ?_, fun l _ _ => ?_, ?_, ?_, ?_, fun k k1 k2 => ?_⟩
  · simp [R0]
  · simp [R0]
  · simp [R0]
  · simp [R0]
  · simp [R0]
  · simp [R0] at k2; omega
theorem DrP_ok {M R : FMem} {r : Nat} (h : DrP (sh r M) R) (hR : RulX R 0) : RulX M r := by
  obtain ⟨h1, ⟨h5, h6, h7, h11⟩, h3⟩ := h
  obtain ⟨r1, r2, r3, r4, r5, r6⟩ := hR
  unfold sh at *
  refine ⟨fun s s1 s2 => ?_, fun l l1 l2 => ?_, ?_, ?_, ?_, fun k k1 k2 => ?_⟩
  · have a := r1 s s1 s2
    rw [h1 1 s (by decide) (by decide) s1 s2, h1 2 s (by decide) (by decide) s1 s2, h1 3 s (by decide) (by decide) s1 s2, h1 4 s (by decide) (by decide) s1 s2]
    exact a
  · have a := r2 l l1 l2
    rw [h1 5 l (by decide) (by decide) l1 l2]
    exact a
  · have e5 : M r 5 = R 0 5 := h5
    have e6 : M r 6 = R 0 6 := h6
    rw [e5, e6]; exact r3
  · have e7 : M r 7 = R 0 7 := h7
    rw [e7]; exact r4
  · have e7 : M r 11 = R 0 11 := h11
    rw [e7]; exact r5
  · have e7 : M r 11 = R 0 11 := h11
    rw [e7] at k2
    have a := r6 k k1 k2
    rw [h3 6 k (by decide) (by decide) k1 k2, h3 7 k (by decide) (by decide) k1 k2]
    exact a
