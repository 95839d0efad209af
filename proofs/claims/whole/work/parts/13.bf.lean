/-! ===== ways in a net of 17 nodes: rounds over a list of edges ===== -/
abbrev EdT : Type := Int → Int → Int → Int → Prop
abbrev nd (v : Int) : Prop := 0 ≤ v ∧ v < 17
/-- an edge by its place: from, to, length -/
def EdOk (Ed : EdT) (K : Int) : Prop := (∀ p a b w, Ed p a b w → 0 ≤ p ∧ p < K ∧ nd a ∧ nd b ∧ a ≠ b) ∧ (∀ p a b w a' b' w', Ed p a b w → Ed p a' b' w' → a = a' ∧ b = b' ∧ w = w')
def Sat (Ed : EdT) (x : Int → Int) : Prop := ∀ p a b w, Ed p a b w → x b ≤ x a + w
def up (f : Int → Int) (a v : Int) : Int → Int := fun j => if j = a then v else f j
theorem up_s (f : Int → Int) (a v : Int) : up f a v a = v := by simp [up]
theorem up_n {f : Int → Int} {a v j : Int} (h : j ≠ a) : up f a v j = f j := by simp [up, h]
/-- the ways way, with the step tau at which each was set (-1: never) and the edge's place by which -/
def BG (Ed : EdT) (K I : Int) (way tau pe : Int → Int) (s : Int) : Prop :=
  (∀ v, -1 ≤ tau v ∧ tau v < s) ∧
  (∀ v u w, 0 ≤ tau v → Ed (pe v) u v w → way u ≠ I ∧ way u + w ≤ way v ∧ (tau v < tau u → way u + w < way v) ∧ tau v - K ≤ tau u) ∧
  (∀ v, 0 ≤ tau v → way v ≠ I ∧ ∃ u w, Ed (pe v) u v w) ∧
  (∀ u v, tau u = tau v → 0 ≤ tau u → u = v) ∧
  (∀ p u v w t, Ed p u v w → 0 ≤ t → s - K ≤ t → t < s → t % K = p → tau u < t → way u ≠ I → way v ≠ I ∧ way v ≤ way u + w)
theorem BG_start (Ed : EdT) (K I : Int) (way pe : Int → Int) : BG Ed K I way (fun _ => -1) pe 0 :=
  ⟨fun v => by dsimp only; omega, fun v u w h => by dsimp only at h; omega, fun v h => by dsimp only at h; omega, fun u v _ h => by dsimp only at h; omega, fun p u v w t _ h0 _ h1 => by omega⟩
theorem BG_stay {Ed : EdT} {K I : Int} {way tau pe : Int → Int} {s : Int} (h : BG Ed K I way tau pe s) (hno : ∀ a b w, Ed (s % K) a b w → way a = I ∨ (way b ≠ I ∧ way b ≤ way a + w)) : BG Ed K I way tau pe (s + 1) := by
  obtain ⟨h1, h2, h3, h4, h5⟩ := h
  refine ⟨fun v => by have := h1 v; omega, h2, h3, h4, fun p u v w t he h0 hk hs hp ht hw => ?_⟩
  by_cases e : t = s
  · subst e
    rw [← hp] at he
    rcases hno u v w he with q | q
    · exact absurd q hw
    · exact q
  · exact h5 p u v w t he h0 (by omega) (by omega) hp ht hw
theorem BG_relax {Ed : EdT} {K I : Int} {way tau pe : Int → Int} {s : Int} (h : BG Ed K I way tau pe s) (hok : EdOk Ed K) (hK : 0 < K) (hs : 0 ≤ s) {a b w : Int} (he : Ed (s % K) a b w) (ha : way a ≠ I) (hlt : way b = I ∨ way a + w < way b) (hfin : way a + w ≠ I) :
    BG Ed K I (up way b (way a + w)) (up tau b s) (up pe b (s % K)) (s + 1) := by
  obtain ⟨h1, h2, h3, h4, h5⟩ := h
  have hab : a ≠ b := (hok.1 _ _ _ _ he).2.2.2.2
  refine ⟨fun v => ?_, fun v u w' hv hE => ?_, fun v hv => ?_, fun u v huv hu => ?_, fun p u v w' t hE h0 hk hts hp ht hw => ?_⟩
  · have := h1 v
    unfold up; split <;> omega
  · by_cases ev : v = b
    · subst ev
      rw [up_s] at hE hv
      obtain ⟨rfl, -, rfl⟩ := hok.2 _ _ _ _ _ _ _ hE he
      rw [up_n hab, up_s, up_s, up_n hab]
      have ha1 := h1 u
      refine ⟨ha, Int.le_refl _, fun q => by omega, ?_⟩
      by_cases q : s - K ≤ tau u
      · exact q
      · exfalso
        by_cases q0 : 0 ≤ s - K
        · have := h5 (s % K) u v w' (s - K) he q0 (Int.le_refl _) (by omega) (Int.sub_emod_right s K) (by omega) ha
          rcases hlt with r | r
          · exact this.1 r
          · omega
        · omega
    · rw [up_n ev] at hE hv
      rw [up_n ev, up_n ev]
      obtain ⟨q1, q2, q3, q4⟩ := h2 v u w' hv hE
      by_cases eu : u = b
      · subst eu
        rw [up_s, up_s]
        have hlt' : way a + w < way u := by
          rcases hlt with r | r
          · exact absurd r q1
          · exact r
        have := h1 v
        exact ⟨hfin, by omega, fun _ => by omega, by omega⟩
      · rw [up_n eu, up_n eu]
        exact ⟨q1, q2, q3, q4⟩
  · by_cases ev : v = b
    · subst ev
      rw [up_s, up_s]
      exact ⟨hfin, a, w, he⟩
    · rw [up_n ev] at hv
      rw [up_n ev, up_n ev]
      exact h3 v hv
  · by_cases eu : u = b
    · by_cases ev : v = b
      · rw [eu, ev]
      · subst eu
        rw [up_s, up_n ev] at huv
        have := h1 v
        omega
    · by_cases ev : v = b
      · subst ev
        rw [up_s, up_n eu] at huv
        have := h1 u
        omega
      · rw [up_n eu, up_n ev] at huv
        rw [up_n eu] at hu
        exact h4 u v huv hu
  · by_cases e : t = s
    · subst e
      rw [← hp] at hE
      obtain ⟨rfl, rfl, rfl⟩ := hok.2 _ _ _ _ _ _ _ hE he
      rw [up_s, up_n hab]
      exact ⟨hfin, Int.le_refl _⟩
    · by_cases eu : u = b
      · subst eu
        rw [up_s] at ht
        omega
      · rw [up_n eu] at ht hw ⊢
        obtain ⟨q1, q2⟩ := h5 p u v w' t hE h0 (by omega) (by omega) hp ht hw
        by_cases ev : v = b
        · subst ev
          rw [up_s]
          refine ⟨hfin, ?_⟩
          rcases hlt with r | r
          · exact absurd r q1
          · omega
        · rw [up_n ev]
          exact ⟨q1, q2⟩
/-- a whole round in which nothing moved: all edges hold -/
theorem BG_quiet {Ed : EdT} {K I : Int} {way tau pe : Int → Int} {s0 : Int} (h : BG Ed K I way tau pe (s0 + K)) (hok : EdOk Ed K) (hK : 0 < K) (hs0 : 0 ≤ s0) (hq : ∀ v, tau v < s0) : ∀ p u v w, Ed p u v w → way u ≠ I → way v ≠ I ∧ way v ≤ way u + w := by
  intro p u v w hE hw
  obtain ⟨hp0, hpK, -⟩ := hok.1 _ _ _ _ hE
  have m0 := Int.emod_nonneg (p - s0) (show K ≠ 0 by omega)
  have m1 := Int.emod_lt_of_pos (p - s0) hK
  refine h.2.2.2.2 p u v w (s0 + (p - s0) % K) hE (by omega) (by omega) (by omega) ?_ (by have := hq u; omega) hw
  rw [Int.add_emod_emod, show s0 + (p - s0) = p by omega]
  exact Int.emod_eq_of_lt hp0 hpK
/-- of n + 1 places among n numbers two are alike -/
theorem pigeon (n : Nat) : ∀ (f : Nat → Int), (∀ j, j ≤ n → 0 ≤ f j ∧ f j < n) → ∃ i j, i < j ∧ j ≤ n ∧ f i = f j := by
  induction n with
  | zero => intro f h; have := h 0 (Nat.le_refl 0); omega
  | succ n ih =>
    intro f h
    by_cases he : ∃ i, i ≤ n ∧ f i = f (n + 1)
    · obtain ⟨i, hi, e⟩ := he
      exact ⟨i, n + 1, by omega, Nat.le_refl _, e⟩
    · have hne : ∀ i, i ≤ n → f i ≠ f (n + 1) := fun i hi e => he ⟨i, hi, e⟩
      obtain ⟨i, j, h1, h2, h3⟩ := ih (fun i => if f i = n then f (n + 1) else f i) (fun j hj => by
        have a := h j (by omega)
        have b := h (n + 1) (by omega)
        have c := hne j hj
        split <;> omega)
      refine ⟨i, j, h1, by omega, ?_⟩
      have c1 := hne i (by omega)
      have c2 := hne j (by omega)
      split at h3 <;> split at h3 <;> omega
/-- a ring of parents can't hold -/
theorem ring_no {way tau x : Int → Int} {u : Nat → Int} {w : Nat → Int} {q : Nat} (hq : 1 ≤ q) (hc : u q = u 0) (hn : ∀ t, t < q → u t ≠ u (t + 1)) (ht : ∀ t, t < q → 0 ≤ tau (u t)) (hi : ∀ a b, tau a = tau b → 0 ≤ tau a → a = b)
    (h1 : ∀ t, t < q → way (u (t + 1)) + w t ≤ way (u t) ∧ (tau (u t) < tau (u (t + 1)) → way (u (t + 1)) + w t < way (u t))) (hx : ∀ t, t < q → x (u t) ≤ x (u (t + 1)) + w t) : False := by
  have hy : ∀ t, t ≤ q → way (u t) - x (u t) ≤ way (u 0) - x (u 0) := by
    intro t
    induction t with
    | zero => intro _; omega
    | succ t ih => intro h; have := ih (by omega); have := (h1 t (by omega)).1; have := hx t (by omega); omega
  have hy2 : ∀ t, t ≤ q → way (u q) - x (u q) ≤ way (u (q - t)) - x (u (q - t)) := by
    intro t
    induction t with
    | zero => intro _; simp
    | succ t ih =>
      intro h
      have a := ih (by omega)
      have b := (h1 (q - (t + 1)) (by omega)).1
      have c := hx (q - (t + 1)) (by omega)
      rw [show q - (t + 1) + 1 = q - t by omega] at b c
      omega
  have hall : ∀ t, t ≤ q → way (u t) - x (u t) = way (u 0) - x (u 0) := by
    intro t h
    have a := hy t h
    have b := hy2 (q - t) (by omega)
    rw [show q - (q - t) = t by omega, hc] at b
    omega
  have hdec : ∀ t, t < q → tau (u (t + 1)) < tau (u t) := by
    intro t h
    have a := hall t (by omega)
    have b := hall (t + 1) (by omega)
    have c := h1 t h
    have d := hx t h
    by_cases e : tau (u t) < tau (u (t + 1))
    · have := c.2 e; omega
    · by_cases e2 : tau (u t) = tau (u (t + 1))
      · exact absurd (hi _ _ e2 (ht t h)) (hn t h)
      · omega
  have : ∀ t, t ≤ q → t = 0 ∨ tau (u t) < tau (u 0) := by
    intro t
    induction t with
    | zero => intro _; exact Or.inl rfl
    | succ t ih =>
      intro h
      have a := hdec t (by omega)
      rcases ih (by omega) with rfl | b
      · exact Or.inr a
      · exact Or.inr (by omega)
  rcases this q (Nat.le_refl q) with e | e
  · omega
  · rw [hc] at e; omega
/-- the chain of parents of a node -/
def chain (par : Int → Int) (v : Int) : Nat → Int
  | 0 => v
  | j + 1 => par (chain par v j)
theorem chain_add (par : Int → Int) (v : Int) (i j : Nat) : chain par v (i + j) = chain par (chain par v i) j := by
  induction j with
  | zero => rfl
  | succ j ih => show par (chain par v (i + j)) = par (chain par (chain par v i) j); rw [ih]
/-- par is the parent of every node that was set -/
def Par (Ed : EdT) (tau pe par : Int → Int) : Prop := ∀ v, 0 ≤ tau v → ∃ w, Ed (pe v) (par v) v w
/-- a chain with a time that is never -1 comes into a ring, and no ring can hold -/
theorem chain_ring {Ed : EdT} {K I : Int} {way tau pe par : Int → Int} {s v0 : Int} (h : BG Ed K I way tau pe s) (hok : EdOk Ed K) (hp : Par Ed tau pe par) (hc : ∀ j, j ≤ 16 → 0 ≤ tau (chain par v0 j)) :
    (∀ m, 0 ≤ tau (chain par v0 m) ∧ nd (chain par v0 m)) ∧ (∃ q, 1 ≤ q ∧ q ≤ 17 ∧ chain par v0 (17 + q) = chain par v0 17) := by
  have hnd : ∀ m, 0 ≤ tau (chain par v0 m) → nd (chain par v0 m) ∧ nd (chain par v0 (m + 1)) := by
    intro m hm
    obtain ⟨w, hw⟩ := hp _ hm
    exact ⟨(hok.1 _ _ _ _ hw).2.2.2.1, (hok.1 _ _ _ _ hw).2.2.1⟩
  have h17 : ∀ j, j ≤ 17 → 0 ≤ chain par v0 j ∧ chain par v0 j < (17 : Nat) := by
    intro j hj
    by_cases e : j = 17
    · subst e; exact (hnd 16 (hc 16 (Nat.le_refl _))).2
    · exact (hnd j (hc j (by omega))).1
  obtain ⟨i, j, hij, hj, he⟩ := pigeon 17 (chain par v0) h17
  have hper : ∀ m, i ≤ m → chain par v0 (m + (j - i)) = chain par v0 m := by
    intro m hm
    have a := chain_add par v0 j (m - i)
    have b := chain_add par v0 i (m - i)
    rw [← he, ← b] at a
    rw [show m + (j - i) = j + (m - i) by omega, a, show i + (m - i) = m by omega]
  have hall : ∀ m, 0 ≤ tau (chain par v0 m) := by
    intro m
    induction m using Nat.strongRecOn with
    | _ m ih =>
      by_cases hm : m ≤ 16
      · exact hc m hm
      · have := hper (m - (j - i)) (by omega)
        rw [show m - (j - i) + (j - i) = m by omega] at this
        rw [this]
        exact ih _ (by omega)
  exact ⟨fun m => ⟨hall m, (hnd m (hall m)).1⟩, j - i, by omega, by omega, hper 17 (by omega)⟩
theorem chain_no {Ed : EdT} {K I : Int} {way tau pe par x : Int → Int} {s v0 : Int} (h : BG Ed K I way tau pe s) (hok : EdOk Ed K) (hp : Par Ed tau pe par) {m0 q : Nat} (hall : ∀ m, 0 ≤ tau (chain par v0 m)) (hq : 1 ≤ q) (hc : chain par v0 (m0 + q) = chain par v0 m0)
    (hx : ∀ m, m0 ≤ m → m < m0 + q → ∀ w, Ed (pe (chain par v0 m)) (chain par v0 (m + 1)) (chain par v0 m) w → x (chain par v0 m) ≤ x (chain par v0 (m + 1)) + w) : False := by
  have hw : ∀ m, ∃ w, Ed (pe (chain par v0 m)) (chain par v0 (m + 1)) (chain par v0 m) w := fun m => hp _ (hall m)
  obtain ⟨w, hw⟩ := Classical.axiomOfChoice hw
  refine ring_no (way := way) (tau := tau) (x := x) (u := fun t => chain par v0 (m0 + t)) (w := fun t => w (m0 + t)) (q := q) hq hc (fun t _ => ?_) (fun t _ => hall _) h.2.2.2.1 (fun t _ => ?_) (fun t ht => ?_)
  · exact fun e => (hok.1 _ _ _ _ (hw (m0 + t))).2.2.2.2 e.symm
  · have := h.2.1 _ _ _ (hall (m0 + t)) (hw (m0 + t))
    exact ⟨this.2.1, this.2.2.1⟩
  · exact hx (m0 + t) (by omega) (by omega) _ (hw (m0 + t))
/-- a node set in the seventeenth round: its chain is never -1 -/
theorem chain_late {Ed : EdT} {K I : Int} {way tau pe par : Int → Int} {s v0 : Int} (h : BG Ed K I way tau pe s) (hK : 0 < K) (hp : Par Ed tau pe par) (hv : 16 * K ≤ tau v0) : ∀ j, j ≤ 16 → 0 ≤ tau (chain par v0 j) := by
  have : ∀ j : Nat, j ≤ 16 → (16 - (j : Int)) * K ≤ tau (chain par v0 j) := by
    intro j
    induction j with
    | zero => intro _; simpa [chain] using hv
    | succ j ih =>
      intro hj
      have a := ih (by omega)
      have hpos : 0 ≤ (16 - (j : Int)) * K := Int.mul_nonneg (by omega) (by omega)
      obtain ⟨w, hw⟩ := hp _ (show 0 ≤ tau (chain par v0 j) by omega)
      have b := (h.2.1 _ _ _ (by omega) hw).2.2.2
      have c : (16 - ((j + 1 : Nat) : Int)) * K = (16 - (j : Int)) * K - K := by
        rw [show (16 - ((j + 1 : Nat) : Int)) = (16 - (j : Int)) - 1 by omega, Int.sub_mul, Int.one_mul]
      show (16 - ((j + 1 : Nat) : Int)) * K ≤ tau (par (chain par v0 j))
      rw [c]; omega
  intro j hj
  have a := this j hj
  have hpos : 0 ≤ (16 - (j : Int)) * K := Int.mul_nonneg (by omega) (by omega)
  omega
