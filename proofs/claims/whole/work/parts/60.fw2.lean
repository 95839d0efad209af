/-! ===== sums of ways: how large they are, what they mean ===== -/
theorem obey_0 {D0 D : Int → Int → Int} (hle : ∀ a b, nd a → nd b → D a b ≤ D0 a b) {y : Int → Int} (h : Obey D y) : Obey D0 y := fun a b ha hb hf => by
  have h1 := hle a b ha hb
  have h2 := h a b ha hb (by omega)
  omega
theorem lev_end {D : Int → Int → Int} {a : Int} (ha : nd a) (h0 : D a a = 0) : ∃ k : Nat, k ≤ 16 ∧ ∀ v, nd v → D a v ≤ ((k : Int) + 1) * 600000 → D a v ≤ (k : Int) * 600000 := by
  apply Classical.byContradiction
  intro hno
  have hex : ∀ k : Nat, ∃ v : Int, k ≤ 16 → nd v ∧ D a v ≤ ((k : Int) + 1) * 600000 ∧ ¬ D a v ≤ (k : Int) * 600000 := by
    intro k
    by_cases hk : k ≤ 16
    · apply Classical.byContradiction
      intro hn
      apply hno
      refine ⟨k, hk, fun v hv h1 => ?_⟩
      apply Classical.byContradiction
      intro h2
      exact hn ⟨v, fun _ => ⟨hv, h1, h2⟩⟩
    · exact ⟨0, fun h => absurd h hk⟩
  obtain ⟨g, hg⟩ := Classical.axiomOfChoice hex
  obtain ⟨i, j, hij, hj, he⟩ := pigeon 17 (fun n => if n = 0 then a else g (n - 1)) (by
    intro n hn
    by_cases e : n = 0
    · simp only [e, if_true]; exact ⟨ha.1, by have := ha.2; omega⟩
    · simp only [e, if_false]
      have := (hg (n - 1) (by omega)).1
      exact ⟨this.1, by have := this.2; omega⟩)
  have hj0 : j ≠ 0 := by omega
  simp only [hj0, if_false] at he
  have h1 := hg (j - 1) (by omega)
  rw [← he] at h1
  by_cases e : i = 0
  · simp only [e, if_true] at h1
    rw [h0] at h1
    have : (0 : Int) ≤ ((j - 1 : Nat) : Int) * 600000 := by omega
    omega
  · simp only [e, if_false] at h1
    have h2 := hg (i - 1) (by omega)
    have e1 : ((i - 1 : Nat) : Int) + 1 ≤ ((j - 1 : Nat) : Int) := by omega
    omega
theorem fw_bound {K : (Int → Int) → Prop} {D0 D : Int → Int → Int} (h0 : ∀ a, nd a → D a a = 0) (hc : FWc D 17 (bnd 17)) (hle : ∀ a b, nd a → nd b → D a b ≤ D0 a b) (hE : ∀ a b, nd a → nd b → D0 a b < 1000000000000 → D0 a b ≤ 600000) (hsy : ∀ a b, nd a → nd b → D0 a b < 1000000000000 → D0 b a < 1000000000000) (hs : ∀ y, K y → Obey D y) (hk : ∀ y, Obey D0 y → K y) {a b : Int} (ha : nd a) (hb : nd b) (hf : D a b < 1000000000000) : D a b ≤ 9600000 := by
  obtain ⟨k, hk16, hl⟩ := lev_end (D := D) ha (h0 a ha)
  have hcl : ∀ u w, nd u → nd w → D a u ≤ (k : Int) * 600000 → D0 u w < 1000000000000 → D a w ≤ (k : Int) * 600000 := by
    intro u w hu hw h1 h2
    have h3 := hle u w hu hw
    have h4 := hE u w hu hw h2
    have h5 := hc.1 a w u ha hw hu.1 hu.2 hu.2 (by omega) (by omega)
    exact hl w hw (by omega)
  have hz := obey_0 hle (fw_feas h0 hc)
  obtain ⟨z, hz⟩ : ∃ z, Obey D0 z := ⟨_, hz⟩
  apply Classical.byContradiction
  intro hbig
  have hnb : ¬ D a b ≤ (k : Int) * 600000 := by omega
  have hy : Obey D0 (fun v => z v + (if D a v ≤ (k : Int) * 600000 then 0 else D a b - z b + z a + 1)) := by
    intro u w hu hw hd
    have h1 := hz u w hu hw hd
    simp only
    by_cases e1 : D a u ≤ (k : Int) * 600000
    · rw [if_pos e1, if_pos (hcl u w hu hw e1 hd)]; omega
    · rw [if_neg e1, if_neg (fun e2 => e1 (hcl w u hw hu e2 (hsy u w hu hw hd)))]; omega
  have h1 := hs _ (hk _ hy) a b ha hb hf
  rw [if_neg hnb, if_pos (by rw [h0 a ha]; omega)] at h1
  omega
theorem fw_end {K : (Int → Int) → Prop} {D0 D : Int → Int → Int} (hI : FWI K D0 D 17) (hd : dg0 D) (hE : ∀ a b, nd a → nd b → D0 a b < 1000000000000 → D0 a b ≤ 600000) (hsy : ∀ a b, nd a → nd b → D0 a b < 1000000000000 → D0 b a < 1000000000000) (hk : ∀ y, Obey D0 y → K y) :
    Feas K ∧ ∀ a b, nd a → nd b → (D a b = 1000000000000 ∧ FreeD K a b) ∨ ((-10000000 ≤ D a b ∧ D a b ≤ 10000000) ∧ MaxD K a b (D a b)) := by
  have h0 : ∀ a, nd a → D a a = 0 := fun a ha => by have := hd a ha; have := hI.1.2.1 a ha; omega
  have hc := hI.2.2 hd
  have hz := fw_feas h0 hc
  have hs : ∀ y, K y → Obey D y := fun y hy a b ha hb hf => hI.1.2.2 y hy a b ha hb hf
  refine ⟨⟨_, hk _ (obey_0 hI.2.1 hz)⟩, fun a b ha hb => ?_⟩
  by_cases hf : D a b < 1000000000000
  · right
    have b1 := fw_bound h0 hc hI.2.1 hE hsy hs hk ha hb hf
    have b2 := fw_bound h0 hc hI.2.1 hE hsy hs hk hb ha (hc.2.2 a b ha hb hf)
    have b3 := hc.1 a a b ha ha hb.1 hb.2 hb.2 hf (hc.2.2 a b ha hb hf)
    rw [h0 a ha] at b3
    refine ⟨by omega, fun y hy => hs y hy a b ha hb hf, ?_⟩
    refine ⟨_, hk _ (obey_0 hI.2.1 (fw_sol (C := 0) ha hc hz)), ?_⟩
    rw [if_pos hf, if_pos (by rw [h0 a ha]; decide), h0 a ha]
    omega
  · left
    have hr := hI.1.1 a b ha hb
    refine ⟨by omega, fun B => ?_⟩
    obtain ⟨z, hz⟩ : ∃ z, Obey D z := ⟨_, hz⟩
    refine ⟨_, hk _ (obey_0 hI.2.1 (fw_sol (C := B - z b) ha hc hz)), ?_⟩
    rw [if_neg hf, if_pos (by rw [h0 a ha]; decide), h0 a ha]
    omega
theorem fw_no {K : (Int → Int) → Prop} {D : Int → Int → Int} {a : Int} (hs : FWs K D) (ha : nd a) (hn : D a a < 0) : ¬ Feas K := by
  rintro ⟨y, hy⟩
  have := hs.2.2 y hy a a ha ha (by omega)
  omega
