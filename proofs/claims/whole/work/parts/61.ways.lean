/-! ===== the reference: the net, laid and summed ===== -/
/-- all but the reference's scratch -/
def OffM (M M2 : FMem) : Prop := ∀ b j, (b < 60 ∨ (60 < b ∧ b < 86) ∨ (b = 60 ∧ (j < 42 ∨ 52 < j))) → M2 b j = M b j
theorem OffM_rfl (M : FMem) : OffM M M := fun _ _ _ => rfl
theorem OffM_tr {M M1 M2 : FMem} (h : OffM M M1) (h' : OffM M1 M2) : OffM M M2 := fun b j q => (h' b j q).trans (h b j q)
theorem OffM_w {M M2 : FMem} (h : ∀ b j, b ≠ 86 → M2 b j = M b j) : OffM M M2 := fun b j q => h b j (by omega)
theorem OffM_c {M M2 : FMem} (h : OffM M M2) {b : Nat} (hb : 60 < b ∧ b < 86) : M2 b = M b := funext fun j => h b j (by omega)
theorem OffM_o {M M2 : FMem} (h : OffM M M2) {j : Int} (hj : j < 42 ∨ 52 < j) : M2 60 j = M 60 j := h 60 j (by omega)
theorem lowM_off {M M2 : FMem} (h : OffM M M2) (i : Int) : lowM M2 i = lowM M i ∧ highM M2 i = highM M i := by
  unfold lowM highM
  rw [OffM_c h (b := 61) (by decide), OffM_c h (b := 65) (by decide), OffM_c h (b := 66) (by decide), OffM_c h (b := 76) (by decide), OffM_c h (b := 62) (by decide), OffM_c h (b := 75) (by decide), OffM_c h (b := 63) (by decide), OffM_c h (b := 67) (by decide), OffM_c h (b := 68) (by decide), OffM_c h (b := 73) (by decide), OffM_c h (b := 72) (by decide), OffM_c h (b := 64) (by decide), OffM_o h (j := 18) (by decide), OffM_o h (j := 17) (by decide)]
  exact ⟨rfl, rfl⟩
theorem MT0_off {M M2 : FMem} (h : OffM M M2) (hT : MT0 M) : MT0 M2 := by
  unfold MT0 TelM RedM RulM at hT ⊢
  rw [OffM_c h (b := 61) (by decide), OffM_c h (b := 65) (by decide), OffM_c h (b := 66) (by decide), OffM_c h (b := 76) (by decide), OffM_c h (b := 62) (by decide), OffM_c h (b := 75) (by decide), OffM_c h (b := 63) (by decide), OffM_c h (b := 67) (by decide), OffM_c h (b := 68) (by decide), OffM_c h (b := 73) (by decide), OffM_c h (b := 72) (by decide), OffM_c h (b := 64) (by decide), OffM_c h (b := 77) (by decide), OffM_c h (b := 78) (by decide), OffM_o h (j := 18) (by decide), OffM_o h (j := 17) (by decide), OffM_o h (j := 0) (by decide), OffM_o h (j := 20) (by decide), OffM_o h (j := 21) (by decide)]
  exact hT
def upM (M : FMem) (i : Int) : Int := if M 61 i = 2 then 0 else 1 + M 64 i
def loM (M : FMem) (i : Int) : Int := if M 61 i = 1 then 0 else 11 + M 63 i
def inM (M : FMem) (k i : Int) : Prop := i < k ∧ M 70 i = 0 ∧ M 69 i = 0 ∧ i ≠ M 60 42 ∧ i ≠ M 60 43 ∧ M 62 i ≠ M 60 44
def TK1 (M : FMem) (y : Int → Int) (i : Int) : Prop := y (upM M i) ≤ y (loM M i) + (highM M i + M 60 45) ∧ y (loM M i) ≤ y (upM M i) + (M 60 45 - lowM M i)
def SolK (M : FMem) (k n : Int) (y : Int → Int) : Prop := ∀ i, 0 ≤ i → i < n → inM M k i → TK1 M y i
def Dm (M : FMem) : Int → Int → Int := fun a b => M 86 (17 * a + b)
theorem ul_nd {M : FMem} {i : Int} (h : TelM M i) : nd (upM M i) ∧ nd (loM M i) ∧ upM M i ≠ loM M i := by
  unfold TelM TelOk at h
  unfold upM loM
  split <;> split <;> omega
def LW (M : FMem) (k iz : Int) (M1 : FMem) : Prop := (∀ b j, b ≠ 86 → M1 b j = M b j) ∧ (∀ a b, nd a → nd b → Dm M1 a b = 1000000000000 ∨ (-600000 ≤ Dm M1 a b ∧ Dm M1 a b ≤ 600000)) ∧ (∀ a, nd a → Dm M1 a a = 0) ∧ (∀ y, SolK M k iz y → Obey (Dm M1) y) ∧ (∀ y, Obey (Dm M1) y → SolK M k iz y) ∧ (∀ a b, nd a → nd b → Dm M1 a b < 1000000000000 → Dm M1 b a < 1000000000000)
theorem LW_no {M M1 : FMem} {k iz : Int} (h : LW M k iz M1) (h0 : 0 ≤ iz) (hn : ¬ inM M k iz) : LW M k (iz + 1) M1 := by
  obtain ⟨h1, h2, h3, h4, h5, h6⟩ := h
  refine ⟨h1, h2, h3, fun y hy => h4 y (fun i a b => hy i a (by omega)), fun y hy i a b hin => ?_, h6⟩
  by_cases e : i = iz
  · subst e; exact absurd hin hn
  · exact h5 y hy i a (by omega) hin
theorem LW_yes {M M1 M2 : FMem} {k iz v1 v2 : Int} (h : LW M k iz M1) (h0 : 0 ≤ iz) (hin : inM M k iz) (hT : TelM M iz) (hw : 0 ≤ M 60 45 ∧ M 60 45 ≤ 400000) (hl : (-100000 ≤ lowM M iz ∧ lowM M iz ≤ 100000) ∧ (-100000 ≤ highM M iz ∧ highM M iz ≤ 100000))
    (e1 : v1 = if Dm M1 (loM M iz) (upM M iz) < highM M iz + M 60 45 then Dm M1 (loM M iz) (upM M iz) else highM M iz + M 60 45) (e2 : v2 = if Dm M1 (upM M iz) (loM M iz) < M 60 45 - lowM M iz then Dm M1 (upM M iz) (loM M iz) else M 60 45 - lowM M iz)
    (hM : M2 = st (st M1 86 (17 * loM M iz + upM M iz) v1) 86 (17 * upM M iz + loM M iz) v2) : LW M k (iz + 1) M2 := by
  obtain ⟨h1, h2, h3, h4, h5, h6⟩ := h
  obtain ⟨nu, nl, ne⟩ := ul_nd hT
  generalize hupe : upM M iz = u at *
  generalize hlo : loM M iz = w at *
  have hD : ∀ p q, nd p → nd q → Dm M2 p q = if p = u ∧ q = w then v2 else if p = w ∧ q = u then v1 else Dm M1 p q := by
    intro p q hp hq
    unfold Dm
    rw [hM, st_at, st_at]
    by_cases a : p = u ∧ q = w
    · rw [if_pos a, if_pos (by omega)]
    · rw [if_neg a, if_neg (by omega)]
      by_cases b : p = w ∧ q = u
      · rw [if_pos b, if_pos (by omega)]
      · rw [if_neg b, if_neg (by omega)]
  have r1 := h2 w u nl nu
  have r2 := h2 u w nu nl
  have s1 := h6 w u nl nu
  have s2 := h6 u w nu nl
  have b1 : v1 ≤ highM M iz + M 60 45 ∧ v1 ≤ Dm M1 w u ∧ (-600000 ≤ v1 ∧ v1 ≤ 600000) ∧ (v1 = Dm M1 w u ∨ v1 = highM M iz + M 60 45) := by rw [e1]; split <;> omega
  have b2 : v2 ≤ M 60 45 - lowM M iz ∧ v2 ≤ Dm M1 u w ∧ (-600000 ≤ v2 ∧ v2 ≤ 600000) ∧ (v2 = Dm M1 u w ∨ v2 = M 60 45 - lowM M iz) := by rw [e2]; split <;> omega
  have hle : ∀ p q, nd p → nd q → Dm M2 p q ≤ Dm M1 p q := by
    intro p q hp hq
    rw [hD p q hp hq]
    split
    · rename_i a; rw [a.1, a.2]; omega
    · split
      · rename_i a; rw [a.1, a.2]; omega
      · exact Int.le_refl _
  refine ⟨fun b j q => ?_, fun p q hp hq => ?_, fun p hp => ?_, fun y hy p q hp hq hf => ?_, fun y hy i i0 i1 hi => ?_, fun p q hp hq hf => ?_⟩
  · rw [hM, st_cell q, st_cell q]; exact h1 b j q
  · rw [hD p q hp hq]
    split
    · omega
    · split
      · omega
      · exact h2 p q hp hq
  · rw [hD p p hp hp, if_neg (by omega), if_neg (by omega)]; exact h3 p hp
  · have hK := h4 y (fun i a b => hy i a (by omega))
    have ht := hy iz h0 (by omega) hin
    unfold TK1 at ht
    rw [hlo, hupe] at ht
    rw [hD p q hp hq] at hf ⊢
    split
    · rename_i a; rw [a.1, a.2]
      rcases b2.2.2.2 with z | z
      · have := hK u w nu nl (by omega); omega
      · omega
    · rename_i a
      rw [if_neg a] at hf
      split
      · rename_i b; rw [b.1, b.2]
        rcases b1.2.2.2 with z | z
        · have := hK w u nl nu (by omega); omega
        · omega
      · rename_i b
        rw [if_neg b] at hf
        exact hK p q hp hq hf
  · by_cases e : i = iz
    · subst e
      unfold TK1
      have o1 := hy w u nl nu (by rw [hD w u nl nu]; split <;> (try split) <;> omega)
      have o2 := hy u w nu nl (by rw [hD u w nu nl, if_pos ⟨rfl, rfl⟩]; omega)
      rw [hD w u nl nu, if_neg (by omega), if_pos ⟨rfl, rfl⟩] at o1
      rw [hD u w nu nl, if_pos ⟨rfl, rfl⟩] at o2
      rw [hlo, hupe]
      omega
    · exact h5 y (obey_0 hle hy) i i0 (by omega) hi
  · rw [hD q p hq hp]
    rw [hD p q hp hq] at hf
    split
    · omega
    · split
      · omega
      · rename_i a b
        rw [if_neg (fun z => b ⟨z.2, z.1⟩), if_neg (fun z => a ⟨z.2, z.1⟩)] at hf
        exact h6 p q hp hq hf
