/-! ===== steps: the sorts of each home, one step on, the fewest lights ===== -/
theorem SoH_no {M : FMem} {n h : Int} (hn : ¬ inK M 0 n) (h0 : 0 ≤ n) (k : Nat) : SoH M n h k ↔ SoH M (n + 1) h k := by
  constructor
  · rintro ⟨i, a, b, c⟩
    exact ⟨i, a, by omega, c⟩
  · rintro ⟨i, a, b, c⟩
    have : i ≠ n := fun e => hn (e ▸ c.1)
    exact ⟨i, a, by omega, c⟩
theorem SoH_else {M : FMem} {n h : Int} (hn : ¬ h = M 5 n) (h0 : 0 ≤ n) (k : Nat) : SoH M n h k ↔ SoH M (n + 1) h k := by
  constructor
  · rintro ⟨i, a, b, c⟩
    exact ⟨i, a, by omega, c⟩
  · rintro ⟨i, a, b, c⟩
    have : i ≠ n := fun e => hn (e ▸ c.2.1.symm)
    exact ⟨i, a, by omega, c⟩
theorem SoH_yes {M : FMem} {n : Int} (h : inK M 0 n) (h0 : 0 ≤ n) (k : Nat) : (SoH M n (M 5 n) k ∨ (k : Int) = M 4 n) ↔ SoH M (n + 1) (M 5 n) k := by
  constructor
  · rintro (⟨i, a, b, c⟩ | e)
    · exact ⟨i, a, by omega, c⟩
    · exact ⟨n, h0, by omega, h, rfl, e.symm⟩
  · rintro ⟨i, a, b, c⟩
    by_cases e : i = n
    · subst e
      exact Or.inr c.2.2.symm
    · exact Or.inl ⟨i, a, by omega, c⟩
theorem ShH_off {M M2 : FMem} (h : ∀ b j, b ≠ 13 → M2 b j = M b j) (n : Int) : ShH M2 n = ShH M n := by
  funext k
  unfold ShH inK
  simp only [show ∀ j, M2 2 j = M 2 j from fun j => h 2 j (by decide), show ∀ j, M2 11 j = M 11 j from fun j => h 11 j (by decide), show ∀ j, M2 10 j = M 10 j from fun j => h 10 j (by decide), show ∀ j, M2 5 j = M 5 j from fun j => h 5 j (by decide)]
theorem step_yes {P : Nat → Prop} {So : Int → Nat → Prop} {i : Int} (h0 : 0 ≤ i) (hp : P i.toNat) (s : Nat) : ((∃ j : Nat, (j : Int) < i ∧ P j ∧ So j s) ∨ So i s) ↔ ∃ j : Nat, (j : Int) < i + 1 ∧ P j ∧ So j s := by
  constructor
  · rintro (⟨j, a, b⟩ | h)
    · exact ⟨j, by omega, b⟩
    · exact ⟨i.toNat, by omega, hp, by rw [Int.toNat_of_nonneg h0]; exact h⟩
  · rintro ⟨j, a, b, c⟩
    by_cases e : (j : Int) = i
    · right; rw [← e]; exact c
    · left; exact ⟨j, by omega, b, c⟩
theorem step_no {P : Nat → Prop} {So : Int → Nat → Prop} {i : Int} (h0 : 0 ≤ i) (hp : ¬ P i.toNat) (s : Nat) : ((∃ j : Nat, (j : Int) < i ∧ P j ∧ So j s) ∨ False) ↔ ∃ j : Nat, (j : Int) < i + 1 ∧ P j ∧ So j s := by
  constructor
  · rintro (⟨j, a, b⟩ | h)
    · exact ⟨j, by omega, b⟩
    · exact h.elim
  · rintro ⟨j, a, b, c⟩
    left
    refine ⟨j, ?_, b, c⟩
    by_cases e : (j : Int) = i
    · exfalso; apply hp; rw [show i.toNat = j by omega]; exact b
    · omega
theorem on2_no {P Q : Nat → Prop} {So : Int → Nat → Prop} {i : Int} (hq : ∀ s, s < 10 → ¬ (So i s ∧ Q s)) (k : Nat) : ((P k ∨ ((k : Int) < i ∧ ∃ s, s < 10 ∧ So k s ∧ Q s)) ∨ False) ↔ (P k ∨ ((k : Int) < i + 1 ∧ ∃ s, s < 10 ∧ So k s ∧ Q s)) := by
  constructor
  · rintro ((h | ⟨h, h'⟩) | h)
    · exact Or.inl h
    · exact Or.inr ⟨by omega, h'⟩
    · exact h.elim
  · rintro (h | ⟨h, s, a, b, c⟩)
    · exact Or.inl (Or.inl h)
    · by_cases e : (k : Int) = i
      · rw [e] at b; exact absurd ⟨b, c⟩ (hq s a)
      · exact Or.inl (Or.inr ⟨by omega, s, a, b, c⟩)
theorem on2_yes {P Q : Nat → Prop} {So : Int → Nat → Prop} {i : Int} (hq : ¬ ∀ s, s < 10 → ¬ (So i s ∧ Q s)) (k : Nat) : ((P k ∨ ((k : Int) < i ∧ ∃ s, s < 10 ∧ So k s ∧ Q s)) ∨ (k : Int) = i) ↔ (P k ∨ ((k : Int) < i + 1 ∧ ∃ s, s < 10 ∧ So k s ∧ Q s)) := by
  constructor
  · rintro ((h | ⟨h, h'⟩) | h)
    · exact Or.inl h
    · exact Or.inr ⟨by omega, h'⟩
    · refine Or.inr ⟨by omega, ?_⟩
      rw [h]
      apply Classical.byContradiction
      intro hn
      exact hq (fun s a b => hn ⟨s, a, b.1, b.2⟩)
  · rintro (h | ⟨h, h'⟩)
    · exact Or.inl (Or.inl h)
    · by_cases e : (k : Int) = i
      · exact Or.inr e
      · exact Or.inl (Or.inr ⟨by omega, h'⟩)
/-- the homes reached by t steps -/
def Lv (Sh : Nat → Prop) (So : Int → Nat → Prop) : Nat → Nat → Prop
  | 0 => Sh
  | t + 1 => fun k => Lv Sh So t k ∨ ((k : Int) < 10 ∧ ∃ s, s < 10 ∧ So k s ∧ ∃ j : Nat, (j : Int) < 10 ∧ Lv Sh So t j ∧ So j s)
def PSt (L : Nat → Nat → Prop) (h : Nat) (q : Int) : Prop := (∃ t : Nat, t ≤ 10 ∧ q = 2 * (t : Int) ∧ L t h ∧ ∀ s, s < t → ¬ L s h) ∨ (q = -1 ∧ ∀ t, t ≤ 10 → ¬ L t h)
theorem PSt_eq {L : Nat → Nat → Prop} {h : Nat} {q q' : Int} (a : PSt L h q) (b : PSt L h q') : q = q' := by
  rcases a with ⟨t, t1, t2, t3, t4⟩ | ⟨a1, a2⟩ <;> rcases b with ⟨u, u1, u2, u3, u4⟩ | ⟨b1, b2⟩
  · by_cases e : t = u
    · subst e; omega
    · by_cases f : t < u
      · exact absurd t3 (u4 t f)
      · exact absurd u3 (t4 u (by omega))
  · exact absurd t3 (b2 t t1)
  · exact absurd u3 (a2 u u1)
  · omega
set_option maxHeartbeats 400000 in
theorem A_X5_noteSortsOfHomes (l : Launch) (g : Cx) (M : FMem) (hs : 0 ≤ M 1 13 ∧ M 1 13 ≤ 80) (hX : ∀ i, 0 ≤ i → i < M 1 13 → TelX M i) : AMv l g true fi_X5_noteSortsOfHomes [fr 1] 93 M (fun M2 => (∀ b j, b ≠ 13 → M2 b j = M b j) ∧ ∀ h, 0 ≤ h → h < 10 → MaskOf (SoH M (M 1 13) h) (M2 13 h)) := by
  refine AMv_intro [fr 1, fu] (by decide) (knall rfl) (Nat.le_of_ble_eq_true rfl) rfl ?_
  intro hNV hM0 μ
  have lp23 : ∀ (kq : Nat) (i : Int) (M1 : FMem), (80 - i).toNat = kq → (0 ≤ i ∧ i ≤ M 1 13) → (∀ b j, b ≠ 13 → M1 b j = M b j) → (∀ h, 0 ≤ h → h < 10 → MaskOf (SoH M i h) (M1 13 h)) → Wa l g true fi_X5_noteSortsOfHomes 93 μ (Zv g true fi_X5_noteSortsOfHomes 93 μ (fun M2 => (∀ b j, b ≠ 13 → M2 b j = M b j) ∧ ∀ h, 0 ≤ h → h < 10 → MaskOf (SoH M (M 1 13) h) (M2 13 h))) 23 [] [fr 1, fi i] 93 M1 := by
    intro kq
    induction kq using Nat.strongRecOn with
    | _ kq ih23 =>
    intro i M1 hk23 h0 h1 h2
    have e1 := h1 1 13 (by decide)
    have e2 := h1 2 i (by decide)
    have e4 := h1 4 i (by decide)
    have e5 := h1 5 i (by decide)
    have e10 := h1 10 i (by decide)
    have e11 := h1 11 i (by decide)
    refine z_iload_n dX5_noteSortsOfHomes_23 rfl ?_
    refine z_aload_nr dX5_noteSortsOfHomes_24 rfl ?_
    refine z_geti (kz := 13) fl_X5_53 rfl (by decide) rfl dX5_noteSortsOfHomes_25 (fun x1 hx1 bx1 => ?_)
    refine z_icmp_ge (tgt := 76) dX5_noteSortsOfHomes_28 (by decide) (fun c2 => ?_) (fun c2 => ?_)
    · refine z_vret rfl (by decide) rfl (Nat.sub_self _) dX5_noteSortsOfHomes_76 ?_
      refine ⟨h1, ?_⟩
      rw [← show i = M 1 13 by omega]
      exact h2
    · refine z_aload_nr dX5_noteSortsOfHomes_31 rfl ?_
      refine z_getr (b := 2) fl_X5_9 rfl (by decide) rf_1_0 rfl dX5_noteSortsOfHomes_32 ?_
      refine z_iload_n dX5_noteSortsOfHomes_35 rfl ?_
      refine z_iald rfl (by decide) (by omega) (by omega) dX5_noteSortsOfHomes_36 (fun x3 hx3 bx3 => ?_)
      refine z_if_ne (tgt := 70) dX5_noteSortsOfHomes_37 (by decide) (fun c4 => ?_) (fun c4 => ?_)
      · refine z_iinc (loc2 := fun vq => [fr 1, fi vq]) dX5_noteSortsOfHomes_70 rfl (by decide) (by omega) (fun _ => rfl) (fun x5 hx5 => ?_)
        refine z_goto (tgt := 23) dX5_noteSortsOfHomes_73 (by decide) ?_
        have hm : ∀ h, 0 ≤ h → h < 10 → MaskOf (SoH M (i + 1) h) (M1 13 h) := by
          intro h q1 q2
          first
          | (refine Mask_congr (h2 h q1 q2) (fun k _ => SoH_no (fun z => ?_) h0.1 k)
             unfold inK at z
             omega)
          | (rw [hNONE, hor, hvv, hsl, hso, hho, st_at]
             split
             · rename_i e
               rw [e]
               exact Mask_congr (Mask_or (h2 _ (by omega) (by omega)) (Mask_1 (by omega) (by omega))) (fun k _ => SoH_yes ⟨by omega, by omega, by omega⟩ h0.1 k)
             · rename_i e
               exact Mask_congr (h2 h q1 q2) (fun k _ => SoH_else e h0.1 k))
        have hof : ∀ b j, b ≠ 13 → M1 b j = M b j := by
          intro b j q
          first
          | exact h1 b j q
          | (rw [hNONE, st_cell q]; exact h1 b j q)
        exact ih23 _ (by omega) x5 M1 rfl (by omega) (hof) (by rw [hx5]; exact hm)
      · refine z_aload_nr dX5_noteSortsOfHomes_40 rfl ?_
        refine z_iload_n dX5_noteSortsOfHomes_41 rfl ?_
        refine z_callVip (n2 := 93) (A_X5_isInNet l g M1 i (by omega)) cb_X5_isInNet cl_X5_69 (clr0 rfl rfl (by decide) (by decide)) rfl (by decide) ⟨_, rfl, rfl⟩ rfl (by decide) rfl (Nat.le_of_ble_eq_true rfl) rfl dX5_noteSortsOfHomes_42 (fun x6 bx6 hx6 => ?_)
        have i6 := if01 hx6
        refine z_if_eq (tgt := 70) dX5_noteSortsOfHomes_45 (by decide) (fun c7 => ?_) (fun c7 => ?_)
        · refine z_iinc (loc2 := fun vq => [fr 1, fi vq]) dX5_noteSortsOfHomes_70 rfl (by decide) (by omega) (fun _ => rfl) (fun x8 hx8 => ?_)
          refine z_goto (tgt := 23) dX5_noteSortsOfHomes_73 (by decide) ?_
          have hm : ∀ h, 0 ≤ h → h < 10 → MaskOf (SoH M (i + 1) h) (M1 13 h) := by
            intro h q1 q2
            first
            | (refine Mask_congr (h2 h q1 q2) (fun k _ => SoH_no (fun z => ?_) h0.1 k)
               unfold inK at z
               omega)
            | (rw [hNONE, hor, hvv, hsl, hso, hho, st_at]
               split
               · rename_i e
                 rw [e]
                 exact Mask_congr (Mask_or (h2 _ (by omega) (by omega)) (Mask_1 (by omega) (by omega))) (fun k _ => SoH_yes ⟨by omega, by omega, by omega⟩ h0.1 k)
               · rename_i e
                 exact Mask_congr (h2 h q1 q2) (fun k _ => SoH_else e h0.1 k))
          have hof : ∀ b j, b ≠ 13 → M1 b j = M b j := by
            intro b j q
            first
            | exact h1 b j q
            | (rw [hNONE, st_cell q]; exact h1 b j q)
          exact ih23 _ (by omega) x8 M1 rfl (by omega) (hof) (by rw [hx8]; exact hm)
        · refine z_aload_nr dX5_noteSortsOfHomes_48 rfl ?_
          refine z_getr (b := 13) fl_X5_50 rfl (by decide) rf_1_12 rfl dX5_noteSortsOfHomes_49 ?_
          refine z_aload_nr dX5_noteSortsOfHomes_52 rfl ?_
          refine z_getr (b := 5) fl_X5_21 rfl (by decide) rf_1_3 rfl dX5_noteSortsOfHomes_53 ?_
          refine z_iload_n dX5_noteSortsOfHomes_56 rfl ?_
          refine z_iald rfl (by decide) (by omega) (by omega) dX5_noteSortsOfHomes_57 (fun x9 hx9 bx9 => ?_)
          have hho : x9 = M 5 i := by omega
          have htx := hX i h0.1 (by omega)
          unfold TelX TelOk at htx
          refine z_dup2 rfl rfl dX5_noteSortsOfHomes_58 ?_
          refine z_iald rfl (by decide) (by omega) (by omega) dX5_noteSortsOfHomes_59 (fun x10 hx10 bx10 => ?_)
          have hvv := hx10
          refine z_iconst dX5_noteSortsOfHomes_60 ⟨by decide, by decide⟩ ?_
          refine z_aload_nr dX5_noteSortsOfHomes_61 rfl ?_
          refine z_getr (b := 4) fl_X5_18 rfl (by decide) rf_1_2 rfl dX5_noteSortsOfHomes_62 ?_
          refine z_iload_n dX5_noteSortsOfHomes_65 rfl ?_
          refine z_iald rfl (by decide) (by omega) (by omega) dX5_noteSortsOfHomes_66 (fun x11 hx11 bx11 => ?_)
          have hso : x11 = M 4 i := by omega
          refine z_ishl dX5_noteSortsOfHomes_67 (fun x12 hx12 bx12 => ?_)
          have hsl := hx12
          refine z_ior dX5_noteSortsOfHomes_68 (fun x13 hx13 bx13 => ?_)
          have hor := hx13
          refine z_iast rfl (by decide) (by omega) (by omega) dX5_noteSortsOfHomes_69 (fun Mz14 hMz14 => ?_)
          refine z_iinc (loc2 := fun vq => [fr 1, fi vq]) dX5_noteSortsOfHomes_70 rfl (by decide) (by omega) (fun _ => rfl) (fun x15 hx15 => ?_)
          refine z_goto (tgt := 23) dX5_noteSortsOfHomes_73 (by decide) ?_
          have hm : ∀ h, 0 ≤ h → h < 10 → MaskOf (SoH M (i + 1) h) (Mz14 13 h) := by
            intro h q1 q2
            first
            | (refine Mask_congr (h2 h q1 q2) (fun k _ => SoH_no (fun z => ?_) h0.1 k)
               unfold inK at z
               omega)
            | (rw [hMz14, hor, hvv, hsl, hso, hho, st_at]
               split
               · rename_i e
                 rw [e]
                 exact Mask_congr (Mask_or (h2 _ (by omega) (by omega)) (Mask_1 (by omega) (by omega))) (fun k _ => SoH_yes ⟨by omega, by omega, by omega⟩ h0.1 k)
               · rename_i e
                 exact Mask_congr (h2 h q1 q2) (fun k _ => SoH_else e h0.1 k))
          have hof : ∀ b j, b ≠ 13 → Mz14 b j = M b j := by
            intro b j q
            first
            | exact h1 b j q
            | (rw [hMz14, st_cell q]; exact h1 b j q)
          exact ih23 _ (by omega) x15 Mz14 rfl (by omega) (hof) (by rw [hx15]; exact hm)
  have lp2 : ∀ (kq : Nat) (i : Int) (M1 : FMem), (10 - i).toNat = kq → (0 ≤ i ∧ i ≤ 10) → (∀ b j, b ≠ 13 → M1 b j = M b j) → (∀ v, 0 ≤ v → v < i → M1 13 v = 0) → Wa l g true fi_X5_noteSortsOfHomes 93 μ (Zv g true fi_X5_noteSortsOfHomes 93 μ (fun M2 => (∀ b j, b ≠ 13 → M2 b j = M b j) ∧ ∀ h, 0 ≤ h → h < 10 → MaskOf (SoH M (M 1 13) h) (M2 13 h))) 2 [] [fr 1, fi i] 93 M1 := by
    intro kq
    induction kq using Nat.strongRecOn with
    | _ kq ih2 =>
    intro i M1 hk2 h0 h1 h2
    refine z_iload_n dX5_noteSortsOfHomes_2 rfl ?_
    refine z_bipush dX5_noteSortsOfHomes_3 ⟨by decide, by decide⟩ (by decide) ?_
    refine z_icmp_ge (tgt := 21) dX5_noteSortsOfHomes_5 (by decide) (fun c16 => ?_) (fun c16 => ?_)
    · refine z_iconst dX5_noteSortsOfHomes_21 ⟨by decide, by decide⟩ ?_
      refine z_istore_n (loc2 := [fr 1, fi 0]) dX5_noteSortsOfHomes_22 (by decide) rfl ?_
      exact lp23 _ 0 M1 rfl (by omega) (h1) (fun h q1 q2 => by rw [h2 h q1 (by omega)]; exact Mask_0 (fun k _ ⟨i, a, b, _⟩ => by omega))
    · refine z_aload_nr dX5_noteSortsOfHomes_8 rfl ?_
      refine z_getr (b := 13) fl_X5_50 rfl (by decide) rf_1_12 rfl dX5_noteSortsOfHomes_9 ?_
      refine z_iload_n dX5_noteSortsOfHomes_12 rfl ?_
      refine z_iconst dX5_noteSortsOfHomes_13 ⟨by decide, by decide⟩ ?_
      refine z_iast rfl (by decide) (by omega) (by omega) dX5_noteSortsOfHomes_14 (fun Mz17 hMz17 => ?_)
      refine z_iinc (loc2 := fun vq => [fr 1, fi vq]) dX5_noteSortsOfHomes_15 rfl (by decide) (by omega) (fun _ => rfl) (fun x18 hx18 => ?_)
      refine z_goto (tgt := 2) dX5_noteSortsOfHomes_18 (by decide) ?_
      exact ih2 _ (by omega) x18 Mz17 rfl (by omega) (fun b j q => by subst_vars; rw [st_cell q]; exact h1 b j q) (fun v q1 q2 => by subst_vars; rw [st_at]; split; rfl; exact h2 v q1 (by omega))
  refine z_iconst dX5_noteSortsOfHomes_0 ⟨by decide, by decide⟩ ?_
  refine z_istore_n (loc2 := [fr 1, fi 0]) dX5_noteSortsOfHomes_1 (by decide) rfl ?_
  exact lp2 _ 0 M rfl (by omega) (fun b j _ => rfl) (fun v _ h => by omega)
set_option maxHeartbeats 400000 in
theorem A_X5_oneStepOn (l : Launch) (g : Cx) (M : FMem) (homes : Int) (P : Nat → Prop) (So : Int → Nat → Prop) (hP : MaskOf P homes) (hS : ∀ h, 0 ≤ h → h < 10 → MaskOf (So h) (M 13 h)) : AMi l g true fi_X5_oneStepOn [fr 1, fi homes] 93 M (fun r M2 => M2 = M ∧ (fun r => MaskOf (fun k => P k ∨ ((k : Int) < 10 ∧ ∃ s, s < 10 ∧ So k s ∧ ∃ j : Nat, (j : Int) < 10 ∧ P j ∧ So j s)) r) r) := by
  refine AMi_intro [fr 1, fi homes, fu, fu, fu] (by decide) (knall rfl) (Nat.le_of_ble_eq_true rfl) rfl ?_
  intro hNV hM0 μ
  have bhomes : N32 homes := hNV (fi homes) (by simp)
  have lp43 : ∀ (kq : Nat) (m nx i : Int), (10 - i).toNat = kq → (0 ≤ i ∧ i ≤ 10) → (MaskOf (fun k => P k ∨ ((k : Int) < i ∧ ∃ s, s < 10 ∧ So k s ∧ (fun s => ∃ j : Nat, (j : Int) < 10 ∧ P j ∧ So j s) s)) nx) → (MaskOf (fun s => ∃ j : Nat, (j : Int) < 10 ∧ P j ∧ So j s) m) → Wa l g true fi_X5_oneStepOn 93 μ (Zi g true fi_X5_oneStepOn 93 μ (fun r M2 => M2 = M ∧ (fun r => MaskOf (fun k => P k ∨ ((k : Int) < 10 ∧ ∃ s, s < 10 ∧ So k s ∧ ∃ j : Nat, (j : Int) < 10 ∧ P j ∧ So j s)) r) r)) 43 [] [fr 1, fi homes, fi m, fi nx, fi i] 93 M := by
    intro kq
    induction kq using Nat.strongRecOn with
    | _ kq ih43 =>
    intro m nx i hk43 h0 h1 h2
    refine z_iload dX5_oneStepOn_43 rfl ?_
    refine z_bipush dX5_oneStepOn_45 ⟨by decide, by decide⟩ (by decide) ?_
    refine z_icmp_ge (tgt := 79) dX5_oneStepOn_47 (by decide) (fun c1 => ?_) (fun c1 => ?_)
    · refine z_iload_n dX5_oneStepOn_79 rfl ?_
      refine z_iret rfl (by decide) rfl (Nat.sub_self _) dX5_oneStepOn_80 ?_
      refine ⟨rfl, ?_⟩
      rw [show i = 10 by omega] at h1
      exact h1
    · refine z_iload_n dX5_oneStepOn_50 rfl ?_
      refine z_aload_nr dX5_oneStepOn_51 rfl ?_
      refine z_getr (b := 13) fl_X5_50 rfl (by decide) rf_1_12 rfl dX5_oneStepOn_52 ?_
      refine z_iload dX5_oneStepOn_55 rfl ?_
      refine z_iald rfl (by decide) (by omega) (by omega) dX5_oneStepOn_57 (fun x2 hx2 bx2 => ?_)
      have hval := hx2
      refine z_iload_n dX5_oneStepOn_58 rfl ?_
      refine z_iand dX5_oneStepOn_59 (fun x3 hx3 bx3 => ?_)
      have ha := Mask_and (hS i h0.1 (by omega)) h2
      rw [← hval, ← hx3] at ha
      refine z_if_eq (tgt := 70) dX5_oneStepOn_60 (by decide) (fun c4 => ?_) (fun c4 => ?_)
      · refine z_iconst dX5_oneStepOn_70 ⟨by decide, by decide⟩ ?_
        refine z_ior dX5_oneStepOn_71 (fun x5 hx5 bx5 => ?_)
        refine z_istore_n (loc2 := [fr 1, fi homes, fi m, fi x5, fi i]) dX5_oneStepOn_72 (by decide) rfl ?_
        refine z_iinc (loc2 := fun vq => [fr 1, fi homes, fi m, fi x5, fi vq]) dX5_oneStepOn_73 rfl (by decide) (by omega) (fun _ => rfl) (fun x6 hx6 => ?_)
        refine z_goto (tgt := 43) dX5_oneStepOn_76 (by decide) ?_
        have hn : MaskOf (fun k => P k ∨ ((k : Int) < i + 1 ∧ ∃ s, s < 10 ∧ So k s ∧ (fun s => ∃ j : Nat, (j : Int) < 10 ∧ P j ∧ So j s) s)) x5 := by
          first
          | (have hq := ha.mp (by omega)
             rw [hx5]
             exact Mask_congr (Mask_or h1 (Mask_0 (P := fun _ => False) (fun _ _ h => h))) (fun k _ => on2_no hq k))
          | (have hq := mt ha.mpr (by omega)
             rw [hx5, hsl]
             exact Mask_congr (Mask_or h1 (Mask_1 h0.1 (by omega))) (fun k _ => on2_yes hq k))
        exact ih43 _ (by omega) m x5 x6 rfl (by omega) (by rw [hx6]; exact hn) (h2)
      · refine z_iconst dX5_oneStepOn_63 ⟨by decide, by decide⟩ ?_
        refine z_iload dX5_oneStepOn_64 rfl ?_
        refine z_ishl dX5_oneStepOn_66 (fun x7 hx7 bx7 => ?_)
        have hsl := hx7
        refine z_goto (tgt := 71) dX5_oneStepOn_67 (by decide) ?_
        refine z_ior dX5_oneStepOn_71 (fun x8 hx8 bx8 => ?_)
        refine z_istore_n (loc2 := [fr 1, fi homes, fi m, fi x8, fi i]) dX5_oneStepOn_72 (by decide) rfl ?_
        refine z_iinc (loc2 := fun vq => [fr 1, fi homes, fi m, fi x8, fi vq]) dX5_oneStepOn_73 rfl (by decide) (by omega) (fun _ => rfl) (fun x9 hx9 => ?_)
        refine z_goto (tgt := 43) dX5_oneStepOn_76 (by decide) ?_
        have hn : MaskOf (fun k => P k ∨ ((k : Int) < i + 1 ∧ ∃ s, s < 10 ∧ So k s ∧ (fun s => ∃ j : Nat, (j : Int) < 10 ∧ P j ∧ So j s) s)) x8 := by
          first
          | (have hq := ha.mp (by omega)
             rw [hx8]
             exact Mask_congr (Mask_or h1 (Mask_0 (P := fun _ => False) (fun _ _ h => h))) (fun k _ => on2_no hq k))
          | (have hq := mt ha.mpr (by omega)
             rw [hx8, hsl]
             exact Mask_congr (Mask_or h1 (Mask_1 h0.1 (by omega))) (fun k _ => on2_yes hq k))
        exact ih43 _ (by omega) m x8 x9 rfl (by omega) (by rw [hx9]; exact hn) (h2)
  have lp4 : ∀ (kq : Nat) (m i : Int), (10 - i).toNat = kq → (0 ≤ i ∧ i ≤ 10) → (MaskOf (fun s => ∃ j : Nat, (j : Int) < i ∧ P j ∧ So j s) m) → Wa l g true fi_X5_oneStepOn 93 μ (Zi g true fi_X5_oneStepOn 93 μ (fun r M2 => M2 = M ∧ (fun r => MaskOf (fun k => P k ∨ ((k : Int) < 10 ∧ ∃ s, s < 10 ∧ So k s ∧ ∃ j : Nat, (j : Int) < 10 ∧ P j ∧ So j s)) r) r)) 4 [] [fr 1, fi homes, fi m, fi i, fu] 93 M := by
    intro kq
    induction kq using Nat.strongRecOn with
    | _ kq ih4 =>
    intro m i hk4 h0 h1
    refine z_iload_n dX5_oneStepOn_4 rfl ?_
    refine z_bipush dX5_oneStepOn_5 ⟨by decide, by decide⟩ (by decide) ?_
    refine z_icmp_ge (tgt := 38) dX5_oneStepOn_7 (by decide) (fun c10 => ?_) (fun c10 => ?_)
    · refine z_iload_n dX5_oneStepOn_38 rfl ?_
      refine z_istore_n (loc2 := [fr 1, fi homes, fi m, fi homes, fu]) dX5_oneStepOn_39 (by decide) rfl ?_
      refine z_iconst dX5_oneStepOn_40 ⟨by decide, by decide⟩ ?_
      refine z_istore (loc2 := [fr 1, fi homes, fi m, fi homes, fi 0]) dX5_oneStepOn_41 (by decide) rfl ?_
      exact lp43 _ m homes 0 rfl (by omega) (Mask_congr hP (fun k _ => ⟨Or.inl, fun h => h.elim id (fun z => by omega)⟩)) (by rw [show (10 : Int) = i by omega]; exact h1)
    · refine z_iload_n dX5_oneStepOn_10 rfl ?_
      refine z_iload_n dX5_oneStepOn_11 rfl ?_
      refine z_iload_n dX5_oneStepOn_12 rfl ?_
      refine z_ishr dX5_oneStepOn_13 (fun x11 hx11 bx11 => ?_)
      refine z_iconst dX5_oneStepOn_14 ⟨by decide, by decide⟩ ?_
      have hsr := hx11
      refine z_iand dX5_oneStepOn_15 (fun x12 hx12 bx12 => ?_)
      have hbit := Mask_bit hP h0.1 (show i < 10 by omega)
      rw [← hsr, ← hx12] at hbit
      refine z_iconst dX5_oneStepOn_16 ⟨by decide, by decide⟩ ?_
      refine z_icmp_ne (tgt := 29) dX5_oneStepOn_17 (by decide) (fun c13 => ?_) (fun c13 => ?_)
      · refine z_iconst dX5_oneStepOn_29 ⟨by decide, by decide⟩ ?_
        refine z_ior dX5_oneStepOn_30 (fun x14 hx14 bx14 => ?_)
        refine z_istore_n (loc2 := [fr 1, fi homes, fi x14, fi i, fu]) dX5_oneStepOn_31 (by decide) rfl ?_
        refine z_iinc (loc2 := fun vq => [fr 1, fi homes, fi x14, fi vq, fu]) dX5_oneStepOn_32 rfl (by decide) (by omega) (fun _ => rfl) (fun x15 hx15 => ?_)
        refine z_goto (tgt := 4) dX5_oneStepOn_35 (by decide) ?_
        have hm : MaskOf (fun s => ∃ j : Nat, (j : Int) < i + 1 ∧ P j ∧ So j s) x14 := by
          rcases hbit with ⟨q1, q2⟩ | ⟨q1, q2⟩
          · first
            | (exfalso; omega)
            | (rw [hx14, hval]; exact Mask_congr (Mask_or h1 (hS i h0.1 (by omega))) (fun s _ => step_yes h0.1 q2 s))
          · first
            | (exfalso; omega)
            | (rw [hx14]; exact Mask_congr (Mask_or h1 (Mask_0 (P := fun _ => False) (fun _ _ h => h))) (fun s _ => step_no h0.1 q2 s))
        exact ih4 _ (by omega) x14 x15 rfl (by omega) (by rw [hx15]; exact hm)
      · refine z_aload_nr dX5_oneStepOn_20 rfl ?_
        refine z_getr (b := 13) fl_X5_50 rfl (by decide) rf_1_12 rfl dX5_oneStepOn_21 ?_
        refine z_iload_n dX5_oneStepOn_24 rfl ?_
        refine z_iald rfl (by decide) (by omega) (by omega) dX5_oneStepOn_25 (fun x16 hx16 bx16 => ?_)
        have hval := hx16
        refine z_goto (tgt := 30) dX5_oneStepOn_26 (by decide) ?_
        refine z_ior dX5_oneStepOn_30 (fun x17 hx17 bx17 => ?_)
        refine z_istore_n (loc2 := [fr 1, fi homes, fi x17, fi i, fu]) dX5_oneStepOn_31 (by decide) rfl ?_
        refine z_iinc (loc2 := fun vq => [fr 1, fi homes, fi x17, fi vq, fu]) dX5_oneStepOn_32 rfl (by decide) (by omega) (fun _ => rfl) (fun x18 hx18 => ?_)
        refine z_goto (tgt := 4) dX5_oneStepOn_35 (by decide) ?_
        have hm : MaskOf (fun s => ∃ j : Nat, (j : Int) < i + 1 ∧ P j ∧ So j s) x17 := by
          rcases hbit with ⟨q1, q2⟩ | ⟨q1, q2⟩
          · first
            | (exfalso; omega)
            | (rw [hx17, hval]; exact Mask_congr (Mask_or h1 (hS i h0.1 (by omega))) (fun s _ => step_yes h0.1 q2 s))
          · first
            | (exfalso; omega)
            | (rw [hx17]; exact Mask_congr (Mask_or h1 (Mask_0 (P := fun _ => False) (fun _ _ h => h))) (fun s _ => step_no h0.1 q2 s))
        exact ih4 _ (by omega) x17 x18 rfl (by omega) (by rw [hx18]; exact hm)
  refine z_iconst dX5_oneStepOn_0 ⟨by decide, by decide⟩ ?_
  refine z_istore_n (loc2 := [fr 1, fi homes, fi 0, fu, fu]) dX5_oneStepOn_1 (by decide) rfl ?_
  refine z_iconst dX5_oneStepOn_2 ⟨by decide, by decide⟩ ?_
  refine z_istore_n (loc2 := [fr 1, fi homes, fi 0, fi 0, fu]) dX5_oneStepOn_3 (by decide) rfl ?_
  exact lp4 _ 0 0 rfl (by omega) (Mask_0 (fun k _ ⟨j, a, _⟩ => by omega))
set_option maxHeartbeats 400000 in
theorem A_X5_fewestLights (l : Launch) (g : Cx) (M : FMem) (goal : Int) (hs : 0 ≤ M 1 13 ∧ M 1 13 ≤ 80) (hX : ∀ i, 0 ≤ i → i < M 1 13 → TelX M i) (hg : 0 ≤ goal ∧ goal ≤ 9) : AMi l g true fi_X5_fewestLights [fr 1, fi goal] 93 M (fun r M2 => (∀ b j, b ≠ 13 → M2 b j = M b j) ∧ PSt (Lv (ShH M (M 1 13)) (SoH M (M 1 13))) goal.toNat r) := by
  refine AMi_intro [fr 1, fi goal, fu, fu] (by decide) (knall rfl) (Nat.le_of_ble_eq_true rfl) rfl ?_
  intro hNV hM0 μ
  have bgoal : N32 goal := hNV (fi goal) (by simp)
  have lp11 : ∀ (kq : Nat) (re li : Int) (t : Nat) (M1 : FMem), (22 - li).toNat = kq → (li = 2 * (t : Int) ∧ t ≤ 11) → (∀ b j, b ≠ 13 → M1 b j = M b j) → (∀ h, 0 ≤ h → h < 10 → MaskOf (SoH M (M 1 13) h) (M1 13 h)) → (MaskOf (Lv (ShH M (M 1 13)) (SoH M (M 1 13)) t) re) → (∀ s, s < t → ¬ Lv (ShH M (M 1 13)) (SoH M (M 1 13)) s goal.toNat) → Wa l g true fi_X5_fewestLights 93 μ (Zi g true fi_X5_fewestLights 93 μ (fun r M2 => (∀ b j, b ≠ 13 → M2 b j = M b j) ∧ PSt (Lv (ShH M (M 1 13)) (SoH M (M 1 13))) goal.toNat r)) 11 [] [fr 1, fi goal, fi re, fi li] 93 M1 := by
    intro kq
    induction kq using Nat.strongRecOn with
    | _ kq ih11 =>
    intro re li t M1 hk11 h0 h1 h2 h3 h4
    refine z_iload_n dX5_fewestLights_11 rfl ?_
    refine z_bipush dX5_fewestLights_12 ⟨by decide, by decide⟩ (by decide) ?_
    refine z_icmp_gt (tgt := 40) dX5_fewestLights_14 (by decide) (fun c1 => ?_) (fun c1 => ?_)
    · refine z_iconst dX5_fewestLights_40 ⟨by decide, by decide⟩ ?_
      refine z_iret rfl (by decide) rfl (Nat.sub_self _) dX5_fewestLights_41 ?_
      exact ⟨h1, Or.inr ⟨rfl, fun s hs => h4 s (by omega)⟩⟩
    · refine z_iload_n dX5_fewestLights_17 rfl ?_
      refine z_iload_n dX5_fewestLights_18 rfl ?_
      refine z_ishr dX5_fewestLights_19 (fun x2 hx2 bx2 => ?_)
      have hsr := hx2
      refine z_iconst dX5_fewestLights_20 ⟨by decide, by decide⟩ ?_
      refine z_iand dX5_fewestLights_21 (fun x3 hx3 bx3 => ?_)
      have hbit := Mask_bit h3 hg.1 (show goal < 10 by omega)
      rw [← hsr, ← hx3] at hbit
      refine z_iconst dX5_fewestLights_22 ⟨by decide, by decide⟩ ?_
      refine z_icmp_ne (tgt := 28) dX5_fewestLights_23 (by decide) (fun c4 => ?_) (fun c4 => ?_)
      · refine z_aload_nr dX5_fewestLights_28 rfl ?_
        refine z_iload_n dX5_fewestLights_29 rfl ?_
        refine z_callVip (n2 := 93) (A_X5_oneStepOn l g M1 re _ _ (h3) (h2)) cb_X5_oneStepOn cl_X5_79 (clr0 rfl rfl (by decide) (by decide)) rfl (by decide) ⟨_, rfl, rfl⟩ rfl (by decide) rfl (Nat.le_of_ble_eq_true rfl) rfl dX5_fewestLights_30 (fun x5 bx5 hx5 => ?_)
        have hx30 := hx5
        refine z_istore_n (loc2 := [fr 1, fi goal, fi x5, fi li]) dX5_fewestLights_33 (by decide) rfl ?_
        refine z_iinc (loc2 := fun vq => [fr 1, fi goal, fi x5, fi vq]) dX5_fewestLights_34 rfl (by decide) (by omega) (fun _ => rfl) (fun x6 hx6 => ?_)
        refine z_goto (tgt := 11) dX5_fewestLights_37 (by decide) ?_
        have hno : ¬ Lv (ShH M (M 1 13)) (SoH M (M 1 13)) t goal.toNat := by
          rcases hbit with ⟨q1, q2⟩ | ⟨q1, q2⟩
          · exfalso; omega
          · exact q2
        exact ih11 _ (by omega) x5 x6 (t + 1) M1 rfl (by omega) (h1) (h2) (hx30) (fun s hs => by
          by_cases e : s = t
          · subst e; exact hno
          · exact h4 s (by omega))
      · refine z_iload_n dX5_fewestLights_26 rfl ?_
        refine z_iret rfl (by decide) rfl (Nat.sub_self _) dX5_fewestLights_27 ?_
        refine ⟨h1, Or.inl ⟨t, by omega, h0.1, ?_, h4⟩⟩
        rcases hbit with ⟨q1, q2⟩ | ⟨q1, q2⟩
        · exact q2
        · exfalso; omega
  refine z_aload_nr dX5_fewestLights_0 rfl ?_
  refine z_callVv (n2 := 93) (A_X5_noteSortsOfHomes l g M (hs) (hX)) cb_X5_noteSortsOfHomes cl_X5_72 (clr0 rfl rfl (by decide) (by decide)) rfl (by decide) ⟨_, rfl, rfl⟩ rfl (by decide) rfl (Nat.le_of_ble_eq_true rfl) rfl dX5_fewestLights_1 (fun Mz7 kMz7 hc7 => ?_)
  have hc1 := hc7
  refine z_aload_nr dX5_fewestLights_4 rfl ?_
  refine z_callVip (n2 := 93) (A_X5_homesWithShift l g Mz7 (by rw [hc1.1 1 13 (by decide)]; exact hs) (by rw [hc1.1 1 13 (by decide)]; intro i a b; have := hX i a b; unfold TelX at this ⊢; rw [hc1.1 2 i (by decide), hc1.1 3 i (by decide), hc1.1 4 i (by decide), hc1.1 5 i (by decide), hc1.1 6 i (by decide), hc1.1 7 i (by decide), hc1.1 8 i (by decide), hc1.1 9 i (by decide)]; exact this)) cb_X5_homesWithShift cl_X5_75 (clr0 rfl rfl (by decide) (by decide)) rfl (by decide) ⟨_, rfl, rfl⟩ rfl (by decide) rfl (Nat.le_of_ble_eq_true rfl) rfl dX5_fewestLights_5 (fun x8 bx8 hx8 => ?_)
  have hsh := hx8
  rw [hc1.1 1 13 (by decide), ShH_off hc1.1] at hsh
  refine z_istore_n (loc2 := [fr 1, fi goal, fi x8, fu]) dX5_fewestLights_8 (by decide) rfl ?_
  refine z_iconst dX5_fewestLights_9 ⟨by decide, by decide⟩ ?_
  refine z_istore_n (loc2 := [fr 1, fi goal, fi x8, fi 0]) dX5_fewestLights_10 (by decide) rfl ?_
  exact lp11 _ x8 0 0 Mz7 rfl (by omega) (hc1.1) (hc1.2) (hsh) (fun s h => by omega)
set_option maxHeartbeats 400000 in
theorem A_X7_steps (l : Launch) (g : Cx) (M : FMem) (home : Int) (hs : 0 ≤ M 1 13 ∧ M 1 13 ≤ 80) (hX : ∀ i, 0 ≤ i → i < M 1 13 → TelX M i) : AMi l g true fi_X7_steps [fr 0, fi home] 93 M (fun r M2 => (∀ b j, b ≠ 13 → M2 b j = M b j) ∧ if ¬ (0 ≤ home ∧ home ≤ 9) then r = -1000001 else PSt (Lv (ShH M (M 1 13)) (SoH M (M 1 13))) home.toNat r) := by
  refine AMi_intro [fr 0, fi home] (by decide) (knall rfl) (Nat.le_of_ble_eq_true rfl) rfl ?_
  intro hNV hM0 μ
  have bhome : N32 home := hNV (fi home) (by simp)
  refine z_iload_n dX7_steps_0 rfl ?_
  refine z_callSip (n2 := 93) (A_X7_isHome l g M home) cb_X7_isHome cl_X7_79 (clr0 rfl rfl (by decide) (by decide)) rfl (by decide) rfl (Nat.le_of_ble_eq_true rfl) rfl dX7_steps_1 (fun x1 bx1 hx1 => ?_)
  have i1 := if01 hx1
  refine z_if_eq (tgt := 18) dX7_steps_4 (by decide) (fun c2 => ?_) (fun c2 => ?_)
  · refine z_ldc (c := -1000001) cn_X7_82 ⟨by decide, by decide⟩ dX7_steps_18 ?_
    refine z_iret rfl (by decide) rfl (Nat.sub_self _) dX7_steps_20 ?_
    first
    | (refine ⟨fun _ _ _ => rfl, ?_⟩; rw [if_pos (by omega)])
    | (refine ⟨hc12.1, ?_⟩; rw [if_neg (by omega)]; exact hc12.2)
  · refine z_aload_nr dX7_steps_7 rfl ?_
    refine z_getr (b := 1) fl_X7_10 rfl (by decide) rf_0_0 rfl dX7_steps_8 ?_
    refine z_iload_n dX7_steps_11 rfl ?_
    refine z_callVi (n2 := 93) (A_X5_fewestLights l g M home (hs) (hX) (by omega)) cb_X5_fewestLights cl_X7_278 (clr0 rfl rfl (by decide) (by decide)) rfl (by decide) ⟨_, rfl, rfl⟩ rfl (by decide) rfl (Nat.le_of_ble_eq_true rfl) rfl dX7_steps_12 (fun x3 Mz3 bx3 kMz3 hc3 => ?_)
    have hc12 := hc3
    refine z_goto (tgt := 20) dX7_steps_15 (by decide) ?_
    refine z_iret rfl (by decide) rfl (Nat.sub_self _) dX7_steps_20 ?_
    first
    | (refine ⟨fun _ _ _ => rfl, ?_⟩; rw [if_pos (by omega)])
    | (refine ⟨hc12.1, ?_⟩; rw [if_neg (by omega)]; exact hc12.2)
