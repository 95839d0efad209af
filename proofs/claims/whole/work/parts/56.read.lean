/-! ===== read ===== -/
theorem opF_f (t : Int → Int) (n st d lo hi : Int) : 0 ≤ (opF t n st d lo hi).1.1 ∧ (opF t n st d lo hi).1.1 ≤ 2 := by
  unfold opF
  repeat' split
  all_goals (dsimp only; omega)
def PF (s : PS) : Prop := 0 ≤ s.1.1 ∧ s.1.1 ≤ 2
theorem PF_N {t : Int → Int} {n sg lo hi : Int} {s : PS} (h : PF s) : PF (opN t n sg lo hi s) := by
  unfold opN
  split
  · exact opF_f _ _ _ _ _ _
  · exact h
theorem PF_T {t : Int → Int} {n sg hi : Int} {s : PS} (h : PF s) : PF (opT t n sg hi s) := PF_N h
theorem PF_W {t : Int → Int} {n : Int} {j : Nat} {s : PS} (h : PF s) : PF (opW t n j s) := by
  unfold opW
  split
  · unfold PF
    dsimp only
    split <;> (dsimp only; omega)
  · exact h
theorem PF_E {t : Int → Int} {n : Int} {s : PS} (h : PF s) : PF (opE t n s) := by
  unfold opE
  split
  · unfold PF
    dsimp only
    split <;> (dsimp only; omega)
  · exact h
theorem PF_A {t : Int → Int} {n : Int} {s : PS} (h : PF s) : PF (opA t n s) := by
  unfold opA
  split <;> exact PF_W h
theorem PF_0 (p : Int) : PF (s0 p) := ⟨Int.le_refl 0, by show (0 : Int) ≤ 2; decide⟩
theorem clR_f (t : Int → Int) (n p kd : Int) : PF (clR t n p kd) := by
  unfold clR
  repeat' split
  · exact PF_E (PF_T (PF_W (PF_N (PF_W (PF_T (PF_W (PF_N (PF_W (PF_N (PF_0 _))))))))))
  · exact PF_E (PF_T (PF_W (PF_N (PF_0 _))))
  · exact PF_E (PF_N (PF_W (PF_N (PF_0 _))))
  · exact PF_E (PF_N (PF_0 _))
  · exact PF_E (PF_N (PF_A (PF_N (PF_0 _))))
theorem rdl_f (t : Int → Int) (n : Int) : ∀ (m : Nat) (p k : Int) (R : FMem), (rdl t n m p k R).1 = 0 ∨ (1 ≤ (rdl t n m p k R).1 ∧ (rdl t n m p k R).1 ≤ 100) := by
  intro m
  induction m with
  | zero => intro p k R; exact Or.inl rfl
  | succ m ih =>
    intro p k R
    rw [rdl_s]
    have hc := clR_f t n (sk t n p) (kdW t n (sk t n p))
    unfold PF at hc
    repeat' split
    · exact Or.inl rfl
    · right; dsimp only; omega
    · right; dsimp only; omega
    · right; dsimp only; omega
    · right
      dsimp only
      omega
    · exact ih _ _ _
set_option maxHeartbeats 1600000 in
theorem A_X7_read42 (l : Launch) (g : Cx) (M : FMem) (hl : 0 ≤ M 17 1 ∧ M 17 1 ≤ 240) (hr : M 0 6 = 42) (hr2 : M 0 7 = 51) : AMi l g true fi_X7_read [fr 0] 93 M (fun q M2 => M2 17 3 = (rdl (tx M) (M 17 1) 21 0 0 R0).2.1 ∧ M2 17 1 = 0 ∧ (∀ b j, b ≠ 17 → b ≠ 19 → ¬ (b = 0 ∧ (j = 6 ∨ j = 7)) → (b < 51 ∨ 59 < b) → M2 b j = M b j) ∧ (((rdl (tx M) (M 17 1) 21 0 0 R0).1 ≠ 0 ∧ q = -10 - (rdl (tx M) (M 17 1) 21 0 0 R0).1 ∧ M2 0 6 = 42 ∧ M2 0 7 = 51) ∨ ((rdl (tx M) (M 17 1) 21 0 0 R0).1 = 0 ∧ q = (rdl (tx M) (M 17 1) 21 0 0 R0).2.2.1 ∧ M2 0 6 = 51 ∧ M2 0 7 = 42 ∧ DrP (sh 51 M2) (rdl (tx M) (M 17 1) 21 0 0 R0).2.2.2))) := by
  refine AMi_intro [fr 0, fu, fu] (by decide) (knall rfl) (Nat.le_of_ble_eq_true rfl) rfl ?_
  intro hNV hM0 μ
  refine z_aload_nr dX7_read_0 rfl ?_
  refine z_getr (b := 17) fl_X7_26 rfl (by decide) rf_0_2 rfl dX7_read_1 ?_
  refine z_aload_nr dX7_read_4 rfl ?_
  refine z_getv (b := 51) (kz := 7) fl_X7_58 rfl (by decide) rfl (fun _ => by first | assumption | omega | simp_all) dX7_read_5 ?_
  refine z_callVi (n2 := 93) (A_X2_readInto51 l g M (hl)) cb_X2_readInto cl_X7_176 (clr0 rfl rfl (by decide) (by decide)) rfl (by decide) ⟨_, rfl, rfl⟩ rfl (by decide) rfl (Nat.le_of_ble_eq_true rfl) rfl dX7_read_8 (fun x1 Mz1 bx1 kMz1 hc1 => ?_)
  have hri := hc1
  have g6 : Mz1 0 6 = 42 := by rw [hri.2.2.2.2 0 6 (by decide) (by decide) (by omega)]; exact hr
  have g7 : Mz1 0 7 = 51 := by rw [hri.2.2.2.2 0 7 (by decide) (by decide) (by omega)]; exact hr2
  have hDb : (rdl (tx M) (M 17 1) 21 0 0 R0).1 = 0 ∨ (1 ≤ (rdl (tx M) (M 17 1) 21 0 0 R0).1 ∧ (rdl (tx M) (M 17 1) 21 0 0 R0).1 ≤ 100) := rdl_f _ _ _ _ _ _
  refine z_istore_n (loc2 := [fr 0, fi x1, fu]) dX7_read_11 (by decide) rfl ?_
  refine z_aload_nr dX7_read_12 rfl ?_
  refine z_getr (b := 17) fl_X7_26 rfl (by decide) rf_0_2 rfl dX7_read_13 ?_
  refine z_geti (kz := 2) fl_X7_180 rfl (by decide) rfl dX7_read_16 (fun x2 hx2 bx2 => ?_)
  refine z_if_eq (tgt := 33) dX7_read_19 (by decide) (fun c3 => ?_) (fun c3 => ?_)
  · refine z_aload_nr dX7_read_33 rfl ?_
    refine z_getv (b := 42) (kz := 6) fl_X7_54 rfl (by decide) rfl (fun _ => by first | assumption | omega | simp_all) dX7_read_34 ?_
    refine z_astore_nr (loc2 := [fr 0, fi x1, fr 42]) dX7_read_37 (by decide) rfl ?_
    refine z_aload_nr dX7_read_38 rfl ?_
    refine z_aload_nr dX7_read_39 rfl ?_
    refine z_getv (b := 51) (kz := 7) fl_X7_58 rfl (by decide) rfl (fun _ => by first | assumption | omega | simp_all) dX7_read_40 ?_
    refine z_putr (kz := 6) fl_X7_54 rfl (by decide) rfl nr_0_6 dX7_read_43 (fun Mz4 hMz4 => ?_)
    refine z_aload_nr dX7_read_46 rfl ?_
    refine z_aload_nr dX7_read_47 rfl ?_
    refine z_putr (kz := 7) fl_X7_58 rfl (by decide) rfl nr_0_7 dX7_read_48 (fun Mz5 hMz5 => ?_)
    refine z_iload_n dX7_read_51 rfl ?_
    refine z_iret rfl (by decide) rfl (Nat.sub_self _) dX7_read_52 ?_
    have hD0 : (rdl (tx M) (M 17 1) 21 0 0 R0).1 = 0 := by omega
    have hq := hri.2.2.2.1 hD0
    refine ⟨?_, ?_, fun b j p q y z => ?_, Or.inr ⟨hD0, hq.1, ?_, ?_, ?_⟩⟩
    · rw [hMz5, hMz4, st_cell (by decide), st_cell (by decide)]; exact hri.2.1
    · rw [hMz5, hMz4, st_cell (by decide), st_cell (by decide)]; exact hri.2.2.1
    · rw [hMz5, hMz4]
      unfold st
      rw [if_neg (fun x => y ⟨x.1, Or.inr x.2⟩), if_neg (fun x => y ⟨x.1, Or.inl x.2⟩)]
      exact hri.2.2.2.2 b j p q z
    · rw [hMz5, hMz4, st_at, if_neg (by decide), st_same]; rfl
    · rw [hMz5, hMz4, st_same]; rfl
    · have hz : sh 51 Mz5 = sh 51 Mz1 := by
        funext c i
        show Mz5 (51 + c) i = Mz1 (51 + c) i
        rw [hMz5, hMz4, st_cell (by omega), st_cell (by omega)]
      rw [hz]; exact hq.2
  · refine z_bipush dX7_read_22 ⟨by decide, by decide⟩ (by decide) ?_
    refine z_aload_nr dX7_read_24 rfl ?_
    refine z_getr (b := 17) fl_X7_26 rfl (by decide) rf_0_2 rfl dX7_read_25 ?_
    refine z_geti (kz := 2) fl_X7_180 rfl (by decide) rfl dX7_read_28 (fun x6 hx6 bx6 => ?_)
    first | refine z_isubN dX7_read_31 (by omega) (fun x7 hx7 => ?_) | refine z_isub dX7_read_31 (fun x7 hx7 => ?_)
    refine z_iret rfl (by decide) rfl (Nat.sub_self _) dX7_read_32 ?_
    refine ⟨hri.2.1, hri.2.2.1, fun b j p q _ z => hri.2.2.2.2 b j p q z, Or.inl ⟨by omega, by omega, g6, g7⟩⟩
set_option maxHeartbeats 1600000 in
theorem A_X7_read51 (l : Launch) (g : Cx) (M : FMem) (hl : 0 ≤ M 17 1 ∧ M 17 1 ≤ 240) (hr : M 0 6 = 51) (hr2 : M 0 7 = 42) : AMi l g true fi_X7_read [fr 0] 93 M (fun q M2 => M2 17 3 = (rdl (tx M) (M 17 1) 21 0 0 R0).2.1 ∧ M2 17 1 = 0 ∧ (∀ b j, b ≠ 17 → b ≠ 19 → ¬ (b = 0 ∧ (j = 6 ∨ j = 7)) → (b < 42 ∨ 50 < b) → M2 b j = M b j) ∧ (((rdl (tx M) (M 17 1) 21 0 0 R0).1 ≠ 0 ∧ q = -10 - (rdl (tx M) (M 17 1) 21 0 0 R0).1 ∧ M2 0 6 = 51 ∧ M2 0 7 = 42) ∨ ((rdl (tx M) (M 17 1) 21 0 0 R0).1 = 0 ∧ q = (rdl (tx M) (M 17 1) 21 0 0 R0).2.2.1 ∧ M2 0 6 = 42 ∧ M2 0 7 = 51 ∧ DrP (sh 42 M2) (rdl (tx M) (M 17 1) 21 0 0 R0).2.2.2))) := by
  refine AMi_intro [fr 0, fu, fu] (by decide) (knall rfl) (Nat.le_of_ble_eq_true rfl) rfl ?_
  intro hNV hM0 μ
  refine z_aload_nr dX7_read_0 rfl ?_
  refine z_getr (b := 17) fl_X7_26 rfl (by decide) rf_0_2 rfl dX7_read_1 ?_
  refine z_aload_nr dX7_read_4 rfl ?_
  refine z_getv (b := 42) (kz := 7) fl_X7_58 rfl (by decide) rfl (fun _ => by first | assumption | omega | simp_all) dX7_read_5 ?_
  refine z_callVi (n2 := 93) (A_X2_readInto42 l g M (hl)) cb_X2_readInto cl_X7_176 (clr0 rfl rfl (by decide) (by decide)) rfl (by decide) ⟨_, rfl, rfl⟩ rfl (by decide) rfl (Nat.le_of_ble_eq_true rfl) rfl dX7_read_8 (fun x1 Mz1 bx1 kMz1 hc1 => ?_)
  have hri := hc1
  have g6 : Mz1 0 6 = 51 := by rw [hri.2.2.2.2 0 6 (by decide) (by decide) (by omega)]; exact hr
  have g7 : Mz1 0 7 = 42 := by rw [hri.2.2.2.2 0 7 (by decide) (by decide) (by omega)]; exact hr2
  have hDb : (rdl (tx M) (M 17 1) 21 0 0 R0).1 = 0 ∨ (1 ≤ (rdl (tx M) (M 17 1) 21 0 0 R0).1 ∧ (rdl (tx M) (M 17 1) 21 0 0 R0).1 ≤ 100) := rdl_f _ _ _ _ _ _
  refine z_istore_n (loc2 := [fr 0, fi x1, fu]) dX7_read_11 (by decide) rfl ?_
  refine z_aload_nr dX7_read_12 rfl ?_
  refine z_getr (b := 17) fl_X7_26 rfl (by decide) rf_0_2 rfl dX7_read_13 ?_
  refine z_geti (kz := 2) fl_X7_180 rfl (by decide) rfl dX7_read_16 (fun x2 hx2 bx2 => ?_)
  refine z_if_eq (tgt := 33) dX7_read_19 (by decide) (fun c3 => ?_) (fun c3 => ?_)
  · refine z_aload_nr dX7_read_33 rfl ?_
    refine z_getv (b := 51) (kz := 6) fl_X7_54 rfl (by decide) rfl (fun _ => by first | assumption | omega | simp_all) dX7_read_34 ?_
    refine z_astore_nr (loc2 := [fr 0, fi x1, fr 51]) dX7_read_37 (by decide) rfl ?_
    refine z_aload_nr dX7_read_38 rfl ?_
    refine z_aload_nr dX7_read_39 rfl ?_
    refine z_getv (b := 42) (kz := 7) fl_X7_58 rfl (by decide) rfl (fun _ => by first | assumption | omega | simp_all) dX7_read_40 ?_
    refine z_putr (kz := 6) fl_X7_54 rfl (by decide) rfl nr_0_6 dX7_read_43 (fun Mz4 hMz4 => ?_)
    refine z_aload_nr dX7_read_46 rfl ?_
    refine z_aload_nr dX7_read_47 rfl ?_
    refine z_putr (kz := 7) fl_X7_58 rfl (by decide) rfl nr_0_7 dX7_read_48 (fun Mz5 hMz5 => ?_)
    refine z_iload_n dX7_read_51 rfl ?_
    refine z_iret rfl (by decide) rfl (Nat.sub_self _) dX7_read_52 ?_
    have hD0 : (rdl (tx M) (M 17 1) 21 0 0 R0).1 = 0 := by omega
    have hq := hri.2.2.2.1 hD0
    refine ⟨?_, ?_, fun b j p q y z => ?_, Or.inr ⟨hD0, hq.1, ?_, ?_, ?_⟩⟩
    · rw [hMz5, hMz4, st_cell (by decide), st_cell (by decide)]; exact hri.2.1
    · rw [hMz5, hMz4, st_cell (by decide), st_cell (by decide)]; exact hri.2.2.1
    · rw [hMz5, hMz4]
      unfold st
      rw [if_neg (fun x => y ⟨x.1, Or.inr x.2⟩), if_neg (fun x => y ⟨x.1, Or.inl x.2⟩)]
      exact hri.2.2.2.2 b j p q z
    · rw [hMz5, hMz4, st_at, if_neg (by decide), st_same]; rfl
    · rw [hMz5, hMz4, st_same]; rfl
    · have hz : sh 42 Mz5 = sh 42 Mz1 := by
        funext c i
        show Mz5 (42 + c) i = Mz1 (42 + c) i
        rw [hMz5, hMz4, st_cell (by omega), st_cell (by omega)]
      rw [hz]; exact hq.2
  · refine z_bipush dX7_read_22 ⟨by decide, by decide⟩ (by decide) ?_
    refine z_aload_nr dX7_read_24 rfl ?_
    refine z_getr (b := 17) fl_X7_26 rfl (by decide) rf_0_2 rfl dX7_read_25 ?_
    refine z_geti (kz := 2) fl_X7_180 rfl (by decide) rfl dX7_read_28 (fun x6 hx6 bx6 => ?_)
    first | refine z_isubN dX7_read_31 (by omega) (fun x7 hx7 => ?_) | refine z_isub dX7_read_31 (fun x7 hx7 => ?_)
    refine z_iret rfl (by decide) rfl (Nat.sub_self _) dX7_read_32 ?_
    refine ⟨hri.2.1, hri.2.2.1, fun b j p q _ z => hri.2.2.2.2 b j p q z, Or.inl ⟨by omega, by omega, g6, g7⟩⟩
