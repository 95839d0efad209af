/-! ===== the reference's reader: spans, sorts, blurs, claims ===== -/
theorem Qs_f {t : Int → Int} {n : Int} {s : PS} {M : FMem} (h : Qs t n s M) : M 60 37 = s.1.1 := by
  by_cases e : s.1.1 = 0
  · rw [(h.2.2.2.1 e).2.1, e]
  · exact (h.2.2.2.2 e).1
def off80 (M M2 : FMem) : Prop := ∀ b j, b ≠ 80 → ¬ (b = 60 ∧ 36 ≤ j ∧ j ≤ 40) → M2 b j = M b j
theorem off80_S {M M2 : FMem} (h : offS M M2) : off80 M M2 := fun b j _ q => h b j q
theorem off80_tr {M M1 M2 : FMem} (h : off80 M M1) (h2 : off80 M1 M2) : off80 M M2 := fun b j p q => (h2 b j p q).trans (h b j p q)
noncomputable def srT (t : Int → Int) (n : Int) (s : PS) : PS := opT t n 1 9999 (opW t n 6 (opN t n 1 (-9999) 9999 s))
noncomputable def srS (t : Int → Int) (n : Int) (s : PS) : PS := srT t n (opW t n 7 (srT t n (opW t n 5 (opN t n 0 0 5 s))))
theorem srT_f {t : Int → Int} {n : Int} {s : PS} (h : s.1.1 ≠ 0) : srT t n s = s := by unfold srT; rw [opN_f h, opW_f h, opT_f h]
theorem srT_ok {t : Int → Int} {n : Int} {s : PS} (h : SOk n s) : SOk n (srT t n s) := opT_ok (opW_ok (by decide) (opN_ok h))
theorem srT_v {t : Int → Int} {n : Int} {s : PS} (h : SOk n s) (hf : (srT t n s).1.1 = 0) : s.1.1 = 0 ∧ (srT t n s).2.1 = s.2.1 + 2 ∧ (opN t n 1 (-9999) 9999 s).2.2 s.2.1 = (srT t n s).2.2 s.2.1 ∧ ∀ k, k < s.2.1 → (srT t n s).2.2 k = s.2.2 k := by
  unfold srT at hf ⊢
  generalize e1 : opN t n 1 (-9999) 9999 s = z1 at hf ⊢
  generalize e2 : opW t n 6 z1 = z2 at hf ⊢
  have o1 : SOk n z1 := by rw [← e1]; exact opN_ok h
  have o2 : SOk n z2 := by rw [← e2]; exact opW_ok (by decide) o1
  unfold opT at hf ⊢
  have v3 := opN_v (t := t) (n := n) (sg := 1) (lo := z2.2.2 (z2.2.1 - 1)) (hi := 9999) (s := z2) o2 hf
  have v2 := opW_v (t := t) (n := n) (j := 6) (s := z1)
  rw [e2] at v2
  have f1 := v2.2 v3.1
  have v1 := opN_v (t := t) (n := n) (sg := 1) (lo := -9999) (hi := 9999) (s := s) h (by rw [e1]; exact f1)
  rw [e1] at v1
  have c2 : z2.2.1 = s.2.1 + 1 := by rw [v2.1]; exact v1.2.1
  have w2 : ∀ i, z2.2.2 i = z1.2.2 i := fun i => by rw [v2.1]
  refine ⟨v1.1, by rw [v3.2.1]; omega, ?_, fun k hk => ?_⟩
  · rw [v3.2.2.2.2 s.2.1 (by omega), w2]
  · rw [v3.2.2.2.2 k (by omega), w2, v1.2.2.2.2 k (by omega)]
set_option maxHeartbeats 1600000 in
theorem A_X8_readSpan (l : Launch) (g : Cx) (M : FMem) (k : Int) (t : Int → Int) (n : Int) (s : PS) (hQ : Qs t n s M) (hS : SOk n s) (hn : 0 ≤ n ∧ n ≤ 240) (hk : 0 ≤ k ∧ k < 23) (hc : 0 ≤ s.2.1) : AMv l g true fi_X8_readSpan [fr 60, fi k] 93 M (fun M2 => off80 M M2 ∧ Qs t n (srT t n s) M2 ∧ ((srT t n s).1.1 = 0 → ∀ j, M2 80 j = if j = k + 1 then (srT t n s).2.2 (s.2.1 + 1) else if j = k then (srT t n s).2.2 s.2.1 else M 80 j)) := by
  refine AMv_intro [fr 60, fi k, fu, fu, fu] (by decide) (knall rfl) (Nat.le_of_ble_eq_true rfl) rfl ?_
  intro hNV hM0 μ
  have bk : N32 k := hNV (fi k) (by simp)
  refine z_aload_nr dX8_readSpan_0 rfl ?_
  refine z_sipush dX8_readSpan_1 ⟨by decide, by decide⟩ (by decide) ?_
  refine z_sipush dX8_readSpan_4 ⟨by decide, by decide⟩ (by decide) ?_
  refine z_iconst dX8_readSpan_7 ⟨by decide, by decide⟩ ?_
  refine z_callVi (n2 := 93) (A_X8_takeNumber l g M (-9999) 9999 1 _ _ (s) (hQ) (hS) (hn) (by omega)) cb_X8_takeNumber cl_X8_238 (clr0 rfl rfl (by decide) (by decide)) rfl (by decide) ⟨_, rfl, rfl⟩ rfl (by decide) rfl (Nat.le_of_ble_eq_true rfl) rfl dX8_readSpan_8 (fun x1 Mz1 bx1 kMz1 hc1 => ?_)
  have p1 := hc1
  refine z_istore_n (loc2 := [fr 60, fi k, fi x1, fu, fu]) dX8_readSpan_11 (by decide) rfl ?_
  refine z_aload_nr dX8_readSpan_12 rfl ?_
  refine z_callVi (n2 := 93) (A_X8_takeTo l g Mz1 _ _ ((opN t n 1 (-9999) 9999 s)) (p1.2.1) (opN_ok hS) (hn)) cb_X8_takeTo cl_X8_242 (clr0 rfl rfl (by decide) (by decide)) rfl (by decide) ⟨_, rfl, rfl⟩ rfl (by decide) rfl (Nat.le_of_ble_eq_true rfl) rfl dX8_readSpan_13 (fun x2 Mz2 bx2 kMz2 hc2 => ?_)
  have p2 := hc2
  refine z_istore_n (loc2 := [fr 60, fi k, fi x1, fi x2, fu]) dX8_readSpan_16 (by decide) rfl ?_
  refine z_aload_nr dX8_readSpan_17 rfl ?_
  refine z_iload_n dX8_readSpan_18 rfl ?_
  refine z_sipush dX8_readSpan_19 ⟨by decide, by decide⟩ (by decide) ?_
  refine z_iconst dX8_readSpan_22 ⟨by decide, by decide⟩ ?_
  refine z_callVi (n2 := 93) (A_X8_takeNumber l g Mz2 x1 9999 1 _ _ ((opW t n 6 (opN t n 1 (-9999) 9999 s))) (p2.2) (opW_ok (by decide) (opN_ok hS)) (hn) (by omega)) cb_X8_takeNumber cl_X8_238 (clr0 rfl rfl (by decide) (by decide)) rfl (by decide) ⟨_, rfl, rfl⟩ rfl (by decide) rfl (Nat.le_of_ble_eq_true rfl) rfl dX8_readSpan_23 (fun x3 Mz3 bx3 kMz3 hc3 => ?_)
  have p3 := hc3
  have heq : opN t n 1 x1 9999 (opW t n 6 (opN t n 1 (-9999) 9999 s)) = srT t n s := by
    unfold srT
    by_cases e : (opN t n 1 (-9999) 9999 s).1.1 = 0
    · unfold opT
      have hv := opN_v (t := t) (n := n) (sg := 1) (lo := -9999) (hi := 9999) (s := s) hS e
      have hw := (opW_v (t := t) (n := n) (j := 6) (s := (opN t n 1 (-9999) 9999 s))).1
      rw [p1.2.2 e, hw, hv.2.1, show s.2.1 + 1 - 1 = s.2.1 by omega]
    · rw [opW_f e, opN_f e, opT_f e]
  rw [heq] at p3
  refine z_istore (loc2 := [fr 60, fi k, fi x1, fi x2, fi x3]) dX8_readSpan_26 (by decide) rfl ?_
  refine z_aload_nr dX8_readSpan_28 rfl ?_
  refine z_getr (b := 80) fl_X8_68 rfl (by decide) rf_60_25 rfl dX8_readSpan_29 ?_
  refine z_iload_n dX8_readSpan_32 rfl ?_
  refine z_iload_n dX8_readSpan_33 rfl ?_
  refine z_iast rfl (by decide) (by omega) (by omega) dX8_readSpan_34 (fun Mz4 hMz4 => ?_)
  refine z_aload_nr dX8_readSpan_35 rfl ?_
  refine z_getr (b := 80) fl_X8_68 rfl (by decide) rf_60_25 rfl dX8_readSpan_36 ?_
  refine z_iload_n dX8_readSpan_39 rfl ?_
  refine z_iconst dX8_readSpan_40 ⟨by decide, by decide⟩ ?_
  first | refine z_iaddN dX8_readSpan_41 (by omega) (fun x5 hx5 => ?_) | refine z_iadd dX8_readSpan_41 (fun x5 hx5 => ?_)
  have hx41 : x5 = k + 1 := by omega
  refine z_iload dX8_readSpan_42 rfl ?_
  refine z_iast rfl (by decide) (by omega) (by omega) dX8_readSpan_44 (fun Mz6 hMz6 => ?_)
  refine z_vret rfl (by decide) rfl (Nat.sub_self _) dX8_readSpan_45 ?_
  refine ⟨fun b j q1 q2 => ?_, ?_, fun hz j => ?_⟩
  · rw [hMz6, hMz4, st_cell q1, st_cell q1, p3.1 b j q2, p2.1 b j q2]; exact p1.1 b j q2
  · refine ⟨?_, ?_, p3.2.1.2.2.1, fun z => ?_, fun z => ?_⟩
    · rw [← p3.2.1.1]
      funext i
      show Mz6 85 i = _
      rw [hMz6, hMz4, st_cell (by decide), st_cell (by decide)]
    · rw [hMz6, hMz4, st_cell (by decide), st_cell (by decide)]; exact p3.2.1.2.1
    · rw [hMz6, hMz4, st_cell (by decide), st_cell (by decide), st_cell (by decide), st_cell (by decide), st_cell (by decide), st_cell (by decide)]; exact p3.2.1.2.2.2.1 z
    · rw [hMz6, hMz4, st_cell (by decide), st_cell (by decide), st_cell (by decide), st_cell (by decide)]; exact p3.2.1.2.2.2.2 z
  · have hv := srT_v hS hz
    have hw := (opW_v (t := t) (n := n) (j := 6) (s := (opN t n 1 (-9999) 9999 s))).1
    have hb := p3.2.2 hz
    have ef : (opN t n 1 (-9999) 9999 s).1.1 = 0 := by
      apply Classical.byContradiction
      intro z
      have : srT t n s = (opN t n 1 (-9999) 9999 s) := by unfold srT; rw [opW_f z, opT_f z]
      rw [this] at hz
      exact z hz
    have ha := p1.2.2 ef
    have hvn := opN_v (t := t) (n := n) (sg := 1) (lo := -9999) (hi := 9999) (s := s) hS ef
    rw [hw, hvn.2.1] at hb
    rw [hMz6, hMz4, st_at, st_at]
    rw [hx41, hb, ha, hv.2.2.1]
    split
    · rfl
    · split
      · rfl
      · rw [p3.1 80 j (by omega), p2.1 80 j (by omega)]; exact p1.1 80 j (by omega)
