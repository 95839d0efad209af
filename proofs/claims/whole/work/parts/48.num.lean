/-! ===== numbers and words of the reader ===== -/
set_option maxHeartbeats 400000 in
theorem A_X2_readFigures (l : Launch) (g : Cx) (M : FMem) (start lo hi : Int) (h0 : 0 ≤ M 17 4 ∧ M 17 4 ≤ M 17 1) (hn : M 17 1 ≤ 240) (hc : 0 ≤ M 17 6 ∧ M 17 6 < 5) : AMi l g true fi_X2_readFigures [fr 17, fi start, fi lo, fi hi] 93 M (fun r M2 => (r = 1 ∧ (opF (tx M) (M 17 1) start (M 17 4) lo hi).1.1 = 0 ∧ M2 = st (st (st M 17 4 (opF (tx M) (M 17 1) start (M 17 4) lo hi).1.2.2) 19 (M 17 6) (opF (tx M) (M 17 1) start (M 17 4) lo hi).2) 17 6 (M 17 6 + 1)) ∨ (r = 0 ∧ (opF (tx M) (M 17 1) start (M 17 4) lo hi).1.1 ≠ 0 ∧ offR M M2 ∧ M2 17 2 = (opF (tx M) (M 17 1) start (M 17 4) lo hi).1.1 ∧ M2 17 3 = (opF (tx M) (M 17 1) start (M 17 4) lo hi).1.2.1)) := by
  refine AMi_intro [fr 17, fi start, fi lo, fi hi, fu, fu, fu] (by decide) (knall rfl) (Nat.le_of_ble_eq_true rfl) rfl ?_
  intro hNV hM0 μ
  have bstart : N32 start := hNV (fi start) (by simp)
  have blo : N32 lo := hNV (fi lo) (by simp)
  have bhi : N32 hi := hNV (fi hi) (by simp)
  have lp45 : ∀ (kq : Nat) (sg cz vz : Int) (M1 : FMem), (240 - M 17 4 - cz).toNat = kq → ((start < M 17 4 ∧ sg = -1) ∨ (¬ start < M 17 4 ∧ sg = 1)) → (0 ≤ cz ∧ M 17 4 + cz ≤ M 17 1) → (M1 = st M 17 4 (M 17 4 + cz)) → (∀ j, M 17 4 ≤ j → j < M 17 4 + cz → 48 ≤ M 18 j ∧ M 18 j ≤ 57) → (0 ≤ vz ∧ vz ≤ 99999 ∧ (cz ≤ 5 → vz = dv (tx M) (M 17 4) cz.toNat)) → (M 17 4 < M 17 1 ∧ 48 ≤ M 18 (M 17 4) ∧ M 18 (M 17 4) ≤ 57) → Wa l g true fi_X2_readFigures 93 μ (Zi g true fi_X2_readFigures 93 μ (fun r M2 => (r = 1 ∧ (opF (tx M) (M 17 1) start (M 17 4) lo hi).1.1 = 0 ∧ M2 = st (st (st M 17 4 (opF (tx M) (M 17 1) start (M 17 4) lo hi).1.2.2) 19 (M 17 6) (opF (tx M) (M 17 1) start (M 17 4) lo hi).2) 17 6 (M 17 6 + 1)) ∨ (r = 0 ∧ (opF (tx M) (M 17 1) start (M 17 4) lo hi).1.1 ≠ 0 ∧ offR M M2 ∧ M2 17 2 = (opF (tx M) (M 17 1) start (M 17 4) lo hi).1.1 ∧ M2 17 3 = (opF (tx M) (M 17 1) start (M 17 4) lo hi).1.2.1))) 45 [] [fr 17, fi start, fi lo, fi hi, fi sg, fi cz, fi vz] 93 M1 := by
    intro kq
    induction kq using Nat.strongRecOn with
    | _ kq ih45 =>
    intro sg cz vz M1 hk45 hsg h1 h2 h3 h4 h5
    have e1 : M1 17 4 = M 17 4 + cz := by rw [h2]; exact st_same _ _ _ _
    have e2 : M1 17 1 = M 17 1 := by rw [h2, st_at, if_neg (by decide)]
    have e3 : ∀ i, M1 18 i = M 18 i := fun i => by rw [h2, st_cell (by decide)]
    have e6 : M1 17 6 = M 17 6 := by rw [h2, st_at, if_neg (by decide)]
    have e7 : cz = 0 → M 18 (M 17 4 + cz) = M 18 (M 17 4) := fun e => by rw [e, Int.add_zero]
    refine z_aload_nr dX2_readFigures_45 rfl ?_
    refine z_geti (kz := 4) fl_X2_25 rfl (by decide) rfl dX2_readFigures_46 (fun x1 hx1 bx1 => ?_)
    refine z_aload_nr dX2_readFigures_49 rfl ?_
    refine z_geti (kz := 1) fl_X2_15 rfl (by decide) rfl dX2_readFigures_50 (fun x2 hx2 bx2 => ?_)
    refine z_icmp_ge (tgt := 113) dX2_readFigures_53 (by decide) (fun c3 => ?_) (fun c3 => ?_)
    · have hrun : rn (isD (tx M)) (M 17 1) (M 17 4) = M 17 4 + cz := rn_uq (by omega) (fun jz a b => ⟨by omega, isD_i.mpr (h3 jz a b)⟩) (fun z => by have hq := isD_i.mp z.2; have hq2 : 48 ≤ M 18 (M 17 4 + cz) ∧ M 18 (M 17 4 + cz) ≤ 57 := hq; omega)
      have hcz : 1 ≤ cz := by omega
      have hnv : cz ≤ 5 → nvl (tx M) (M 17 1) start (M 17 4) = sg * vz := by
        intro e
        unfold nvl
        rw [hrun, h4.2.2 e, show M 17 4 + cz - M 17 4 = cz by omega]
        rcases hsg with hz | hz
        · rw [if_pos hz.1, hz.2]
        · rw [if_neg hz.1, hz.2]
      refine z_iload dX2_readFigures_113 rfl ?_
      refine z_iconst dX2_readFigures_115 ⟨by decide, by decide⟩ ?_
      refine z_icmp_gt (tgt := 132) dX2_readFigures_116 (by decide) (fun c4 => ?_) (fun c4 => ?_)
      · refine z_aload_nr dX2_readFigures_132 rfl ?_
        refine z_iconst dX2_readFigures_133 ⟨by decide, by decide⟩ ?_
        refine z_iload_n dX2_readFigures_134 rfl ?_
        refine z_callVi (n2 := 93) (A_X2_fail l g M1 2 start) cb_X2_fail cl_X2_64 (clr0 rfl rfl (by decide) (by decide)) rfl (by decide) ⟨_, rfl, rfl⟩ rfl (by decide) rfl (Nat.le_of_ble_eq_true rfl) rfl dX2_readFigures_135 (fun x5 Mz5 bx5 kMz5 hc5 => ?_)
        have hfl := hc5
        refine z_zret rfl (by omega) (by decide) rfl (Nat.sub_self _) dX2_readFigures_138 ?_
        have hop : opF (tx M) (M 17 1) start (M 17 4) lo hi = ((2, start, 0), 0) := by
          unfold opF
          rw [if_neg (by omega), if_pos]
          first
          | (left; omega)
          | (right; rw [hnv (by omega)]; omega)
        refine Or.inr ⟨hfl.1, by rw [hop]; exact (by decide : (2 : Int) ≠ 0), ?_, ?_, ?_⟩
        · rw [hfl.2, h2]; exact offR_st (offR_st (offR_st (offR_rfl M) (by omega)) (by omega)) (by omega)
        · rw [hfl.2, st_at, if_neg (by decide), st_same, hop]
        · rw [hfl.2, st_same, hop]
      · refine z_iload dX2_readFigures_119 rfl ?_
        refine z_iload dX2_readFigures_121 rfl ?_
        refine z_imulN dX2_readFigures_123 (by rcases hsg with hz | hz <;> rw [hz.2] <;> omega) (fun x6 hx6 => ?_)
        refine z_iload_n dX2_readFigures_124 rfl ?_
        refine z_iload_n dX2_readFigures_125 rfl ?_
        refine z_callSip (n2 := 93) (A_X7_isFrom l g M1 x6 lo hi) cb_X7_isFrom cl_X2_164 (clr0 rfl rfl (by decide) (by decide)) rfl (by decide) rfl (Nat.le_of_ble_eq_true rfl) rfl dX2_readFigures_126 (fun x7 bx7 hx7 => ?_)
        have i7 := if01 hx7
        refine z_if_ne (tgt := 139) dX2_readFigures_129 (by decide) (fun c8 => ?_) (fun c8 => ?_)
        · refine z_aload_nr dX2_readFigures_139 rfl ?_
          refine z_iload dX2_readFigures_140 rfl ?_
          refine z_iload dX2_readFigures_142 rfl ?_
          refine z_imulN dX2_readFigures_144 (by rcases hsg with hz | hz <;> rw [hz.2] <;> omega) (fun x9 hx9 => ?_)
          have hkv := hx9
          refine z_callVv (n2 := 93) (A_X2_keep l g M1 x9 (by omega)) cb_X2_keep cl_X2_167 (clr0 rfl rfl (by decide) (by decide)) rfl (by decide) ⟨_, rfl, rfl⟩ rfl (by decide) rfl (Nat.le_of_ble_eq_true rfl) rfl dX2_readFigures_145 (fun Mz10 kMz10 hc10 => ?_)
          have hke := hc10
          refine z_iconst dX2_readFigures_148 ⟨by decide, by decide⟩ ?_
          refine z_zret rfl (by omega) (by decide) rfl (Nat.sub_self _) dX2_readFigures_149 ?_
          have hop : opF (tx M) (M 17 1) start (M 17 4) lo hi = ((0, 0, M 17 4 + cz), sg * vz) := by
            unfold opF
            rw [if_neg (by omega), if_neg, hrun, hnv (by omega)]
            rintro (z | z)
            · omega
            · rw [hnv (by omega)] at z; omega
          refine Or.inl ⟨rfl, by rw [hop], ?_⟩
          rw [hop, hke, e6, hkv, h2]
        · refine z_aload_nr dX2_readFigures_132 rfl ?_
          refine z_iconst dX2_readFigures_133 ⟨by decide, by decide⟩ ?_
          refine z_iload_n dX2_readFigures_134 rfl ?_
          refine z_callVi (n2 := 93) (A_X2_fail l g M1 2 start) cb_X2_fail cl_X2_64 (clr0 rfl rfl (by decide) (by decide)) rfl (by decide) ⟨_, rfl, rfl⟩ rfl (by decide) rfl (Nat.le_of_ble_eq_true rfl) rfl dX2_readFigures_135 (fun x11 Mz11 bx11 kMz11 hc11 => ?_)
          have hfl := hc11
          refine z_zret rfl (by omega) (by decide) rfl (Nat.sub_self _) dX2_readFigures_138 ?_
          have hop : opF (tx M) (M 17 1) start (M 17 4) lo hi = ((2, start, 0), 0) := by
            unfold opF
            rw [if_neg (by omega), if_pos]
            first
            | (left; omega)
            | (right; rw [hnv (by omega)]; omega)
          refine Or.inr ⟨hfl.1, by rw [hop]; exact (by decide : (2 : Int) ≠ 0), ?_, ?_, ?_⟩
          · rw [hfl.2, h2]; exact offR_st (offR_st (offR_st (offR_rfl M) (by omega)) (by omega)) (by omega)
          · rw [hfl.2, st_at, if_neg (by decide), st_same, hop]
          · rw [hfl.2, st_same, hop]
    · refine z_aload_nr dX2_readFigures_56 rfl ?_
      refine z_getr (b := 18) fl_X2_11 rfl (by decide) rf_17_0 rfl dX2_readFigures_57 ?_
      refine z_aload_nr dX2_readFigures_60 rfl ?_
      refine z_geti (kz := 4) fl_X2_25 rfl (by decide) rfl dX2_readFigures_61 (fun x12 hx12 bx12 => ?_)
      have ep : x12 = M 17 4 + cz := by omega
      refine z_iald rfl (by decide) (by omega) (by omega) dX2_readFigures_64 (fun x13 hx13 bx13 => ?_)
      have hb64 : x13 = M 18 (M 17 4 + cz) := by rw [hx13, ep, e3]
      refine z_callSip (n2 := 93) (A_X2_isFigure l g M1 x13) cb_X2_isFigure cl_X2_161 (clr0 rfl rfl (by decide) (by decide)) rfl (by decide) rfl (Nat.le_of_ble_eq_true rfl) rfl dX2_readFigures_65 (fun x14 bx14 hx14 => ?_)
      have i14 := if01 hx14
      refine z_if_eq (tgt := 113) dX2_readFigures_68 (by decide) (fun c15 => ?_) (fun c15 => ?_)
      · have hrun : rn (isD (tx M)) (M 17 1) (M 17 4) = M 17 4 + cz := rn_uq (by omega) (fun jz a b => ⟨by omega, isD_i.mpr (h3 jz a b)⟩) (fun z => by have hq := isD_i.mp z.2; have hq2 : 48 ≤ M 18 (M 17 4 + cz) ∧ M 18 (M 17 4 + cz) ≤ 57 := hq; omega)
        have hcz : 1 ≤ cz := by omega
        have hnv : cz ≤ 5 → nvl (tx M) (M 17 1) start (M 17 4) = sg * vz := by
          intro e
          unfold nvl
          rw [hrun, h4.2.2 e, show M 17 4 + cz - M 17 4 = cz by omega]
          rcases hsg with hz | hz
          · rw [if_pos hz.1, hz.2]
          · rw [if_neg hz.1, hz.2]
        refine z_iload dX2_readFigures_113 rfl ?_
        refine z_iconst dX2_readFigures_115 ⟨by decide, by decide⟩ ?_
        refine z_icmp_gt (tgt := 132) dX2_readFigures_116 (by decide) (fun c16 => ?_) (fun c16 => ?_)
        · refine z_aload_nr dX2_readFigures_132 rfl ?_
          refine z_iconst dX2_readFigures_133 ⟨by decide, by decide⟩ ?_
          refine z_iload_n dX2_readFigures_134 rfl ?_
          refine z_callVi (n2 := 93) (A_X2_fail l g M1 2 start) cb_X2_fail cl_X2_64 (clr0 rfl rfl (by decide) (by decide)) rfl (by decide) ⟨_, rfl, rfl⟩ rfl (by decide) rfl (Nat.le_of_ble_eq_true rfl) rfl dX2_readFigures_135 (fun x17 Mz17 bx17 kMz17 hc17 => ?_)
          have hfl := hc17
          refine z_zret rfl (by omega) (by decide) rfl (Nat.sub_self _) dX2_readFigures_138 ?_
          have hop : opF (tx M) (M 17 1) start (M 17 4) lo hi = ((2, start, 0), 0) := by
            unfold opF
            rw [if_neg (by omega), if_pos]
            first
            | (left; omega)
            | (right; rw [hnv (by omega)]; omega)
          refine Or.inr ⟨hfl.1, by rw [hop]; exact (by decide : (2 : Int) ≠ 0), ?_, ?_, ?_⟩
          · rw [hfl.2, h2]; exact offR_st (offR_st (offR_st (offR_rfl M) (by omega)) (by omega)) (by omega)
          · rw [hfl.2, st_at, if_neg (by decide), st_same, hop]
          · rw [hfl.2, st_same, hop]
        · refine z_iload dX2_readFigures_119 rfl ?_
          refine z_iload dX2_readFigures_121 rfl ?_
          refine z_imulN dX2_readFigures_123 (by rcases hsg with hz | hz <;> rw [hz.2] <;> omega) (fun x18 hx18 => ?_)
          refine z_iload_n dX2_readFigures_124 rfl ?_
          refine z_iload_n dX2_readFigures_125 rfl ?_
          refine z_callSip (n2 := 93) (A_X7_isFrom l g M1 x18 lo hi) cb_X7_isFrom cl_X2_164 (clr0 rfl rfl (by decide) (by decide)) rfl (by decide) rfl (Nat.le_of_ble_eq_true rfl) rfl dX2_readFigures_126 (fun x19 bx19 hx19 => ?_)
          have i19 := if01 hx19
          refine z_if_ne (tgt := 139) dX2_readFigures_129 (by decide) (fun c20 => ?_) (fun c20 => ?_)
          · refine z_aload_nr dX2_readFigures_139 rfl ?_
            refine z_iload dX2_readFigures_140 rfl ?_
            refine z_iload dX2_readFigures_142 rfl ?_
            refine z_imulN dX2_readFigures_144 (by rcases hsg with hz | hz <;> rw [hz.2] <;> omega) (fun x21 hx21 => ?_)
            have hkv := hx21
            refine z_callVv (n2 := 93) (A_X2_keep l g M1 x21 (by omega)) cb_X2_keep cl_X2_167 (clr0 rfl rfl (by decide) (by decide)) rfl (by decide) ⟨_, rfl, rfl⟩ rfl (by decide) rfl (Nat.le_of_ble_eq_true rfl) rfl dX2_readFigures_145 (fun Mz22 kMz22 hc22 => ?_)
            have hke := hc22
            refine z_iconst dX2_readFigures_148 ⟨by decide, by decide⟩ ?_
            refine z_zret rfl (by omega) (by decide) rfl (Nat.sub_self _) dX2_readFigures_149 ?_
            have hop : opF (tx M) (M 17 1) start (M 17 4) lo hi = ((0, 0, M 17 4 + cz), sg * vz) := by
              unfold opF
              rw [if_neg (by omega), if_neg, hrun, hnv (by omega)]
              rintro (z | z)
              · omega
              · rw [hnv (by omega)] at z; omega
            refine Or.inl ⟨rfl, by rw [hop], ?_⟩
            rw [hop, hke, e6, hkv, h2]
          · refine z_aload_nr dX2_readFigures_132 rfl ?_
            refine z_iconst dX2_readFigures_133 ⟨by decide, by decide⟩ ?_
            refine z_iload_n dX2_readFigures_134 rfl ?_
            refine z_callVi (n2 := 93) (A_X2_fail l g M1 2 start) cb_X2_fail cl_X2_64 (clr0 rfl rfl (by decide) (by decide)) rfl (by decide) ⟨_, rfl, rfl⟩ rfl (by decide) rfl (Nat.le_of_ble_eq_true rfl) rfl dX2_readFigures_135 (fun x23 Mz23 bx23 kMz23 hc23 => ?_)
            have hfl := hc23
            refine z_zret rfl (by omega) (by decide) rfl (Nat.sub_self _) dX2_readFigures_138 ?_
            have hop : opF (tx M) (M 17 1) start (M 17 4) lo hi = ((2, start, 0), 0) := by
              unfold opF
              rw [if_neg (by omega), if_pos]
              first
              | (left; omega)
              | (right; rw [hnv (by omega)]; omega)
            refine Or.inr ⟨hfl.1, by rw [hop]; exact (by decide : (2 : Int) ≠ 0), ?_, ?_, ?_⟩
            · rw [hfl.2, h2]; exact offR_st (offR_st (offR_st (offR_rfl M) (by omega)) (by omega)) (by omega)
            · rw [hfl.2, st_at, if_neg (by decide), st_same, hop]
            · rw [hfl.2, st_same, hop]
      · refine z_iinc (loc2 := fun vq => [fr 17, fi start, fi lo, fi hi, fi sg, fi vq, fi vz]) dX2_readFigures_71 rfl (by decide) (by omega) (fun _ => rfl) (fun x24 hx24 => ?_)
        refine z_iload dX2_readFigures_74 rfl ?_
        refine z_iconst dX2_readFigures_76 ⟨by decide, by decide⟩ ?_
        refine z_icmp_gt (tgt := 100) dX2_readFigures_77 (by decide) (fun c25 => ?_) (fun c25 => ?_)
        · refine z_aload_nr dX2_readFigures_100 rfl ?_
          refine z_dup rfl dX2_readFigures_101 ?_
          refine z_geti (kz := 4) fl_X2_25 rfl (by decide) rfl dX2_readFigures_102 (fun x26 hx26 bx26 => ?_)
          refine z_iconst dX2_readFigures_105 ⟨by decide, by decide⟩ ?_
          first | refine z_iaddN dX2_readFigures_106 (by omega) (fun x27 hx27 => ?_) | refine z_iadd dX2_readFigures_106 (fun x27 hx27 => ?_)
          refine z_puti (kz := 4) fl_X2_25 rfl (by decide) rfl nr_17_4 dX2_readFigures_107 (fun Mz28 hMz28 => ?_)
          refine z_goto (tgt := 45) dX2_readFigures_110 (by decide) ?_
          have g3 : ∀ j, M 17 4 ≤ j → j < M 17 4 + (cz + 1) → 48 ≤ M 18 j ∧ M 18 j ≤ 57 := by
            intro jz a b
            by_cases e : jz = M 17 4 + cz
            · rw [e]; omega
            · exact h3 jz a (by omega)
          have g4 : 0 ≤ vz ∧ vz ≤ 99999 ∧ (cz + 1 ≤ 5 → vz = dv (tx M) (M 17 4) (cz + 1).toNat) := by
            by_cases e : cz + 1 ≤ 5
            · have hq := h4.2.2 (by omega)
              have hd : dv (tx M) (M 17 4) (cz + 1).toNat = 10 * dv (tx M) (M 17 4) cz.toNat + (M 18 (M 17 4 + cz) - 48) := by
                rw [show (cz + 1).toNat = cz.toNat + 1 by omega]
                show 10 * dv (tx M) (M 17 4) cz.toNat + (M 18 (M 17 4 + (cz.toNat : Int)) - 48) = _
                rw [Int.toNat_of_nonneg h1.1]
              have h5b := dv_5 (t := tx M) (p := M 17 4) (k := (cz + 1).toNat) (by omega) (fun j a b => g3 j a (by omega))
              rw [hd] at h5b ⊢
              refine ⟨by omega, by omega, fun _ => by omega⟩
            · exact ⟨by omega, by omega, fun z => absurd z e⟩
          exact ih45 _ (by omega) sg x24 vz Mz28 rfl (hsg) (by omega) (by rw [hMz28, h2, st_st]; congr 1; omega) (by rw [hx24]; exact g3) (by rw [hx24]; exact g4) (h5)
        · refine z_bipush dX2_readFigures_80 ⟨by decide, by decide⟩ (by decide) ?_
          refine z_iload dX2_readFigures_82 rfl ?_
          first | refine z_imulN dX2_readFigures_84 (by omega) (fun x29 hx29 => ?_) | refine z_imul dX2_readFigures_84 (fun x29 hx29 => ?_)
          refine z_aload_nr dX2_readFigures_85 rfl ?_
          refine z_getr (b := 18) fl_X2_11 rfl (by decide) rf_17_0 rfl dX2_readFigures_86 ?_
          refine z_aload_nr dX2_readFigures_89 rfl ?_
          refine z_geti (kz := 4) fl_X2_25 rfl (by decide) rfl dX2_readFigures_90 (fun x30 hx30 bx30 => ?_)
          have ep2 : x30 = M 17 4 + cz := by omega
          refine z_iald rfl (by decide) (by omega) (by omega) dX2_readFigures_93 (fun x31 hx31 bx31 => ?_)
          have hb93 : x31 = M 18 (M 17 4 + cz) := by rw [hx31, ep2, e3]
          first | refine z_iaddN dX2_readFigures_94 (by omega) (fun x32 hx32 => ?_) | refine z_iadd dX2_readFigures_94 (fun x32 hx32 => ?_)
          refine z_bipush dX2_readFigures_95 ⟨by decide, by decide⟩ (by decide) ?_
          first | refine z_isubN dX2_readFigures_97 (by omega) (fun x33 hx33 => ?_) | refine z_isub dX2_readFigures_97 (fun x33 hx33 => ?_)
          refine z_istore (loc2 := [fr 17, fi start, fi lo, fi hi, fi sg, fi x24, fi x33]) dX2_readFigures_98 (by decide) rfl ?_
          refine z_aload_nr dX2_readFigures_100 rfl ?_
          refine z_dup rfl dX2_readFigures_101 ?_
          refine z_geti (kz := 4) fl_X2_25 rfl (by decide) rfl dX2_readFigures_102 (fun x34 hx34 bx34 => ?_)
          refine z_iconst dX2_readFigures_105 ⟨by decide, by decide⟩ ?_
          first | refine z_iaddN dX2_readFigures_106 (by omega) (fun x35 hx35 => ?_) | refine z_iadd dX2_readFigures_106 (fun x35 hx35 => ?_)
          refine z_puti (kz := 4) fl_X2_25 rfl (by decide) rfl nr_17_4 dX2_readFigures_107 (fun Mz36 hMz36 => ?_)
          refine z_goto (tgt := 45) dX2_readFigures_110 (by decide) ?_
          have g3 : ∀ j, M 17 4 ≤ j → j < M 17 4 + (cz + 1) → 48 ≤ M 18 j ∧ M 18 j ≤ 57 := by
            intro jz a b
            by_cases e : jz = M 17 4 + cz
            · rw [e]; omega
            · exact h3 jz a (by omega)
          have g4 : 0 ≤ x33 ∧ x33 ≤ 99999 ∧ (cz + 1 ≤ 5 → x33 = dv (tx M) (M 17 4) (cz + 1).toNat) := by
            by_cases e : cz + 1 ≤ 5
            · have hq := h4.2.2 (by omega)
              have hd : dv (tx M) (M 17 4) (cz + 1).toNat = 10 * dv (tx M) (M 17 4) cz.toNat + (M 18 (M 17 4 + cz) - 48) := by
                rw [show (cz + 1).toNat = cz.toNat + 1 by omega]
                show 10 * dv (tx M) (M 17 4) cz.toNat + (M 18 (M 17 4 + (cz.toNat : Int)) - 48) = _
                rw [Int.toNat_of_nonneg h1.1]
              have h5b := dv_5 (t := tx M) (p := M 17 4) (k := (cz + 1).toNat) (by omega) (fun j a b => g3 j a (by omega))
              rw [hd] at h5b ⊢
              refine ⟨by omega, by omega, fun _ => by omega⟩
            · exact ⟨by omega, by omega, fun z => absurd z e⟩
          exact ih45 _ (by omega) sg x24 x33 Mz36 rfl (hsg) (by omega) (by rw [hMz36, h2, st_st]; congr 1; omega) (by rw [hx24]; exact g3) (by rw [hx24]; exact g4) (h5)
  refine z_aload_nr dX2_readFigures_0 rfl ?_
  refine z_aload_nr dX2_readFigures_1 rfl ?_
  refine z_geti (kz := 4) fl_X2_25 rfl (by decide) rfl dX2_readFigures_2 (fun x37 hx37 bx37 => ?_)
  have epl : x37 = M 17 4 := by omega
  refine z_callVip (n2 := 93) (A_X2_byteAt l g M x37 (hn)) cb_X2_byteAt cl_X2_141 (clr0 rfl rfl (by decide) (by decide)) rfl (by decide) ⟨_, rfl, rfl⟩ rfl (by decide) rfl (Nat.le_of_ble_eq_true rfl) rfl dX2_readFigures_5 (fun x38 bx38 hx38 => ?_)
  have hby := hx38
  refine z_callSip (n2 := 93) (A_X2_isFigure l g M x38) cb_X2_isFigure cl_X2_161 (clr0 rfl rfl (by decide) (by decide)) rfl (by decide) rfl (Nat.le_of_ble_eq_true rfl) rfl dX2_readFigures_8 (fun x39 bx39 hx39 => ?_)
  have i39 := if01 hx39
  refine z_if_ne (tgt := 24) dX2_readFigures_11 (by decide) (fun c40 => ?_) (fun c40 => ?_)
  · refine z_iload_n dX2_readFigures_24 rfl ?_
    refine z_aload_nr dX2_readFigures_25 rfl ?_
    refine z_geti (kz := 4) fl_X2_25 rfl (by decide) rfl dX2_readFigures_26 (fun x41 hx41 bx41 => ?_)
    refine z_icmp_ge (tgt := 36) dX2_readFigures_29 (by decide) (fun c42 => ?_) (fun c42 => ?_)
    · refine z_iconst dX2_readFigures_36 ⟨by decide, by decide⟩ ?_
      refine z_istore (loc2 := [fr 17, fi start, fi lo, fi hi, fi 1, fu, fu]) dX2_readFigures_37 (by decide) rfl ?_
      refine z_iconst dX2_readFigures_39 ⟨by decide, by decide⟩ ?_
      refine z_istore (loc2 := [fr 17, fi start, fi lo, fi hi, fi 1, fi 0, fu]) dX2_readFigures_40 (by decide) rfl ?_
      refine z_iconst dX2_readFigures_42 ⟨by decide, by decide⟩ ?_
      refine z_istore (loc2 := [fr 17, fi start, fi lo, fi hi, fi 1, fi 0, fi 0]) dX2_readFigures_43 (by decide) rfl ?_
      have hdg : M 17 4 < M 17 1 ∧ 48 ≤ M 18 (M 17 4) ∧ M 18 (M 17 4) ≤ 57 := by
        rw [epl] at hby
        split at hby <;> omega
      exact lp45 _ 1 0 0 M rfl (by omega) (by omega) (by rw [Int.add_zero]; exact (st_self rfl).symm) (fun j a b => by omega) (⟨by omega, by omega, fun _ => rfl⟩) (hdg)
    · refine z_iconst dX2_readFigures_32 ⟨by decide, by decide⟩ ?_
      refine z_goto (tgt := 37) dX2_readFigures_33 (by decide) ?_
      refine z_istore (loc2 := [fr 17, fi start, fi lo, fi hi, fi (-1), fu, fu]) dX2_readFigures_37 (by decide) rfl ?_
      refine z_iconst dX2_readFigures_39 ⟨by decide, by decide⟩ ?_
      refine z_istore (loc2 := [fr 17, fi start, fi lo, fi hi, fi (-1), fi 0, fu]) dX2_readFigures_40 (by decide) rfl ?_
      refine z_iconst dX2_readFigures_42 ⟨by decide, by decide⟩ ?_
      refine z_istore (loc2 := [fr 17, fi start, fi lo, fi hi, fi (-1), fi 0, fi 0]) dX2_readFigures_43 (by decide) rfl ?_
      have hdg : M 17 4 < M 17 1 ∧ 48 ≤ M 18 (M 17 4) ∧ M 18 (M 17 4) ≤ 57 := by
        rw [epl] at hby
        split at hby <;> omega
      exact lp45 _ (-1) 0 0 M rfl (by omega) (by omega) (by rw [Int.add_zero]; exact (st_self rfl).symm) (fun j a b => by omega) (⟨by omega, by omega, fun _ => rfl⟩) (hdg)
  · refine z_aload_nr dX2_readFigures_14 rfl ?_
    refine z_iconst dX2_readFigures_15 ⟨by decide, by decide⟩ ?_
    refine z_aload_nr dX2_readFigures_16 rfl ?_
    refine z_geti (kz := 4) fl_X2_25 rfl (by decide) rfl dX2_readFigures_17 (fun x43 hx43 bx43 => ?_)
    have epf : x43 = M 17 4 := by omega
    refine z_callVi (n2 := 93) (A_X2_fail l g M 1 x43) cb_X2_fail cl_X2_64 (clr0 rfl rfl (by decide) (by decide)) rfl (by decide) ⟨_, rfl, rfl⟩ rfl (by decide) rfl (Nat.le_of_ble_eq_true rfl) rfl dX2_readFigures_20 (fun x44 Mz44 bx44 kMz44 hc44 => ?_)
    have hfl := hc44
    refine z_zret rfl (by omega) (by decide) rfl (Nat.sub_self _) dX2_readFigures_23 ?_
    have hop : opF (tx M) (M 17 1) start (M 17 4) lo hi = ((1, M 17 4, 0), 0) := by
      unfold opF
      rw [if_pos]
      refine rn_no (fun z => ?_)
      have hq := isD_i.mp z.2
      have hq2 : 48 ≤ M 18 (M 17 4) ∧ M 18 (M 17 4) ≤ 57 := hq
      rw [epl, if_pos (by omega)] at hby
      omega
    refine Or.inr ⟨hfl.1, by rw [hop]; exact (by decide : (1 : Int) ≠ 0), ?_, ?_, ?_⟩
    · rw [hfl.2]; exact offR_st (offR_st (offR_rfl M) (by omega)) (by omega)
    · rw [hfl.2, st_at, if_neg (by decide), st_same, hop]
    · rw [hfl.2, st_same, hop, epf]
theorem Rs_num {M0 M Ms M2 : FMem} {s : PS} {F : PR × Int} {q : Int} (h : Rs M0 s M) (hf : s.1.1 = 0) (hMs : Ms = st M 17 4 q) (hF : F.1.1 = 0) (hM2 : M2 = st (st (st Ms 17 4 F.1.2.2) 19 (Ms 17 6) F.2) 17 6 (Ms 17 6 + 1)) : Rs M0 (opK F s) M2 := by
  have h1 := h.2.1 hf
  have e6 : Ms 17 6 = s.2.1 := by rw [hMs, st_at, if_neg (by decide)]; exact h1.2.2.2.1
  rw [e6, hMs, st_st] at hM2
  rw [hM2]
  refine ⟨offR_st (offR_nu (offR_st h.1 (by omega))) (by omega), fun _ => ⟨?_, ?_, ?_, ?_, fun k k0 k1 => ?_⟩, fun z => absurd hF z⟩
  · rw [st_at, if_neg (by decide), st_cell (by decide), st_same]; rfl
  · rw [st_at, if_neg (by decide), st_cell (by decide), st_at, if_neg (by decide)]; exact h1.2.1
  · rw [st_at, if_neg (by decide), st_cell (by decide), st_at, if_neg (by decide)]; exact h1.2.2.1
  · rw [st_same]; unfold opK; simp only [hF, if_true]
  · unfold opK at k1 ⊢
    simp only [hF, if_true] at k1 ⊢
    rw [st_cell (by decide), st_at]
    by_cases e : k = s.2.1
    · rw [if_pos e, e, up_s]
    · rw [if_neg e, up_n e, st_cell (by decide)]
      exact h1.2.2.2.2 k k0 (by omega)
theorem Rs_numF {M0 M Ms M2 : FMem} {s : PS} {F : PR × Int} {q : Int} (h : Rs M0 s M) (hMs : Ms = st M 17 4 q) (hF : F.1.1 ≠ 0) (ho : offR Ms M2) (h2 : M2 17 2 = F.1.1) (h3 : M2 17 3 = F.1.2.1) : Rs M0 (opK F s) M2 := by
  refine ⟨offR_tr (offR_tr h.1 (by rw [hMs]; exact offR_st (offR_rfl M) (by omega))) ho, fun z => absurd z hF, fun _ => ⟨h2, h3⟩⟩
set_option maxHeartbeats 400000 in
theorem A_X2_readNumber (l : Launch) (g : Cx) (M : FMem) (lo hi : Int) (M0 : FMem) (s : PS) (hR : Rs M0 s M) (hf : s.1.1 = 0) (hS : SOk (M0 17 1) s) (hn : M0 17 1 ≤ 240) (hc : 0 ≤ s.2.1 ∧ s.2.1 < 5) : AMi l g true fi_X2_readNumber [fr 17, fi lo, fi hi] 93 M (fun r M2 => Rs M0 (opN (tx M0) (M0 17 1) 0 lo hi s) M2 ∧ ((r = 1 ∧ (opN (tx M0) (M0 17 1) 0 lo hi s).1.1 = 0) ∨ (r = 0 ∧ (opN (tx M0) (M0 17 1) 0 lo hi s).1.1 ≠ 0))) := by
  refine AMi_intro [fr 17, fi lo, fi hi] (by decide) (knall rfl) (Nat.le_of_ble_eq_true rfl) rfl ?_
  intro hNV hM0 μ
  have blo : N32 lo := hNV (fi lo) (by simp)
  have bhi : N32 hi := hNV (fi hi) (by simp)
  have hR1 := hR.2.1 hf
  have hof := offR_tx hR.1
  have hsp := hS hf
  have hsb := sk_b (t := tx M0) hsp.1 hsp.2
  refine z_aload_nr dX2_readNumber_0 rfl ?_
  refine z_callVv (n2 := 93) (A_X2_skipBlanks l g M (by omega) (by omega)) cb_X2_skipBlanks cl_X2_39 (clr0 rfl rfl (by decide) (by decide)) rfl (by decide) ⟨_, rfl, rfl⟩ rfl (by decide) rfl (Nat.le_of_ble_eq_true rfl) rfl dX2_readNumber_1 (fun Mz1 kMz1 hc1 => ?_)
  have hMs := hc1
  rw [hof.1, hof.2, hR1.1] at hMs
  have eat : Mz1 17 4 = sk (tx M0) (M0 17 1) s.1.2.2 := by rw [hMs]; exact st_same _ _ _ _
  have eln : Mz1 17 1 = M0 17 1 := by rw [hMs, st_at, if_neg (by decide)]; exact hof.2
  have etx : ∀ i, Mz1 18 i = M0 18 i := fun i => by rw [hMs, st_cell (by decide)]; exact congrFun hof.1 i
  have etf : tx Mz1 = tx M0 := funext etx
  have enu : Mz1 17 6 = s.2.1 := by rw [hMs, st_at, if_neg (by decide)]; exact hR1.2.2.2.1
  refine z_aload_nr dX2_readNumber_4 rfl ?_
  refine z_aload_nr dX2_readNumber_5 rfl ?_
  refine z_geti (kz := 4) fl_X2_25 rfl (by decide) rfl dX2_readNumber_6 (fun x2 hx2 bx2 => ?_)
  refine z_iload_n dX2_readNumber_9 rfl ?_
  refine z_iload_n dX2_readNumber_10 rfl ?_
  have epl : x2 = sk (tx M0) (M0 17 1) s.1.2.2 := by omega
  refine z_callVi (n2 := 93) (A_X2_readFigures l g Mz1 x2 lo hi (by omega) (by omega) (by omega)) cb_X2_readFigures cl_X2_157 (clr0 rfl rfl (by decide) (by decide)) rfl (by decide) ⟨_, rfl, rfl⟩ rfl (by decide) rfl (Nat.le_of_ble_eq_true rfl) rfl dX2_readNumber_11 (fun x3 Mz3 bx3 kMz3 hc3 => ?_)
  have hfg := hc3
  rw [etf, eln, eat, epl] at hfg
  refine z_zret rfl (by omega) (by decide) rfl (Nat.sub_self _) dX2_readNumber_14 ?_
  have hop : opN (tx M0) (M0 17 1) 0 lo hi s = opK (opF (tx M0) (M0 17 1) (sk (tx M0) (M0 17 1) s.1.2.2) (sk (tx M0) (M0 17 1) s.1.2.2) lo hi) s := by
    unfold opN
    rw [if_pos hf]
    rw [show sgn (tx M0) (M0 17 1) 0 (sk (tx M0) (M0 17 1) s.1.2.2) = (sk (tx M0) (M0 17 1) s.1.2.2) from if_neg (by omega)]
  rw [hop]
  rcases hfg with ⟨a, b, c⟩ | ⟨a, b, c, d, e⟩
  · exact ⟨Rs_num hR hf hMs b c, Or.inl ⟨a, b⟩⟩
  · exact ⟨Rs_numF hR hMs b c d e, Or.inr ⟨a, b⟩⟩
set_option maxHeartbeats 400000 in
theorem A_X2_readSigned (l : Launch) (g : Cx) (M : FMem) (lo hi : Int) (M0 : FMem) (s : PS) (hR : Rs M0 s M) (hf : s.1.1 = 0) (hS : SOk (M0 17 1) s) (hn : M0 17 1 ≤ 240) (hc : 0 ≤ s.2.1 ∧ s.2.1 < 5) : AMi l g true fi_X2_readSigned [fr 17, fi lo, fi hi] 93 M (fun r M2 => Rs M0 (opN (tx M0) (M0 17 1) 1 lo hi s) M2 ∧ ((r = 1 ∧ (opN (tx M0) (M0 17 1) 1 lo hi s).1.1 = 0) ∨ (r = 0 ∧ (opN (tx M0) (M0 17 1) 1 lo hi s).1.1 ≠ 0))) := by
  refine AMi_intro [fr 17, fi lo, fi hi, fu] (by decide) (knall rfl) (Nat.le_of_ble_eq_true rfl) rfl ?_
  intro hNV hM0 μ
  have blo : N32 lo := hNV (fi lo) (by simp)
  have bhi : N32 hi := hNV (fi hi) (by simp)
  have hR1 := hR.2.1 hf
  have hof := offR_tx hR.1
  have hsp := hS hf
  have hsb := sk_b (t := tx M0) hsp.1 hsp.2
  have hsg := sgn_b (t := tx M0) (sg := 1) hsb.1 hsb.2
  refine z_aload_nr dX2_readSigned_0 rfl ?_
  refine z_callVv (n2 := 93) (A_X2_skipBlanks l g M (by omega) (by omega)) cb_X2_skipBlanks cl_X2_39 (clr0 rfl rfl (by decide) (by decide)) rfl (by decide) ⟨_, rfl, rfl⟩ rfl (by decide) rfl (Nat.le_of_ble_eq_true rfl) rfl dX2_readSigned_1 (fun Mz1 kMz1 hc1 => ?_)
  have hMs := hc1
  rw [hof.1, hof.2, hR1.1] at hMs
  have eat : Mz1 17 4 = sk (tx M0) (M0 17 1) s.1.2.2 := by rw [hMs]; exact st_same _ _ _ _
  have eln : Mz1 17 1 = M0 17 1 := by rw [hMs, st_at, if_neg (by decide)]; exact hof.2
  have etx : ∀ i, Mz1 18 i = M0 18 i := fun i => by rw [hMs, st_cell (by decide)]; exact congrFun hof.1 i
  have etf : tx Mz1 = tx M0 := funext etx
  have enu : Mz1 17 6 = s.2.1 := by rw [hMs, st_at, if_neg (by decide)]; exact hR1.2.2.2.1
  refine z_aload_nr dX2_readSigned_4 rfl ?_
  refine z_geti (kz := 4) fl_X2_25 rfl (by decide) rfl dX2_readSigned_5 (fun x2 hx2 bx2 => ?_)
  refine z_istore_n (loc2 := [fr 17, fi lo, fi hi, fi x2]) dX2_readSigned_8 (by decide) rfl ?_
  refine z_aload_nr dX2_readSigned_9 rfl ?_
  refine z_aload_nr dX2_readSigned_10 rfl ?_
  refine z_geti (kz := 4) fl_X2_25 rfl (by decide) rfl dX2_readSigned_11 (fun x3 hx3 bx3 => ?_)
  have epb : x3 = (sk (tx M0) (M0 17 1) s.1.2.2) := by omega
  refine z_callVip (n2 := 93) (A_X2_byteAt l g Mz1 x3 (by omega)) cb_X2_byteAt cl_X2_141 (clr0 rfl rfl (by decide) (by decide)) rfl (by decide) ⟨_, rfl, rfl⟩ rfl (by decide) rfl (Nat.le_of_ble_eq_true rfl) rfl dX2_readSigned_14 (fun x4 bx4 hx4 => ?_)
  have hby := hx4
  rw [epb, eln, etx] at hby
  refine z_bipush dX2_readSigned_17 ⟨by decide, by decide⟩ (by decide) ?_
  refine z_icmp_ne (tgt := 32) dX2_readSigned_19 (by decide) (fun c5 => ?_) (fun c5 => ?_)
  · refine z_aload_nr dX2_readSigned_32 rfl ?_
    refine z_iload_n dX2_readSigned_33 rfl ?_
    refine z_iload_n dX2_readSigned_34 rfl ?_
    refine z_iload_n dX2_readSigned_35 rfl ?_
    have est : x2 = (sk (tx M0) (M0 17 1) s.1.2.2) := by omega
    have hMt : Mz1 = st M 17 4 (sgn (tx M0) (M0 17 1) 1 (sk (tx M0) (M0 17 1) s.1.2.2)) := by
      unfold sgn
      first
      | (rw [if_neg (fun z => by
            have hz : M0 18 (sk (tx M0) (M0 17 1) s.1.2.2) = 45 := z.2.2
            rw [if_pos (by omega)] at hby
            omega)]
         exact hMs)
      | (rw [if_pos ⟨rfl, by split at hby <;> omega, by show M0 18 (sk (tx M0) (M0 17 1) s.1.2.2) = 45; split at hby <;> omega⟩, hNONE, hMs, st_st]
         congr 1
         omega)
    have fat : Mz1 17 4 = sgn (tx M0) (M0 17 1) 1 (sk (tx M0) (M0 17 1) s.1.2.2) := by rw [hMt]; exact st_same _ _ _ _
    have fln : Mz1 17 1 = M0 17 1 := by rw [hMt, st_at, if_neg (by decide)]; exact hof.2
    have ftf : tx Mz1 = tx M0 := funext fun i => by show Mz1 18 i = _; rw [hMt, st_cell (by decide)]; exact congrFun hof.1 i
    have fnu : Mz1 17 6 = s.2.1 := by rw [hMt, st_at, if_neg (by decide)]; exact hR1.2.2.2.1
    refine z_callVi (n2 := 93) (A_X2_readFigures l g Mz1 x2 lo hi (by omega) (by omega) (by omega)) cb_X2_readFigures cl_X2_157 (clr0 rfl rfl (by decide) (by decide)) rfl (by decide) ⟨_, rfl, rfl⟩ rfl (by decide) rfl (Nat.le_of_ble_eq_true rfl) rfl dX2_readSigned_36 (fun x6 Mz6 bx6 kMz6 hc6 => ?_)
    have hfg := hc6
    rw [ftf, fln, fat, est] at hfg
    refine z_zret rfl (by omega) (by decide) rfl (Nat.sub_self _) dX2_readSigned_39 ?_
    have hop : opN (tx M0) (M0 17 1) 1 lo hi s = opK (opF (tx M0) (M0 17 1) (sk (tx M0) (M0 17 1) s.1.2.2) (sgn (tx M0) (M0 17 1) 1 (sk (tx M0) (M0 17 1) s.1.2.2)) lo hi) s := by
      unfold opN
      rw [if_pos hf]
    rw [hop]
    rcases hfg with ⟨a, b, c⟩ | ⟨a, b, c, d, e⟩
    · exact ⟨Rs_num hR hf hMt b c, Or.inl ⟨a, b⟩⟩
    · exact ⟨Rs_numF hR hMt b c d e, Or.inr ⟨a, b⟩⟩
  · refine z_aload_nr dX2_readSigned_22 rfl ?_
    refine z_dup rfl dX2_readSigned_23 ?_
    refine z_geti (kz := 4) fl_X2_25 rfl (by decide) rfl dX2_readSigned_24 (fun x7 hx7 bx7 => ?_)
    refine z_iconst dX2_readSigned_27 ⟨by decide, by decide⟩ ?_
    first | refine z_iaddN dX2_readSigned_28 (by omega) (fun x8 hx8 => ?_) | refine z_iadd dX2_readSigned_28 (fun x8 hx8 => ?_)
    refine z_puti (kz := 4) fl_X2_25 rfl (by decide) rfl nr_17_4 dX2_readSigned_29 (fun Mz9 hMz9 => ?_)
    refine z_aload_nr dX2_readSigned_32 rfl ?_
    refine z_iload_n dX2_readSigned_33 rfl ?_
    refine z_iload_n dX2_readSigned_34 rfl ?_
    refine z_iload_n dX2_readSigned_35 rfl ?_
    have est : x2 = (sk (tx M0) (M0 17 1) s.1.2.2) := by omega
    have hMt : Mz9 = st M 17 4 (sgn (tx M0) (M0 17 1) 1 (sk (tx M0) (M0 17 1) s.1.2.2)) := by
      unfold sgn
      first
      | (rw [if_neg (fun z => by
            have hz : M0 18 (sk (tx M0) (M0 17 1) s.1.2.2) = 45 := z.2.2
            rw [if_pos (by omega)] at hby
            omega)]
         exact hMs)
      | (rw [if_pos ⟨rfl, by split at hby <;> omega, by show M0 18 (sk (tx M0) (M0 17 1) s.1.2.2) = 45; split at hby <;> omega⟩, hMz9, hMs, st_st]
         congr 1
         omega)
    have fat : Mz9 17 4 = sgn (tx M0) (M0 17 1) 1 (sk (tx M0) (M0 17 1) s.1.2.2) := by rw [hMt]; exact st_same _ _ _ _
    have fln : Mz9 17 1 = M0 17 1 := by rw [hMt, st_at, if_neg (by decide)]; exact hof.2
    have ftf : tx Mz9 = tx M0 := funext fun i => by show Mz9 18 i = _; rw [hMt, st_cell (by decide)]; exact congrFun hof.1 i
    have fnu : Mz9 17 6 = s.2.1 := by rw [hMt, st_at, if_neg (by decide)]; exact hR1.2.2.2.1
    refine z_callVi (n2 := 93) (A_X2_readFigures l g Mz9 x2 lo hi (by omega) (by omega) (by omega)) cb_X2_readFigures cl_X2_157 (clr0 rfl rfl (by decide) (by decide)) rfl (by decide) ⟨_, rfl, rfl⟩ rfl (by decide) rfl (Nat.le_of_ble_eq_true rfl) rfl dX2_readSigned_36 (fun x10 Mz10 bx10 kMz10 hc10 => ?_)
    have hfg := hc10
    rw [ftf, fln, fat, est] at hfg
    refine z_zret rfl (by omega) (by decide) rfl (Nat.sub_self _) dX2_readSigned_39 ?_
    have hop : opN (tx M0) (M0 17 1) 1 lo hi s = opK (opF (tx M0) (M0 17 1) (sk (tx M0) (M0 17 1) s.1.2.2) (sgn (tx M0) (M0 17 1) 1 (sk (tx M0) (M0 17 1) s.1.2.2)) lo hi) s := by
      unfold opN
      rw [if_pos hf]
    rw [hop]
    rcases hfg with ⟨a, b, c⟩ | ⟨a, b, c, d, e⟩
    · exact ⟨Rs_num hR hf hMt b c, Or.inl ⟨a, b⟩⟩
    · exact ⟨Rs_numF hR hMt b c d e, Or.inr ⟨a, b⟩⟩
set_option maxHeartbeats 400000 in
theorem A_X2_readWord (l : Launch) (g : Cx) (M : FMem) (j : Nat) (hj : j < 11) (M0 : FMem) (s : PS) (hR : Rs M0 s M) (hf : s.1.1 = 0) (hS : SOk (M0 17 1) s) (hn : M0 17 1 ≤ 240) : AMi l g true fi_X2_readWord [fr 17, fe (2 + j)] 93 M (fun r M2 => Rs M0 (opW (tx M0) (M0 17 1) j s) M2 ∧ ((r = 1 ∧ (opW (tx M0) (M0 17 1) j s).1.1 = 0) ∨ (r = 0 ∧ (opW (tx M0) (M0 17 1) j s).1.1 ≠ 0))) := by
  refine AMi_intro [fr 17, fe (2 + j)] (by decide) (knall rfl) (Nat.le_of_ble_eq_true rfl) rfl ?_
  intro hNV hM0 μ
  have hR1 := hR.2.1 hf
  have hof := offR_tx hR.1
  have hsp := hS hf
  have hsb := sk_b (t := tx M0) hsp.1 hsp.2
  have hwl := wl_b hj
  refine z_aload_nr dX2_readWord_0 rfl ?_
  refine z_callVv (n2 := 93) (A_X2_skipBlanks l g M (by omega) (by omega)) cb_X2_skipBlanks cl_X2_39 (clr0 rfl rfl (by decide) (by decide)) rfl (by decide) ⟨_, rfl, rfl⟩ rfl (by decide) rfl (Nat.le_of_ble_eq_true rfl) rfl dX2_readWord_1 (fun Mz1 kMz1 hc1 => ?_)
  have hMs := hc1
  rw [hof.1, hof.2, hR1.1] at hMs
  have eat : Mz1 17 4 = sk (tx M0) (M0 17 1) s.1.2.2 := by rw [hMs]; exact st_same _ _ _ _
  have eln : Mz1 17 1 = M0 17 1 := by rw [hMs, st_at, if_neg (by decide)]; exact hof.2
  have etx : ∀ i, Mz1 18 i = M0 18 i := fun i => by rw [hMs, st_cell (by decide)]; exact congrFun hof.1 i
  have etf : tx Mz1 = tx M0 := funext etx
  have enu : Mz1 17 6 = s.2.1 := by rw [hMs, st_at, if_neg (by decide)]; exact hR1.2.2.2.1
  refine z_aload_nr dX2_readWord_4 rfl ?_
  refine z_aload_ne dX2_readWord_5 rfl ?_
  refine z_callVip (n2 := 93) (A_X2_isWord l g Mz1 j (hj) (by omega) (by omega)) cb_X2_isWord cl_X2_52 (clr0 rfl rfl (by decide) (by decide)) rfl (by decide) ⟨_, rfl, rfl⟩ rfl (by decide) rfl (Nat.le_of_ble_eq_true rfl) rfl dX2_readWord_6 (fun x2 bx2 hx2 => ?_)
  have hw := hx2
  rw [etf, eln, eat] at hw
  refine z_if_ne (tgt := 22) dX2_readWord_9 (by decide) (fun c3 => ?_) (fun c3 => ?_)
  · refine z_aload_nr dX2_readWord_22 rfl ?_
    refine z_dup rfl dX2_readWord_23 ?_
    refine z_geti (kz := 4) fl_X2_25 rfl (by decide) rfl dX2_readWord_24 (fun x4 hx4 bx4 => ?_)
    refine z_aload_ne dX2_readWord_27 rfl ?_
    refine z_callEip (n2 := 93) (A_J0_length_8abf5 l g Mz1 j (hj)) cb_J0_length_8abf5 cl_X2_145 (clr0 rfl rfl (by decide) (by decide)) (hj) rfl rfl (by decide) rfl (Nat.le_of_ble_eq_true rfl) rfl dX2_readWord_28 (fun x5 bx5 hx5 => ?_)
    first | refine z_iaddN dX2_readWord_31 (by omega) (fun x6 hx6 => ?_) | refine z_iadd dX2_readWord_31 (fun x6 hx6 => ?_)
    refine z_puti (kz := 4) fl_X2_25 rfl (by decide) rfl nr_17_4 dX2_readWord_32 (fun Mz7 hMz7 => ?_)
    refine z_iconst dX2_readWord_35 ⟨by decide, by decide⟩ ?_
    refine z_zret rfl (by omega) (by decide) rfl (Nat.sub_self _) dX2_readWord_36 ?_
    have hop : opW (tx M0) (M0 17 1) j s = ((0, 0, (sk (tx M0) (M0 17 1) s.1.2.2) + wl j), s.2) := by
      unfold opW
      rw [if_pos hf, if_pos]
      rcases hw with h | h
      · exact h.2
      · exfalso; omega
    refine ⟨?_, Or.inl ⟨rfl, by rw [hop]⟩⟩
    rw [hop, hMz7, hMs, st_st]
    exact Rs_at hR hf (by congr 1; congr 1; congr 1; omega)
  · refine z_aload_nr dX2_readWord_12 rfl ?_
    refine z_iconst dX2_readWord_13 ⟨by decide, by decide⟩ ?_
    refine z_aload_nr dX2_readWord_14 rfl ?_
    refine z_geti (kz := 4) fl_X2_25 rfl (by decide) rfl dX2_readWord_15 (fun x8 hx8 bx8 => ?_)
    have epf : x8 = (sk (tx M0) (M0 17 1) s.1.2.2) := by omega
    refine z_callVi (n2 := 93) (A_X2_fail l g Mz1 1 x8) cb_X2_fail cl_X2_64 (clr0 rfl rfl (by decide) (by decide)) rfl (by decide) ⟨_, rfl, rfl⟩ rfl (by decide) rfl (Nat.le_of_ble_eq_true rfl) rfl dX2_readWord_18 (fun x9 Mz9 bx9 kMz9 hc9 => ?_)
    have hfl := hc9
    refine z_zret rfl (by omega) (by decide) rfl (Nat.sub_self _) dX2_readWord_21 ?_
    have hop : opW (tx M0) (M0 17 1) j s = ((1, (sk (tx M0) (M0 17 1) s.1.2.2), 0), s.2) := by
      unfold opW
      rw [if_pos hf, if_neg]
      rcases hw with h | h
      · exfalso; omega
      · exact h.2
    refine ⟨?_, Or.inr ⟨hfl.1, by rw [hop]; exact (by decide : (1 : Int) ≠ 0)⟩⟩
    rw [hfl.2, hMs, epf]
    exact Rs_no (offR_st hR.1 (by omega)) (by decide) (by rw [hop]; exact ⟨rfl, rfl⟩)
