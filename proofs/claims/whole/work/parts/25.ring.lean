/-! ===== Net: rings and marks ===== -/
theorem RI_by {M0 : FMem} {what : Int} {way0 : Int → Int} {M1 : FMem} {tau pe : Int → Int} {s v : Int} (hN : NetOk M0) (h : RI M0 what way0 M1 tau pe s) (hv : nd v) (ht : 0 ≤ tau v) : 0 ≤ M1 29 v ∧ M1 29 v < 80 ∧ 0 ≤ pe v / 2 ∧ pe v / 2 < M0 20 7 ∧ M1 29 v = M0 27 (pe v / 2) := by
  obtain ⟨-, u, w, he⟩ := h.2.1.2.2.1 v ht
  have hb := (h.2.2.1 v hv).2 ht
  have h0 := he.1
  have h1 := he.2.1
  have := hN.2.2.2.2 (pe v / 2) (by omega) (by omega)
  exact ⟨by omega, by omega, by omega, by omega, hb⟩
set_option maxHeartbeats 400000 in
theorem A_X1_findRing35 (l : Launch) (g : Cx) (M : FMem) (hN : NetOk M) : AMi l g true fi_X1_findRing [fr 20, fr 35] 93 M (fun r M2 => (∀ b j, b ≠ 28 → b ≠ 29 → b ≠ 35 → M2 b j = M b j) ∧ ((r = 0 ∧ ∃ x, Sat (EdX M 1) x) ∨ (1 ≤ r ∧ r ≤ 17 ∧ (∀ k, 0 ≤ k → k < r → ∃ q, 0 ≤ q ∧ q < M 20 7 ∧ M2 35 k = M 27 q) ∧ ∀ x, ¬ ∀ k, 0 ≤ k → k < r → TS M x (M2 35 k)))) := by
  refine AMi_intro [fr 20, fr 35, fu, fu, fu] (by decide) (knall rfl) (Nat.le_of_ble_eq_true rfl) rfl ?_
  intro hNV hM0 μ
  refine z_aload_nr dX1_findRing_0 rfl ?_
  refine z_callVi (n2 := 93) (A_X1_findUnrest l g M (hN)) cb_X1_findUnrest cl_X1_59 (clr0 rfl rfl (by decide) (by decide)) rfl (by decide) ⟨_, rfl, rfl⟩ rfl (by decide) rfl (Nat.le_of_ble_eq_true rfl) rfl dX1_findRing_1 (fun x1 Mz1 bx1 kMz1 hc1 => ?_)
  obtain ⟨hof, hq⟩ := hc1
  refine z_istore_n (loc2 := [fr 20, fr 35, fi x1, fu, fu]) dX1_findRing_4 (by decide) rfl ?_
  refine z_iload_n dX1_findRing_5 rfl ?_
  refine z_iconst dX1_findRing_6 ⟨by decide, by decide⟩ ?_
  refine z_icmp_ne (tgt := 12) dX1_findRing_7 (by decide) (fun c2 => ?_) (fun c2 => ?_)
  · have hr : nd x1 ∧ ∃ ta pa, RI M 1 (fun _ => 0) Mz1 ta pa (17 * KX M) ∧ 16 * KX M ≤ ta x1 := by
      rcases hq with q | q
      · have := q.1; omega
      · exact q
    obtain ⟨hnd, ta, pa, hR, hl⟩ := hr
    have hpar := RI_par hN hR
    have hok := EdX_ok hN 1
    obtain ⟨hall, q0, hq1, hq2, hcy⟩ := chain_ring hR.2.1 hok hpar (chain_late hR.2.1 (by have := KX_b hN; omega) hpar hl)
    have lp53 : ∀ (kq : Nat) (v start many : Int) (m : Nat) (M1 : FMem), (17 - m) = kq → (many = m ∧ m ≤ 17) → (start = chain (parX Mz1) x1 17) → (v = chain (parX Mz1) x1 (17 + m)) → (∀ b j, b ≠ 35 → M1 b j = Mz1 b j) → (∀ j : Nat, j < m → M1 35 j = Mz1 29 (chain (parX Mz1) x1 (17 + j))) → (∀ j : Nat, 1 ≤ j → j ≤ m → chain (parX Mz1) x1 (17 + j) ≠ start) → Wa l g true fi_X1_findRing 93 μ (Zi g true fi_X1_findRing 93 μ (fun r M2 => (∀ b j, b ≠ 28 → b ≠ 29 → b ≠ 35 → M2 b j = M b j) ∧ ((r = 0 ∧ ∃ x, Sat (EdX M 1) x) ∨ (1 ≤ r ∧ r ≤ 17 ∧ (∀ k, 0 ≤ k → k < r → ∃ q, 0 ≤ q ∧ q < M 20 7 ∧ M2 35 k = M 27 q) ∧ ∀ x, ¬ ∀ k, 0 ≤ k → k < r → TS M x (M2 35 k))))) 53 [] [fr 20, fr 35, fi v, fi start, fi many] 93 M1 := by
      intro kq
      induction kq using Nat.strongRecOn with
      | _ kq ih53 =>
      intro v start many m M1 hk53 h0 hst h1 h2 h3 h4
      have hv := hall (17 + m)
      rw [← h1] at hv
      have hb := RI_by hN hR hv.2 hv.1
      have e29 := h2 29 v (by decide)
      have hm17 : m < 17 := by
        by_cases e : m < 17
        · exact e
        · exact absurd (hcy.trans hst.symm) (h4 q0 hq1 (by omega))
      refine z_iload dX1_findRing_53 rfl ?_
      refine z_bipush dX1_findRing_55 ⟨by decide, by decide⟩ (by decide) ?_
      refine z_icmp_ge (tgt := 110) dX1_findRing_57 (by decide) (fun c3 => ?_) (fun c3 => ?_)
      · exfalso; omega
      · refine z_iload dX1_findRing_60 rfl ?_
        refine z_aload_nr dX1_findRing_62 rfl ?_
        refine z_alen (len := 17) (lz := 17) rfl (by decide) rfl ⟨by decide, by decide⟩ dX1_findRing_63 ?_
        refine z_icmp_ge (tgt := 110) dX1_findRing_64 (by decide) (fun c4 => ?_) (fun c4 => ?_)
        · exfalso; omega
        · refine z_aload_nr dX1_findRing_67 rfl ?_
          refine z_getr (b := 29) fl_X1_44 rfl (by decide) rf_20_10 rfl dX1_findRing_68 ?_
          refine z_iload_n dX1_findRing_71 rfl ?_
          refine z_iald rfl (by decide) (by omega) (by omega) dX1_findRing_72 (fun x5 hx5 bx5 => ?_)
          refine z_iconst dX1_findRing_73 ⟨by decide, by decide⟩ ?_
          refine z_icmp_eq (tgt := 110) dX1_findRing_74 (by decide) (fun c6 => ?_) (fun c6 => ?_)
          · exfalso; omega
          · refine z_aload_nr dX1_findRing_77 rfl ?_
            refine z_iload dX1_findRing_78 rfl ?_
            refine z_aload_nr dX1_findRing_80 rfl ?_
            refine z_getr (b := 29) fl_X1_44 rfl (by decide) rf_20_10 rfl dX1_findRing_81 ?_
            refine z_iload_n dX1_findRing_84 rfl ?_
            refine z_iald rfl (by decide) (by omega) (by omega) dX1_findRing_85 (fun x7 hx7 bx7 => ?_)
            refine z_iast rfl (by decide) (by omega) (by omega) dX1_findRing_86 (fun Mz8 hMz8 => ?_)
            refine z_iinc (loc2 := fun vq => [fr 20, fr 35, fi v, fi start, fi vq]) dX1_findRing_87 rfl (by decide) (by omega) (fun _ => rfl) (fun x9 hx9 => ?_)
            refine z_aload_nr dX1_findRing_90 rfl ?_
            refine z_aload_nr dX1_findRing_91 rfl ?_
            refine z_getr (b := 29) fl_X1_44 rfl (by decide) rf_20_10 rfl dX1_findRing_92 ?_
            refine z_iload_n dX1_findRing_95 rfl ?_
            refine z_iald rfl (by decide) (by omega) (by omega) dX1_findRing_96 (fun x10 hx10 bx10 => ?_)
            rw [hMz8, st_cell (by decide)] at hx10
            refine z_iload_n dX1_findRing_97 rfl ?_
            refine z_callVip (n2 := 93) (A_X1_otherEnd l g Mz8 x10 v (by omega)) cb_X1_otherEnd cl_X1_63 (clr0 rfl rfl (by decide) (by decide)) rfl (by decide) ⟨_, rfl, rfl⟩ rfl (by decide) rfl (Nat.le_of_ble_eq_true rfl) rfl dX1_findRing_98 (fun x11 bx11 hx11 => ?_)
            refine z_istore_n (loc2 := [fr 20, fr 35, fi x11, fi start, fi x9]) dX1_findRing_101 (by decide) rfl ?_
            have hnext : x11 = chain (parX Mz1) x1 (17 + m + 1) := by
              show _ = parX Mz1 (chain (parX Mz1) x1 (17 + m))
              rw [← h1]
              unfold parX
              subst_vars
              rw [st_cell (by decide), st_cell (by decide), h2 23 _ (by decide), h2 24 _ (by decide)] at *
              simp_all
            have hoff : ∀ b j, b ≠ 35 → Mz8 b j = Mz1 b j := by intro b j q; rw [hMz8, st_cell q]; exact h2 b j q
            have hring : ∀ j : Nat, j < m + 1 → Mz8 35 j = Mz1 29 (chain (parX Mz1) x1 (17 + j)) := by
              intro j q
              rw [hMz8, st_at]
              by_cases e : j = m
              · subst e
                rw [if_pos (by omega), ← h1]; omega
              · rw [if_neg (by omega)]
                exact h3 j (by omega)
            refine z_iload_n dX1_findRing_102 rfl ?_
            refine z_iload_n dX1_findRing_103 rfl ?_
            refine z_icmp_ne (tgt := 53) dX1_findRing_104 (by decide) (fun c12 => ?_) (fun c12 => ?_)
            · exact ih53 _ (by omega) x11 start x9 (m + 1) Mz8 rfl (by omega) (hst) (hnext) (hoff) (hring) (fun j q1 q2 => by by_cases e : j = m + 1; (subst e; show chain _ _ (17 + m + 1) ≠ _; rw [← hnext]; omega); exact h4 j q1 (by omega))
            · refine z_goto (tgt := 110) dX1_findRing_107 (by decide) ?_
              refine z_iload dX1_findRing_110 rfl ?_
              refine z_iret rfl (by decide) rfl (Nat.sub_self _) dX1_findRing_112 ?_
              refine ⟨fun b j q1 q2 q3 => ?_, Or.inr ⟨by omega, by omega, fun k k0 k1 => ?_, fun x hx => ?_⟩⟩
              · subst_vars; rw [st_cell q3, h2 b j q3]; exact hof b j q1 q2
              · obtain ⟨kn, rfl⟩ : ∃ kn : Nat, k = kn := ⟨k.toNat, by omega⟩
                have hb := RI_by hN hR (hall (17 + kn)).2 (hall (17 + kn)).1
                rw [hring kn (by omega)]
                exact ⟨_, hb.2.2.1, hb.2.2.2.1, hb.2.2.2.2⟩
              · refine chain_no hR.2.1 hok hpar (m0 := 17) (q := m + 1) (fun m => (hall m).1) (by omega) ?_ (x := x) (fun i i0 i1 w hw => ?_)
                · show chain _ _ (17 + m + 1) = _
                  rw [← hst]; omega
                · refine TS_edge hw ?_
                  have hb := RI_by hN hR (hall i).2 (hall i).1
                  rw [← hb.2.2.2.2]
                  have hr := hring (i - 17) (by omega)
                  rw [show 17 + (i - 17) = i by omega] at hr
                  rw [← hr]
                  exact hx _ (by omega) (by omega)
    have lp14 : ∀ (kq : Nat) (v step : Int) (m : Nat), (17 - m) = kq → (step = m ∧ m ≤ 17) → (v = chain (parX Mz1) x1 m) → Wa l g true fi_X1_findRing 93 μ (Zi g true fi_X1_findRing 93 μ (fun r M2 => (∀ b j, b ≠ 28 → b ≠ 29 → b ≠ 35 → M2 b j = M b j) ∧ ((r = 0 ∧ ∃ x, Sat (EdX M 1) x) ∨ (1 ≤ r ∧ r ≤ 17 ∧ (∀ k, 0 ≤ k → k < r → ∃ q, 0 ≤ q ∧ q < M 20 7 ∧ M2 35 k = M 27 q) ∧ ∀ x, ¬ ∀ k, 0 ≤ k → k < r → TS M x (M2 35 k))))) 14 [] [fr 20, fr 35, fi v, fi step, fu] 93 Mz1 := by
      intro kq
      induction kq using Nat.strongRecOn with
      | _ kq ih14 =>
      intro v step m hk14 h0 h1
      have hv := hall m
      rw [← h1] at hv
      have hb := RI_by hN hR hv.2 hv.1
      refine z_iload_n dX1_findRing_14 rfl ?_
      refine z_bipush dX1_findRing_15 ⟨by decide, by decide⟩ (by decide) ?_
      refine z_icmp_ge (tgt := 48) dX1_findRing_17 (by decide) (fun c13 => ?_) (fun c13 => ?_)
      · refine z_iload_n dX1_findRing_48 rfl ?_
        refine z_istore_n (loc2 := [fr 20, fr 35, fi v, fi v, fu]) dX1_findRing_49 (by decide) rfl ?_
        refine z_iconst dX1_findRing_50 ⟨by decide, by decide⟩ ?_
        refine z_istore (loc2 := [fr 20, fr 35, fi v, fi v, fi 0]) dX1_findRing_51 (by decide) rfl ?_
        exact lp53 _ v v 0 0 Mz1 rfl (by omega) (by rw [h1]; congr; omega) (by rw [h1]; congr; omega) (fun b j _ => rfl) (fun j h => by omega) (fun j q1 q2 => by omega)
      · refine z_aload_nr dX1_findRing_20 rfl ?_
        refine z_getr (b := 29) fl_X1_44 rfl (by decide) rf_20_10 rfl dX1_findRing_21 ?_
        refine z_iload_n dX1_findRing_24 rfl ?_
        refine z_iald rfl (by decide) (by omega) (by omega) dX1_findRing_25 (fun x14 hx14 bx14 => ?_)
        refine z_iconst dX1_findRing_26 ⟨by decide, by decide⟩ ?_
        refine z_icmp_eq (tgt := 48) dX1_findRing_27 (by decide) (fun c15 => ?_) (fun c15 => ?_)
        · exfalso; omega
        · refine z_aload_nr dX1_findRing_30 rfl ?_
          refine z_aload_nr dX1_findRing_31 rfl ?_
          refine z_getr (b := 29) fl_X1_44 rfl (by decide) rf_20_10 rfl dX1_findRing_32 ?_
          refine z_iload_n dX1_findRing_35 rfl ?_
          refine z_iald rfl (by decide) (by omega) (by omega) dX1_findRing_36 (fun x16 hx16 bx16 => ?_)
          refine z_iload_n dX1_findRing_37 rfl ?_
          refine z_callVip (n2 := 93) (A_X1_otherEnd l g Mz1 x16 v (by omega)) cb_X1_otherEnd cl_X1_63 (clr0 rfl rfl (by decide) (by decide)) rfl (by decide) ⟨_, rfl, rfl⟩ rfl (by decide) rfl (Nat.le_of_ble_eq_true rfl) rfl dX1_findRing_38 (fun x17 bx17 hx17 => ?_)
          refine z_istore_n (loc2 := [fr 20, fr 35, fi x17, fi step, fu]) dX1_findRing_41 (by decide) rfl ?_
          refine z_iinc (loc2 := fun vq => [fr 20, fr 35, fi x17, fi vq, fu]) dX1_findRing_42 rfl (by decide) (by omega) (fun _ => rfl) (fun x18 hx18 => ?_)
          refine z_goto (tgt := 14) dX1_findRing_45 (by decide) ?_
          exact ih14 _ (by omega) x17 x18 (m + 1) rfl (by omega) (by show _ = parX Mz1 (chain (parX Mz1) x1 m); rw [← h1]; unfold parX; simp_all)
    refine z_iconst dX1_findRing_12 ⟨by decide, by decide⟩ ?_
    refine z_istore_n (loc2 := [fr 20, fr 35, fi x1, fi 0, fu]) dX1_findRing_13 (by decide) rfl ?_
    exact lp14 _ x1 0 0 rfl (by omega) (rfl)
  · refine z_iconst dX1_findRing_10 ⟨by decide, by decide⟩ ?_
    refine z_iret rfl (by decide) rfl (Nat.sub_self _) dX1_findRing_11 ?_
    refine ⟨fun b j q1 q2 q3 => hof b j q1 q2, Or.inl ⟨rfl, ?_⟩⟩
    rcases hq with q | q
    · exact ⟨_, q.2.1⟩
    · have := q.1; omega
set_option maxHeartbeats 400000 in
theorem A_X1_findRing36 (l : Launch) (g : Cx) (M : FMem) (hN : NetOk M) : AMi l g true fi_X1_findRing [fr 20, fr 36] 93 M (fun r M2 => (∀ b j, b ≠ 28 → b ≠ 29 → b ≠ 36 → M2 b j = M b j) ∧ ((r = 0 ∧ ∃ x, Sat (EdX M 1) x) ∨ (1 ≤ r ∧ r ≤ 17 ∧ (∀ k, 0 ≤ k → k < r → ∃ q, 0 ≤ q ∧ q < M 20 7 ∧ M2 36 k = M 27 q) ∧ ∀ x, ¬ ∀ k, 0 ≤ k → k < r → TS M x (M2 36 k)))) := by
  refine AMi_intro [fr 20, fr 36, fu, fu, fu] (by decide) (knall rfl) (Nat.le_of_ble_eq_true rfl) rfl ?_
  intro hNV hM0 μ
  refine z_aload_nr dX1_findRing_0 rfl ?_
  refine z_callVi (n2 := 93) (A_X1_findUnrest l g M (hN)) cb_X1_findUnrest cl_X1_59 (clr0 rfl rfl (by decide) (by decide)) rfl (by decide) ⟨_, rfl, rfl⟩ rfl (by decide) rfl (Nat.le_of_ble_eq_true rfl) rfl dX1_findRing_1 (fun x1 Mz1 bx1 kMz1 hc1 => ?_)
  obtain ⟨hof, hq⟩ := hc1
  refine z_istore_n (loc2 := [fr 20, fr 36, fi x1, fu, fu]) dX1_findRing_4 (by decide) rfl ?_
  refine z_iload_n dX1_findRing_5 rfl ?_
  refine z_iconst dX1_findRing_6 ⟨by decide, by decide⟩ ?_
  refine z_icmp_ne (tgt := 12) dX1_findRing_7 (by decide) (fun c2 => ?_) (fun c2 => ?_)
  · have hr : nd x1 ∧ ∃ ta pa, RI M 1 (fun _ => 0) Mz1 ta pa (17 * KX M) ∧ 16 * KX M ≤ ta x1 := by
      rcases hq with q | q
      · have := q.1; omega
      · exact q
    obtain ⟨hnd, ta, pa, hR, hl⟩ := hr
    have hpar := RI_par hN hR
    have hok := EdX_ok hN 1
    obtain ⟨hall, q0, hq1, hq2, hcy⟩ := chain_ring hR.2.1 hok hpar (chain_late hR.2.1 (by have := KX_b hN; omega) hpar hl)
    have lp53 : ∀ (kq : Nat) (v start many : Int) (m : Nat) (M1 : FMem), (17 - m) = kq → (many = m ∧ m ≤ 17) → (start = chain (parX Mz1) x1 17) → (v = chain (parX Mz1) x1 (17 + m)) → (∀ b j, b ≠ 36 → M1 b j = Mz1 b j) → (∀ j : Nat, j < m → M1 36 j = Mz1 29 (chain (parX Mz1) x1 (17 + j))) → (∀ j : Nat, 1 ≤ j → j ≤ m → chain (parX Mz1) x1 (17 + j) ≠ start) → Wa l g true fi_X1_findRing 93 μ (Zi g true fi_X1_findRing 93 μ (fun r M2 => (∀ b j, b ≠ 28 → b ≠ 29 → b ≠ 36 → M2 b j = M b j) ∧ ((r = 0 ∧ ∃ x, Sat (EdX M 1) x) ∨ (1 ≤ r ∧ r ≤ 17 ∧ (∀ k, 0 ≤ k → k < r → ∃ q, 0 ≤ q ∧ q < M 20 7 ∧ M2 36 k = M 27 q) ∧ ∀ x, ¬ ∀ k, 0 ≤ k → k < r → TS M x (M2 36 k))))) 53 [] [fr 20, fr 36, fi v, fi start, fi many] 93 M1 := by
      intro kq
      induction kq using Nat.strongRecOn with
      | _ kq ih53 =>
      intro v start many m M1 hk53 h0 hst h1 h2 h3 h4
      have hv := hall (17 + m)
      rw [← h1] at hv
      have hb := RI_by hN hR hv.2 hv.1
      have e29 := h2 29 v (by decide)
      have hm17 : m < 17 := by
        by_cases e : m < 17
        · exact e
        · exact absurd (hcy.trans hst.symm) (h4 q0 hq1 (by omega))
      refine z_iload dX1_findRing_53 rfl ?_
      refine z_bipush dX1_findRing_55 ⟨by decide, by decide⟩ (by decide) ?_
      refine z_icmp_ge (tgt := 110) dX1_findRing_57 (by decide) (fun c3 => ?_) (fun c3 => ?_)
      · exfalso; omega
      · refine z_iload dX1_findRing_60 rfl ?_
        refine z_aload_nr dX1_findRing_62 rfl ?_
        refine z_alen (len := 17) (lz := 17) rfl (by decide) rfl ⟨by decide, by decide⟩ dX1_findRing_63 ?_
        refine z_icmp_ge (tgt := 110) dX1_findRing_64 (by decide) (fun c4 => ?_) (fun c4 => ?_)
        · exfalso; omega
        · refine z_aload_nr dX1_findRing_67 rfl ?_
          refine z_getr (b := 29) fl_X1_44 rfl (by decide) rf_20_10 rfl dX1_findRing_68 ?_
          refine z_iload_n dX1_findRing_71 rfl ?_
          refine z_iald rfl (by decide) (by omega) (by omega) dX1_findRing_72 (fun x5 hx5 bx5 => ?_)
          refine z_iconst dX1_findRing_73 ⟨by decide, by decide⟩ ?_
          refine z_icmp_eq (tgt := 110) dX1_findRing_74 (by decide) (fun c6 => ?_) (fun c6 => ?_)
          · exfalso; omega
          · refine z_aload_nr dX1_findRing_77 rfl ?_
            refine z_iload dX1_findRing_78 rfl ?_
            refine z_aload_nr dX1_findRing_80 rfl ?_
            refine z_getr (b := 29) fl_X1_44 rfl (by decide) rf_20_10 rfl dX1_findRing_81 ?_
            refine z_iload_n dX1_findRing_84 rfl ?_
            refine z_iald rfl (by decide) (by omega) (by omega) dX1_findRing_85 (fun x7 hx7 bx7 => ?_)
            refine z_iast rfl (by decide) (by omega) (by omega) dX1_findRing_86 (fun Mz8 hMz8 => ?_)
            refine z_iinc (loc2 := fun vq => [fr 20, fr 36, fi v, fi start, fi vq]) dX1_findRing_87 rfl (by decide) (by omega) (fun _ => rfl) (fun x9 hx9 => ?_)
            refine z_aload_nr dX1_findRing_90 rfl ?_
            refine z_aload_nr dX1_findRing_91 rfl ?_
            refine z_getr (b := 29) fl_X1_44 rfl (by decide) rf_20_10 rfl dX1_findRing_92 ?_
            refine z_iload_n dX1_findRing_95 rfl ?_
            refine z_iald rfl (by decide) (by omega) (by omega) dX1_findRing_96 (fun x10 hx10 bx10 => ?_)
            rw [hMz8, st_cell (by decide)] at hx10
            refine z_iload_n dX1_findRing_97 rfl ?_
            refine z_callVip (n2 := 93) (A_X1_otherEnd l g Mz8 x10 v (by omega)) cb_X1_otherEnd cl_X1_63 (clr0 rfl rfl (by decide) (by decide)) rfl (by decide) ⟨_, rfl, rfl⟩ rfl (by decide) rfl (Nat.le_of_ble_eq_true rfl) rfl dX1_findRing_98 (fun x11 bx11 hx11 => ?_)
            refine z_istore_n (loc2 := [fr 20, fr 36, fi x11, fi start, fi x9]) dX1_findRing_101 (by decide) rfl ?_
            have hnext : x11 = chain (parX Mz1) x1 (17 + m + 1) := by
              show _ = parX Mz1 (chain (parX Mz1) x1 (17 + m))
              rw [← h1]
              unfold parX
              subst_vars
              rw [st_cell (by decide), st_cell (by decide), h2 23 _ (by decide), h2 24 _ (by decide)] at *
              simp_all
            have hoff : ∀ b j, b ≠ 36 → Mz8 b j = Mz1 b j := by intro b j q; rw [hMz8, st_cell q]; exact h2 b j q
            have hring : ∀ j : Nat, j < m + 1 → Mz8 36 j = Mz1 29 (chain (parX Mz1) x1 (17 + j)) := by
              intro j q
              rw [hMz8, st_at]
              by_cases e : j = m
              · subst e
                rw [if_pos (by omega), ← h1]; omega
              · rw [if_neg (by omega)]
                exact h3 j (by omega)
            refine z_iload_n dX1_findRing_102 rfl ?_
            refine z_iload_n dX1_findRing_103 rfl ?_
            refine z_icmp_ne (tgt := 53) dX1_findRing_104 (by decide) (fun c12 => ?_) (fun c12 => ?_)
            · exact ih53 _ (by omega) x11 start x9 (m + 1) Mz8 rfl (by omega) (hst) (hnext) (hoff) (hring) (fun j q1 q2 => by by_cases e : j = m + 1; (subst e; show chain _ _ (17 + m + 1) ≠ _; rw [← hnext]; omega); exact h4 j q1 (by omega))
            · refine z_goto (tgt := 110) dX1_findRing_107 (by decide) ?_
              refine z_iload dX1_findRing_110 rfl ?_
              refine z_iret rfl (by decide) rfl (Nat.sub_self _) dX1_findRing_112 ?_
              refine ⟨fun b j q1 q2 q3 => ?_, Or.inr ⟨by omega, by omega, fun k k0 k1 => ?_, fun x hx => ?_⟩⟩
              · subst_vars; rw [st_cell q3, h2 b j q3]; exact hof b j q1 q2
              · obtain ⟨kn, rfl⟩ : ∃ kn : Nat, k = kn := ⟨k.toNat, by omega⟩
                have hb := RI_by hN hR (hall (17 + kn)).2 (hall (17 + kn)).1
                rw [hring kn (by omega)]
                exact ⟨_, hb.2.2.1, hb.2.2.2.1, hb.2.2.2.2⟩
              · refine chain_no hR.2.1 hok hpar (m0 := 17) (q := m + 1) (fun m => (hall m).1) (by omega) ?_ (x := x) (fun i i0 i1 w hw => ?_)
                · show chain _ _ (17 + m + 1) = _
                  rw [← hst]; omega
                · refine TS_edge hw ?_
                  have hb := RI_by hN hR (hall i).2 (hall i).1
                  rw [← hb.2.2.2.2]
                  have hr := hring (i - 17) (by omega)
                  rw [show 17 + (i - 17) = i by omega] at hr
                  rw [← hr]
                  exact hx _ (by omega) (by omega)
    have lp14 : ∀ (kq : Nat) (v step : Int) (m : Nat), (17 - m) = kq → (step = m ∧ m ≤ 17) → (v = chain (parX Mz1) x1 m) → Wa l g true fi_X1_findRing 93 μ (Zi g true fi_X1_findRing 93 μ (fun r M2 => (∀ b j, b ≠ 28 → b ≠ 29 → b ≠ 36 → M2 b j = M b j) ∧ ((r = 0 ∧ ∃ x, Sat (EdX M 1) x) ∨ (1 ≤ r ∧ r ≤ 17 ∧ (∀ k, 0 ≤ k → k < r → ∃ q, 0 ≤ q ∧ q < M 20 7 ∧ M2 36 k = M 27 q) ∧ ∀ x, ¬ ∀ k, 0 ≤ k → k < r → TS M x (M2 36 k))))) 14 [] [fr 20, fr 36, fi v, fi step, fu] 93 Mz1 := by
      intro kq
      induction kq using Nat.strongRecOn with
      | _ kq ih14 =>
      intro v step m hk14 h0 h1
      have hv := hall m
      rw [← h1] at hv
      have hb := RI_by hN hR hv.2 hv.1
      refine z_iload_n dX1_findRing_14 rfl ?_
      refine z_bipush dX1_findRing_15 ⟨by decide, by decide⟩ (by decide) ?_
      refine z_icmp_ge (tgt := 48) dX1_findRing_17 (by decide) (fun c13 => ?_) (fun c13 => ?_)
      · refine z_iload_n dX1_findRing_48 rfl ?_
        refine z_istore_n (loc2 := [fr 20, fr 36, fi v, fi v, fu]) dX1_findRing_49 (by decide) rfl ?_
        refine z_iconst dX1_findRing_50 ⟨by decide, by decide⟩ ?_
        refine z_istore (loc2 := [fr 20, fr 36, fi v, fi v, fi 0]) dX1_findRing_51 (by decide) rfl ?_
        exact lp53 _ v v 0 0 Mz1 rfl (by omega) (by rw [h1]; congr; omega) (by rw [h1]; congr; omega) (fun b j _ => rfl) (fun j h => by omega) (fun j q1 q2 => by omega)
      · refine z_aload_nr dX1_findRing_20 rfl ?_
        refine z_getr (b := 29) fl_X1_44 rfl (by decide) rf_20_10 rfl dX1_findRing_21 ?_
        refine z_iload_n dX1_findRing_24 rfl ?_
        refine z_iald rfl (by decide) (by omega) (by omega) dX1_findRing_25 (fun x14 hx14 bx14 => ?_)
        refine z_iconst dX1_findRing_26 ⟨by decide, by decide⟩ ?_
        refine z_icmp_eq (tgt := 48) dX1_findRing_27 (by decide) (fun c15 => ?_) (fun c15 => ?_)
        · exfalso; omega
        · refine z_aload_nr dX1_findRing_30 rfl ?_
          refine z_aload_nr dX1_findRing_31 rfl ?_
          refine z_getr (b := 29) fl_X1_44 rfl (by decide) rf_20_10 rfl dX1_findRing_32 ?_
          refine z_iload_n dX1_findRing_35 rfl ?_
          refine z_iald rfl (by decide) (by omega) (by omega) dX1_findRing_36 (fun x16 hx16 bx16 => ?_)
          refine z_iload_n dX1_findRing_37 rfl ?_
          refine z_callVip (n2 := 93) (A_X1_otherEnd l g Mz1 x16 v (by omega)) cb_X1_otherEnd cl_X1_63 (clr0 rfl rfl (by decide) (by decide)) rfl (by decide) ⟨_, rfl, rfl⟩ rfl (by decide) rfl (Nat.le_of_ble_eq_true rfl) rfl dX1_findRing_38 (fun x17 bx17 hx17 => ?_)
          refine z_istore_n (loc2 := [fr 20, fr 36, fi x17, fi step, fu]) dX1_findRing_41 (by decide) rfl ?_
          refine z_iinc (loc2 := fun vq => [fr 20, fr 36, fi x17, fi vq, fu]) dX1_findRing_42 rfl (by decide) (by omega) (fun _ => rfl) (fun x18 hx18 => ?_)
          refine z_goto (tgt := 14) dX1_findRing_45 (by decide) ?_
          exact ih14 _ (by omega) x17 x18 (m + 1) rfl (by omega) (by show _ = parX Mz1 (chain (parX Mz1) x1 m); rw [← h1]; unfold parX; simp_all)
    refine z_iconst dX1_findRing_12 ⟨by decide, by decide⟩ ?_
    refine z_istore_n (loc2 := [fr 20, fr 36, fi x1, fi 0, fu]) dX1_findRing_13 (by decide) rfl ?_
    exact lp14 _ x1 0 0 rfl (by omega) (rfl)
  · refine z_iconst dX1_findRing_10 ⟨by decide, by decide⟩ ?_
    refine z_iret rfl (by decide) rfl (Nat.sub_self _) dX1_findRing_11 ?_
    refine ⟨fun b j q1 q2 q3 => hof b j q1 q2, Or.inl ⟨rfl, ?_⟩⟩
    rcases hq with q | q
    · exact ⟨_, q.2.1⟩
    · have := q.1; omega
/-- the way that markWay marks: what is on it alone keeps the goal -/
def MW (M0 : FMem) (what src goal : Int) (M M2 : FMem) : Prop := (∀ b j, b ≠ 30 → M2 b j = M b j) ∧ (∀ t, 0 ≤ t → t < 80 → M2 30 t = 1 → ∃ q, 0 ≤ q ∧ q < M0 20 7 ∧ t = M0 27 q) ∧ ∀ y : Int → Int, (∀ p a b w, EdX M0 what p a b w → M2 30 (M0 27 (p / 2)) = 1 → y b ≤ y a + w) → y goal - y src ≤ M 28 goal
theorem tele {way y : Int → Int} {c : Nat → Int} {m : Nat} (h : ∀ j, j < m → y (c j) - way (c j) ≤ y (c (j + 1)) - way (c (j + 1))) : y (c 0) - way (c 0) ≤ y (c m) - way (c m) := by
  induction m with
  | zero => omega
  | succ m ih => have a := ih (fun j hj => h j (by omega)); have b := h m (by omega); omega
set_option maxHeartbeats 400000 in
theorem A_X1_markWay1 (l : Launch) (g : Cx) (M : FMem) (goal : Int) (M0 : FMem) (src : Int) (hg : nd goal) (hs : nd src) (hN : NetOk M0) (hF : RF M0 1 src M) (hx : ∃ x, Sat (EdX M0 1) x) (hw : M 28 goal ≠ 2000000000) : AMv l g true fi_X1_markWay [fr 20, fi goal] 93 M (fun M2 => MW M0 1 src goal M M2) := by
  refine AMv_intro [fr 20, fi goal, fu, fu] (by decide) (knall rfl) (Nat.le_of_ble_eq_true rfl) rfl ?_
  intro hNV hM0 μ
  have bgoal : N32 goal := hNV (fi goal) (by simp)
  obtain ⟨hof, ta, pa, s0, hR, hs0, hs1, hQ⟩ := id hF
  have hpar := RI_par hN hR
  have hok := EdX_ok hN 1
  obtain ⟨x0, hx0⟩ := hx
  have hsrc := RF_src hF hs hx0
  have hnx : ∀ v, nd v → 0 ≤ ta v → M 28 v ≠ 2000000000 → nd (parX M v) ∧ M 28 (parX M v) ≠ 2000000000 := by
    intro v hv ht _
    obtain ⟨w, hE⟩ := hpar v ht
    exact ⟨(hok.1 _ _ _ _ hE).2.2.1, (hR.2.1.2.1 _ _ _ ht hE).1⟩
  have lp25 : ∀ (kq : Nat) (v step : Int) (m : Nat) (M1 : FMem), (17 - m) = kq → (step = m ∧ m ≤ 17) → (v = chain (parX M) goal m) → (∀ b j, b ≠ 30 → M1 b j = M b j) → (∀ j : Nat, j < m → 0 ≤ ta (chain (parX M) goal j) ∧ nd (chain (parX M) goal j) ∧ M1 30 (M 29 (chain (parX M) goal j)) = 1) → (nd v ∧ M 28 v ≠ 2000000000) → (∀ t, 0 ≤ t → t < 80 → M1 30 t = 1 → ∃ q, 0 ≤ q ∧ q < M0 20 7 ∧ t = M0 27 q) → Wa l g true fi_X1_markWay 93 μ (Zv g true fi_X1_markWay 93 μ (fun M2 => MW M0 1 src goal M M2)) 25 [] [fr 20, fi goal, fi v, fi step] 93 M1 := by
    intro kq
    induction kq using Nat.strongRecOn with
    | _ kq ih25 =>
    intro v step m M1 hk25 h0 h1 h2 h3 h4 h5
    have e29 := h2 29 v (by decide)
    have hm17 : m < 17 := by
      by_cases e : m < 17
      · exact e
      · exfalso
        obtain ⟨hall, q0, hq1, hq2, hcy⟩ := chain_ring hR.2.1 hok hpar (v0 := goal) (fun j hj => (h3 j (by omega)).1)
        exact chain_no hR.2.1 hok hpar (m0 := 17) (q := q0) (fun m => (hall m).1) hq1 hcy (x := x0) (fun m _ _ w hw => hx0 _ _ _ _ hw)
    refine z_iload_n dX1_markWay_25 rfl ?_
    refine z_bipush dX1_markWay_26 ⟨by decide, by decide⟩ (by decide) ?_
    refine z_icmp_ge (tgt := 71) dX1_markWay_28 (by decide) (fun c1 => ?_) (fun c1 => ?_)
    · exfalso; omega
    · refine z_aload_nr dX1_markWay_31 rfl ?_
      refine z_getr (b := 29) fl_X1_44 rfl (by decide) rf_20_10 rfl dX1_markWay_32 ?_
      refine z_iload_n dX1_markWay_35 rfl ?_
      refine z_iald rfl (by decide) (by omega) (by omega) dX1_markWay_36 (fun x2 hx2 bx2 => ?_)
      refine z_iconst dX1_markWay_37 ⟨by decide, by decide⟩ ?_
      refine z_icmp_eq (tgt := 71) dX1_markWay_38 (by decide) (fun c3 => ?_) (fun c3 => ?_)
      · refine z_vret rfl (by decide) rfl (Nat.sub_self _) dX1_markWay_71 ?_
        have ht : ta v = -1 := by
          have q := (hR.2.1.1 v).1
          by_cases e : 0 ≤ ta v
          · have := RI_by hN hR h4.1 e; omega
          · omega
        have hvs : v = src := by
          have q := (hR.2.2.2.2.2 v h4.1).1 ht
          by_cases e : v = src
          · exact e
          · rw [wayS, if_neg e] at q; exact absurd q h4.2
        refine ⟨h2, h5, fun y hy => ?_⟩
        have := tele (way := fun v => M 28 v) (y := y) (c := chain (parX M) goal) (m := m) (fun j hj => ?_)
        · simp only [← h1, hvs, hsrc] at this
          have e0 : chain (parX M) goal 0 = goal := rfl
          rw [e0] at this
          omega
        · obtain ⟨q1, q2, q3⟩ := h3 j hj
          obtain ⟨w, hE⟩ := hpar _ q1
          have a := (hR.2.1.2.1 _ _ _ q1 hE).2.1
          have b := hy _ _ _ _ hE (by rw [← (RI_by hN hR q2 q1).2.2.2.2]; exact q3)
          show y _ - M 28 _ ≤ y (parX M (chain (parX M) goal j)) - M 28 (parX M (chain (parX M) goal j))
          simp only at a
          omega
      · have ht : 0 ≤ ta v := by
          have q := (hR.2.2.1 v h4.1).1
          have q2 := (hR.2.1.1 v).1
          by_cases e : 0 ≤ ta v
          · exact e
          · have := q (by omega); omega
        have hb := RI_by hN hR h4.1 ht
        refine z_aload_nr dX1_markWay_41 rfl ?_
        refine z_getr (b := 30) fl_X1_47 rfl (by decide) rf_20_11 rfl dX1_markWay_42 ?_
        refine z_aload_nr dX1_markWay_45 rfl ?_
        refine z_getr (b := 29) fl_X1_44 rfl (by decide) rf_20_10 rfl dX1_markWay_46 ?_
        refine z_iload_n dX1_markWay_49 rfl ?_
        refine z_iald rfl (by decide) (by omega) (by omega) dX1_markWay_50 (fun x4 hx4 bx4 => ?_)
        refine z_iconst dX1_markWay_51 ⟨by decide, by decide⟩ ?_
        refine z_zast rfl (by decide) (by omega) (by omega) (by omega) dX1_markWay_52 (fun Mz5 hMz5 => ?_)
        refine z_aload_nr dX1_markWay_53 rfl ?_
        refine z_aload_nr dX1_markWay_54 rfl ?_
        refine z_getr (b := 29) fl_X1_44 rfl (by decide) rf_20_10 rfl dX1_markWay_55 ?_
        refine z_iload_n dX1_markWay_58 rfl ?_
        refine z_iald rfl (by decide) (by omega) (by omega) dX1_markWay_59 (fun x6 hx6 bx6 => ?_)
        rw [hMz5, st_cell (by decide)] at hx6
        refine z_iload_n dX1_markWay_60 rfl ?_
        refine z_callVip (n2 := 93) (A_X1_otherEnd l g Mz5 x6 v (by omega)) cb_X1_otherEnd cl_X1_63 (clr0 rfl rfl (by decide) (by decide)) rfl (by decide) ⟨_, rfl, rfl⟩ rfl (by decide) rfl (Nat.le_of_ble_eq_true rfl) rfl dX1_markWay_61 (fun x7 bx7 hx7 => ?_)
        refine z_istore_n (loc2 := [fr 20, fi goal, fi x7, fi step]) dX1_markWay_64 (by decide) rfl ?_
        have hnext : x7 = chain (parX M) goal (m + 1) := by
          show _ = parX M (chain (parX M) goal m)
          rw [← h1]
          unfold parX
          subst_vars
          rw [st_cell (by decide), st_cell (by decide), h2 23 _ (by decide), h2 24 _ (by decide), e29]
        refine z_iinc (loc2 := fun vq => [fr 20, fi goal, fi x7, fi vq]) dX1_markWay_65 rfl (by decide) (by omega) (fun _ => rfl) (fun x8 hx8 => ?_)
        refine z_goto (tgt := 25) dX1_markWay_68 (by decide) ?_
        exact ih25 _ (by omega) x7 x8 (m + 1) Mz5 rfl (by omega) (hnext) (fun b j q => by subst_vars; rw [st_cell q]; exact h2 b j q) (fun j q => by rw [hMz5, st_at]; by_cases e : j = m; (subst e; rw [← h1, if_pos (by omega)]; exact ⟨ht, h4.1, rfl⟩); (have hz := h3 j (by omega); refine ⟨hz.1, hz.2.1, ?_⟩; split; rfl; exact hz.2.2)) (by rw [show x7 = parX M v by rw [hnext]; show parX M (chain (parX M) goal m) = _; rw [← h1]]; exact hnx v h4.1 ht h4.2) (fun t q1 q2 q3 => by rw [hMz5, st_at] at q3; by_cases e : t = M1 29 v; exact ⟨_, hb.2.2.1, hb.2.2.2.1, by rw [e, e29]; exact hb.2.2.2.2⟩; (rw [if_neg (by omega)] at q3; exact h5 t q1 q2 q3))
  have lp2 : ∀ (kq : Nat) (i : Int) (M1 : FMem), (80 - i).toNat = kq → (0 ≤ i ∧ i ≤ 80) → (∀ b j, b ≠ 30 → M1 b j = M b j) → (∀ t, 0 ≤ t → t < i → M1 30 t = 0) → Wa l g true fi_X1_markWay 93 μ (Zv g true fi_X1_markWay 93 μ (fun M2 => MW M0 1 src goal M M2)) 2 [] [fr 20, fi goal, fi i, fu] 93 M1 := by
    intro kq
    induction kq using Nat.strongRecOn with
    | _ kq ih2 =>
    intro i M1 hk2 h0 h1 h2
    refine z_iload_n dX1_markWay_2 rfl ?_
    refine z_bipush dX1_markWay_3 ⟨by decide, by decide⟩ (by decide) ?_
    refine z_icmp_ge (tgt := 21) dX1_markWay_5 (by decide) (fun c9 => ?_) (fun c9 => ?_)
    · refine z_iload_n dX1_markWay_21 rfl ?_
      refine z_istore_n (loc2 := [fr 20, fi goal, fi goal, fu]) dX1_markWay_22 (by decide) rfl ?_
      refine z_iconst dX1_markWay_23 ⟨by decide, by decide⟩ ?_
      refine z_istore_n (loc2 := [fr 20, fi goal, fi goal, fi 0]) dX1_markWay_24 (by decide) rfl ?_
      exact lp25 _ goal 0 0 M1 rfl (by omega) (rfl) (h1) (fun j h => by omega) (⟨hg, hw⟩) (fun t q1 q2 q3 => by have := h2 t q1 (by omega); omega)
    · refine z_aload_nr dX1_markWay_8 rfl ?_
      refine z_getr (b := 30) fl_X1_47 rfl (by decide) rf_20_11 rfl dX1_markWay_9 ?_
      refine z_iload_n dX1_markWay_12 rfl ?_
      refine z_iconst dX1_markWay_13 ⟨by decide, by decide⟩ ?_
      refine z_zast rfl (by decide) (by omega) (by omega) (by omega) dX1_markWay_14 (fun Mz10 hMz10 => ?_)
      refine z_iinc (loc2 := fun vq => [fr 20, fi goal, fi vq, fu]) dX1_markWay_15 rfl (by decide) (by omega) (fun _ => rfl) (fun x11 hx11 => ?_)
      refine z_goto (tgt := 2) dX1_markWay_18 (by decide) ?_
      exact ih2 _ (by omega) x11 Mz10 rfl (by omega) (fun b j q => by subst_vars; rw [st_cell q]; exact h1 b j q) (fun v q1 q2 => by subst_vars; rw [st_at]; split; rfl; exact h2 v q1 (by omega))
  refine z_iconst dX1_markWay_0 ⟨by decide, by decide⟩ ?_
  refine z_istore_n (loc2 := [fr 20, fi goal, fi 0, fu]) dX1_markWay_1 (by decide) rfl ?_
  exact lp2 _ 0 M rfl (by omega) (fun b j _ => rfl) (fun v _ h => by omega)
set_option maxHeartbeats 400000 in
theorem A_X1_markWay0 (l : Launch) (g : Cx) (M : FMem) (goal : Int) (M0 : FMem) (src : Int) (hg : nd goal) (hs : nd src) (hN : NetOk M0) (hF : RF M0 0 src M) (hx : ∃ x, Sat (EdX M0 0) x) (hw : M 28 goal ≠ 2000000000) : AMv l g true fi_X1_markWay [fr 20, fi goal] 93 M (fun M2 => MW M0 0 src goal M M2) := by
  refine AMv_intro [fr 20, fi goal, fu, fu] (by decide) (knall rfl) (Nat.le_of_ble_eq_true rfl) rfl ?_
  intro hNV hM0 μ
  have bgoal : N32 goal := hNV (fi goal) (by simp)
  obtain ⟨hof, ta, pa, s0, hR, hs0, hs1, hQ⟩ := id hF
  have hpar := RI_par hN hR
  have hok := EdX_ok hN 0
  obtain ⟨x0, hx0⟩ := hx
  have hsrc := RF_src hF hs hx0
  have hnx : ∀ v, nd v → 0 ≤ ta v → M 28 v ≠ 2000000000 → nd (parX M v) ∧ M 28 (parX M v) ≠ 2000000000 := by
    intro v hv ht _
    obtain ⟨w, hE⟩ := hpar v ht
    exact ⟨(hok.1 _ _ _ _ hE).2.2.1, (hR.2.1.2.1 _ _ _ ht hE).1⟩
  have lp25 : ∀ (kq : Nat) (v step : Int) (m : Nat) (M1 : FMem), (17 - m) = kq → (step = m ∧ m ≤ 17) → (v = chain (parX M) goal m) → (∀ b j, b ≠ 30 → M1 b j = M b j) → (∀ j : Nat, j < m → 0 ≤ ta (chain (parX M) goal j) ∧ nd (chain (parX M) goal j) ∧ M1 30 (M 29 (chain (parX M) goal j)) = 1) → (nd v ∧ M 28 v ≠ 2000000000) → (∀ t, 0 ≤ t → t < 80 → M1 30 t = 1 → ∃ q, 0 ≤ q ∧ q < M0 20 7 ∧ t = M0 27 q) → Wa l g true fi_X1_markWay 93 μ (Zv g true fi_X1_markWay 93 μ (fun M2 => MW M0 0 src goal M M2)) 25 [] [fr 20, fi goal, fi v, fi step] 93 M1 := by
    intro kq
    induction kq using Nat.strongRecOn with
    | _ kq ih25 =>
    intro v step m M1 hk25 h0 h1 h2 h3 h4 h5
    have e29 := h2 29 v (by decide)
    have hm17 : m < 17 := by
      by_cases e : m < 17
      · exact e
      · exfalso
        obtain ⟨hall, q0, hq1, hq2, hcy⟩ := chain_ring hR.2.1 hok hpar (v0 := goal) (fun j hj => (h3 j (by omega)).1)
        exact chain_no hR.2.1 hok hpar (m0 := 17) (q := q0) (fun m => (hall m).1) hq1 hcy (x := x0) (fun m _ _ w hw => hx0 _ _ _ _ hw)
    refine z_iload_n dX1_markWay_25 rfl ?_
    refine z_bipush dX1_markWay_26 ⟨by decide, by decide⟩ (by decide) ?_
    refine z_icmp_ge (tgt := 71) dX1_markWay_28 (by decide) (fun c1 => ?_) (fun c1 => ?_)
    · exfalso; omega
    · refine z_aload_nr dX1_markWay_31 rfl ?_
      refine z_getr (b := 29) fl_X1_44 rfl (by decide) rf_20_10 rfl dX1_markWay_32 ?_
      refine z_iload_n dX1_markWay_35 rfl ?_
      refine z_iald rfl (by decide) (by omega) (by omega) dX1_markWay_36 (fun x2 hx2 bx2 => ?_)
      refine z_iconst dX1_markWay_37 ⟨by decide, by decide⟩ ?_
      refine z_icmp_eq (tgt := 71) dX1_markWay_38 (by decide) (fun c3 => ?_) (fun c3 => ?_)
      · refine z_vret rfl (by decide) rfl (Nat.sub_self _) dX1_markWay_71 ?_
        have ht : ta v = -1 := by
          have q := (hR.2.1.1 v).1
          by_cases e : 0 ≤ ta v
          · have := RI_by hN hR h4.1 e; omega
          · omega
        have hvs : v = src := by
          have q := (hR.2.2.2.2.2 v h4.1).1 ht
          by_cases e : v = src
          · exact e
          · rw [wayS, if_neg e] at q; exact absurd q h4.2
        refine ⟨h2, h5, fun y hy => ?_⟩
        have := tele (way := fun v => M 28 v) (y := y) (c := chain (parX M) goal) (m := m) (fun j hj => ?_)
        · simp only [← h1, hvs, hsrc] at this
          have e0 : chain (parX M) goal 0 = goal := rfl
          rw [e0] at this
          omega
        · obtain ⟨q1, q2, q3⟩ := h3 j hj
          obtain ⟨w, hE⟩ := hpar _ q1
          have a := (hR.2.1.2.1 _ _ _ q1 hE).2.1
          have b := hy _ _ _ _ hE (by rw [← (RI_by hN hR q2 q1).2.2.2.2]; exact q3)
          show y _ - M 28 _ ≤ y (parX M (chain (parX M) goal j)) - M 28 (parX M (chain (parX M) goal j))
          simp only at a
          omega
      · have ht : 0 ≤ ta v := by
          have q := (hR.2.2.1 v h4.1).1
          have q2 := (hR.2.1.1 v).1
          by_cases e : 0 ≤ ta v
          · exact e
          · have := q (by omega); omega
        have hb := RI_by hN hR h4.1 ht
        refine z_aload_nr dX1_markWay_41 rfl ?_
        refine z_getr (b := 30) fl_X1_47 rfl (by decide) rf_20_11 rfl dX1_markWay_42 ?_
        refine z_aload_nr dX1_markWay_45 rfl ?_
        refine z_getr (b := 29) fl_X1_44 rfl (by decide) rf_20_10 rfl dX1_markWay_46 ?_
        refine z_iload_n dX1_markWay_49 rfl ?_
        refine z_iald rfl (by decide) (by omega) (by omega) dX1_markWay_50 (fun x4 hx4 bx4 => ?_)
        refine z_iconst dX1_markWay_51 ⟨by decide, by decide⟩ ?_
        refine z_zast rfl (by decide) (by omega) (by omega) (by omega) dX1_markWay_52 (fun Mz5 hMz5 => ?_)
        refine z_aload_nr dX1_markWay_53 rfl ?_
        refine z_aload_nr dX1_markWay_54 rfl ?_
        refine z_getr (b := 29) fl_X1_44 rfl (by decide) rf_20_10 rfl dX1_markWay_55 ?_
        refine z_iload_n dX1_markWay_58 rfl ?_
        refine z_iald rfl (by decide) (by omega) (by omega) dX1_markWay_59 (fun x6 hx6 bx6 => ?_)
        rw [hMz5, st_cell (by decide)] at hx6
        refine z_iload_n dX1_markWay_60 rfl ?_
        refine z_callVip (n2 := 93) (A_X1_otherEnd l g Mz5 x6 v (by omega)) cb_X1_otherEnd cl_X1_63 (clr0 rfl rfl (by decide) (by decide)) rfl (by decide) ⟨_, rfl, rfl⟩ rfl (by decide) rfl (Nat.le_of_ble_eq_true rfl) rfl dX1_markWay_61 (fun x7 bx7 hx7 => ?_)
        refine z_istore_n (loc2 := [fr 20, fi goal, fi x7, fi step]) dX1_markWay_64 (by decide) rfl ?_
        have hnext : x7 = chain (parX M) goal (m + 1) := by
          show _ = parX M (chain (parX M) goal m)
          rw [← h1]
          unfold parX
          subst_vars
          rw [st_cell (by decide), st_cell (by decide), h2 23 _ (by decide), h2 24 _ (by decide), e29]
        refine z_iinc (loc2 := fun vq => [fr 20, fi goal, fi x7, fi vq]) dX1_markWay_65 rfl (by decide) (by omega) (fun _ => rfl) (fun x8 hx8 => ?_)
        refine z_goto (tgt := 25) dX1_markWay_68 (by decide) ?_
        exact ih25 _ (by omega) x7 x8 (m + 1) Mz5 rfl (by omega) (hnext) (fun b j q => by subst_vars; rw [st_cell q]; exact h2 b j q) (fun j q => by rw [hMz5, st_at]; by_cases e : j = m; (subst e; rw [← h1, if_pos (by omega)]; exact ⟨ht, h4.1, rfl⟩); (have hz := h3 j (by omega); refine ⟨hz.1, hz.2.1, ?_⟩; split; rfl; exact hz.2.2)) (by rw [show x7 = parX M v by rw [hnext]; show parX M (chain (parX M) goal m) = _; rw [← h1]]; exact hnx v h4.1 ht h4.2) (fun t q1 q2 q3 => by rw [hMz5, st_at] at q3; by_cases e : t = M1 29 v; exact ⟨_, hb.2.2.1, hb.2.2.2.1, by rw [e, e29]; exact hb.2.2.2.2⟩; (rw [if_neg (by omega)] at q3; exact h5 t q1 q2 q3))
  have lp2 : ∀ (kq : Nat) (i : Int) (M1 : FMem), (80 - i).toNat = kq → (0 ≤ i ∧ i ≤ 80) → (∀ b j, b ≠ 30 → M1 b j = M b j) → (∀ t, 0 ≤ t → t < i → M1 30 t = 0) → Wa l g true fi_X1_markWay 93 μ (Zv g true fi_X1_markWay 93 μ (fun M2 => MW M0 0 src goal M M2)) 2 [] [fr 20, fi goal, fi i, fu] 93 M1 := by
    intro kq
    induction kq using Nat.strongRecOn with
    | _ kq ih2 =>
    intro i M1 hk2 h0 h1 h2
    refine z_iload_n dX1_markWay_2 rfl ?_
    refine z_bipush dX1_markWay_3 ⟨by decide, by decide⟩ (by decide) ?_
    refine z_icmp_ge (tgt := 21) dX1_markWay_5 (by decide) (fun c9 => ?_) (fun c9 => ?_)
    · refine z_iload_n dX1_markWay_21 rfl ?_
      refine z_istore_n (loc2 := [fr 20, fi goal, fi goal, fu]) dX1_markWay_22 (by decide) rfl ?_
      refine z_iconst dX1_markWay_23 ⟨by decide, by decide⟩ ?_
      refine z_istore_n (loc2 := [fr 20, fi goal, fi goal, fi 0]) dX1_markWay_24 (by decide) rfl ?_
      exact lp25 _ goal 0 0 M1 rfl (by omega) (rfl) (h1) (fun j h => by omega) (⟨hg, hw⟩) (fun t q1 q2 q3 => by have := h2 t q1 (by omega); omega)
    · refine z_aload_nr dX1_markWay_8 rfl ?_
      refine z_getr (b := 30) fl_X1_47 rfl (by decide) rf_20_11 rfl dX1_markWay_9 ?_
      refine z_iload_n dX1_markWay_12 rfl ?_
      refine z_iconst dX1_markWay_13 ⟨by decide, by decide⟩ ?_
      refine z_zast rfl (by decide) (by omega) (by omega) (by omega) dX1_markWay_14 (fun Mz10 hMz10 => ?_)
      refine z_iinc (loc2 := fun vq => [fr 20, fi goal, fi vq, fu]) dX1_markWay_15 rfl (by decide) (by omega) (fun _ => rfl) (fun x11 hx11 => ?_)
      refine z_goto (tgt := 2) dX1_markWay_18 (by decide) ?_
      exact ih2 _ (by omega) x11 Mz10 rfl (by omega) (fun b j q => by subst_vars; rw [st_cell q]; exact h1 b j q) (fun v q1 q2 => by subst_vars; rw [st_at]; split; rfl; exact h2 v q1 (by omega))
  refine z_iconst dX1_markWay_0 ⟨by decide, by decide⟩ ?_
  refine z_istore_n (loc2 := [fr 20, fi goal, fi 0, fu]) dX1_markWay_1 (by decide) rfl ?_
  exact lp2 _ 0 M rfl (by omega) (fun b j _ => rfl) (fun v _ h => by omega)
