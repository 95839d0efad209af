/-! ===== the reader: a whole text; read ===== -/
theorem rdl_s (t : Int → Int) (n : Int) (m : Nat) (p k : Int) (R : FMem) : rdl t n (m + 1) p k R = if ¬ sk t n p < n then (0, -1, k, R) else if kdW t n (sk t n p) = -1 then (1, sk t n p, k, R) else if kdW t n (sk t n p) = 4 ∧ 8 ≤ R 0 11 then (3, sk t n p, k, R) else if 20 ≤ k then (4, sk t n p, k, R)
    else if (clR t n (sk t n p) (kdW t n (sk t n p))).1.1 ≠ 0 then ((clR t n (sk t n p) (kdW t n (sk t n p))).1.1, (clR t n (sk t n p) (kdW t n (sk t n p))).1.2.1, k, R)
    else rdl t n m (clR t n (sk t n p) (kdW t n (sk t n p))).1.2.2 (k + 1) (eff (kdW t n (sk t n p)) (clR t n (sk t n p) (kdW t n (sk t n p))).2.2 (clV t n (sk t n p) (kdW t n (sk t n p))) R) := rfl
set_option maxHeartbeats 3200000 in
theorem A_X2_readInto42 (l : Launch) (g : Cx) (M : FMem) (hl : 0 ≤ M 17 1 ∧ M 17 1 ≤ 240) : AMi l g true fi_X2_readInto [fr 17, fr 42] 93 M (fun q M2 => M2 17 2 = (rdl (tx M) (M 17 1) 21 0 0 R0).1 ∧ M2 17 3 = (rdl (tx M) (M 17 1) 21 0 0 R0).2.1 ∧ M2 17 1 = 0 ∧ ((rdl (tx M) (M 17 1) 21 0 0 R0).1 = 0 → q = (rdl (tx M) (M 17 1) 21 0 0 R0).2.2.1 ∧ DrP (sh 42 M2) (rdl (tx M) (M 17 1) 21 0 0 R0).2.2.2) ∧ (∀ b j, b ≠ 17 → b ≠ 19 → (b < 42 ∨ 50 < b) → M2 b j = M b j)) := by
  refine AMi_intro [fr 17, fr 42, fu, fu] (by decide) (knall rfl) (Nat.le_of_ble_eq_true rfl) rfl ?_
  intro hNV hM0 μ
  have lp23 : ∀ (kq : Nat) (kz nz : Int) (M1 Rz : FMem), (21 - kz).toNat = kq → (0 ≤ kz ∧ kz ≤ 20 ∧ nz = kz) → (0 ≤ M1 17 4 ∧ M1 17 4 ≤ M 17 1) → (M1 17 1 = M 17 1 ∧ tx M1 = tx M ∧ M1 17 2 = 0 ∧ M1 17 3 = -1) → (∀ b j, b ≠ 17 → b ≠ 19 → (b < 42 ∨ 50 < b) → M1 b j = M b j) → (DrP (sh 42 M1) Rz) → ((rdl (tx M) (M 17 1) 21 0 0 R0) = rdl (tx M) (M 17 1) (21 - kz).toNat (M1 17 4) kz Rz) → (0 ≤ Rz 0 11 ∧ Rz 0 11 ≤ 8) → Wa l g true fi_X2_readInto 93 μ (Zi g true fi_X2_readInto 93 μ (fun q M2 => M2 17 2 = (rdl (tx M) (M 17 1) 21 0 0 R0).1 ∧ M2 17 3 = (rdl (tx M) (M 17 1) 21 0 0 R0).2.1 ∧ M2 17 1 = 0 ∧ ((rdl (tx M) (M 17 1) 21 0 0 R0).1 = 0 → q = (rdl (tx M) (M 17 1) 21 0 0 R0).2.2.1 ∧ DrP (sh 42 M2) (rdl (tx M) (M 17 1) 21 0 0 R0).2.2.2) ∧ (∀ b j, b ≠ 17 → b ≠ 19 → (b < 42 ∨ 50 < b) → M2 b j = M b j))) 23 [] [fr 17, fr 42, fi kz, fi nz] 93 M1 := by
    intro kq
    induction kq using Nat.strongRecOn with
    | _ kq ih23 =>
    intro kz nz M1 Rz hk23 h1 h2 h3 h4 h5 h6 h7
    refine z_iload_n dX2_readInto_23 rfl ?_
    refine z_sipush dX2_readInto_24 ⟨by decide, by decide⟩ (by decide) ?_
    refine z_icmp_ge (tgt := 74) dX2_readInto_27 (by decide) (fun c1 => ?_) (fun c1 => ?_)
    · exfalso; omega
    · refine z_aload_nr dX2_readInto_30 rfl ?_
      refine z_callVv (n2 := 93) (A_X2_skipBlanks l g M1 (by omega) (by omega)) cb_X2_skipBlanks cl_X2_39 (clr0 rfl rfl (by decide) (by decide)) rfl (by decide) ⟨_, rfl, rfl⟩ rfl (by decide) rfl (Nat.le_of_ble_eq_true rfl) rfl dX2_readInto_31 (fun Mz2 kMz2 hc2 => ?_)
      have hMs := hc2
      rw [h3.2.1, h3.1] at hMs
      have eat : Mz2 17 4 = (sk (tx M) (M 17 1) (M1 17 4)) := by rw [hMs]; exact st_same _ _ _ _
      have eln : Mz2 17 1 = M 17 1 := by rw [hMs, st_at, if_neg (by decide)]; exact h3.1
      have etf : tx Mz2 = tx M := funext fun i => by show Mz2 18 i = _; rw [hMs, st_cell (by decide)]; exact congrFun h3.2.1 i
      have ef2 : Mz2 17 2 = 0 := by rw [hMs, st_at, if_neg (by decide)]; exact h3.2.2.1
      have ef3 : Mz2 17 3 = -1 := by rw [hMs, st_at, if_neg (by decide)]; exact h3.2.2.2
      have er11 : Mz2 42 11 = Rz 0 11 := by rw [hMs, st_cell (by decide)]; exact h5.2.1.2.2.2
      have eof : ∀ b j, b ≠ 17 → b ≠ 19 → (b < 42 ∨ 50 < b) → Mz2 b j = M b j := fun b j p q z => by rw [hMs, st_cell p]; exact h4 b j p q z
      have edr : DrP (sh 42 Mz2) Rz := by
        have hq : sh 42 Mz2 = sh 42 M1 := by
          funext c i
          show Mz2 (42 + c) i = M1 (42 + c) i
          rw [hMs, st_cell (by omega)]
        rw [hq]; exact h5
      have hsb := sk_b (t := tx M) h2.1 h2.2
      have hun := h6
      rw [show (21 - kz).toNat = (20 - kz).toNat + 1 by omega] at hun
      have hun := hun.trans (rdl_s (tx M) (M 17 1) (20 - kz).toNat (M1 17 4) kz Rz)
      refine z_aload_nr dX2_readInto_34 rfl ?_
      refine z_geti (kz := 4) fl_X2_25 rfl (by decide) rfl dX2_readInto_35 (fun x3 hx3 bx3 => ?_)
      refine z_aload_nr dX2_readInto_38 rfl ?_
      refine z_geti (kz := 1) fl_X2_15 rfl (by decide) rfl dX2_readInto_39 (fun x4 hx4 bx4 => ?_)
      refine z_icmp_ge (tgt := 74) dX2_readInto_42 (by decide) (fun c5 => ?_) (fun c5 => ?_)
      · refine z_aload_nr dX2_readInto_74 rfl ?_
        refine z_iconst dX2_readInto_75 ⟨by decide, by decide⟩ ?_
        refine z_puti (kz := 1) fl_X2_15 rfl (by decide) rfl nr_17_1 dX2_readInto_76 (fun Mz6 hMz6 => ?_)
        refine z_iload_n dX2_readInto_79 rfl ?_
        refine z_iret rfl (by decide) rfl (Nat.sub_self _) dX2_readInto_80 ?_
        first
        | (have hD : (rdl (tx M) (M 17 1) 21 0 0 R0) = (0, -1, kz, Rz) := by rw [hun, if_pos (by omega)]
           rw [hD, hMz6]
           refine ⟨?_, ?_, st_same _ _ _ _, fun _ => ⟨rfl, ?_⟩, fun b j p q z => ?_⟩
           · rw [st_at, if_neg (by decide)]; exact ef2
           · rw [st_at, if_neg (by decide)]; exact ef3
           · have hq : ∀ Mx : FMem, sh 42 (st Mx 17 1 0) = sh 42 Mx := fun Mx => by
               funext c i
               show st Mx 17 1 0 (42 + c) i = Mx (42 + c) i
               rw [st_cell (by omega)]
             rw [hq]; exact edr
           · rw [st_cell p]; exact eof b j p q z)
        | (have hb := hmb
           rcases hb with ⟨a, b, c⟩ | ⟨a, b, c⟩
           · exfalso; omega
           have hD : (rdl (tx M) (M 17 1) 21 0 0 R0).1 = bgC (kdW (tx M) (M 17 1) (sk (tx M) (M 17 1) (M1 17 4))) (Rz 0 11) kz ∧ (rdl (tx M) (M 17 1) 21 0 0 R0).2.1 = (sk (tx M) (M 17 1) (M1 17 4)) := by
             rw [hun, if_neg (by omega)]
             unfold bgC at b ⊢
             by_cases z1 : (kdW (tx M) (M 17 1) (sk (tx M) (M 17 1) (M1 17 4))) = -1
             · rw [if_pos z1, if_pos z1]; exact ⟨rfl, rfl⟩
             · rw [if_neg z1, if_neg z1]
               by_cases z2 : (kdW (tx M) (M 17 1) (sk (tx M) (M 17 1) (M1 17 4))) = 4 ∧ 8 ≤ Rz 0 11
               · rw [if_pos z2, if_pos z2]; exact ⟨rfl, rfl⟩
               · rw [if_neg z2, if_neg z2]
                 by_cases z3 : 20 ≤ kz
                 · rw [if_pos z3, if_pos z3]; exact ⟨rfl, rfl⟩
                 · rw [if_neg z1, if_neg z2, if_neg z3] at b; exact absurd rfl b
           rw [hMz6, c]
           refine ⟨?_, ?_, st_same _ _ _ _, fun z => absurd (hD.1.symm.trans z) b, fun b j p q z => ?_⟩
           · rw [st_at, if_neg (by decide), st_at, if_neg (by decide), st_same, hD.1]
           · rw [st_at, if_neg (by decide), st_same, hD.2]
           · rw [st_cell p, st_cell p, st_cell p]; exact eof b j p q z)
        | (rcases hcl with ⟨a, b, c⟩ | ⟨a, b, c⟩
           · exfalso; omega
           have hD : (rdl (tx M) (M 17 1) 21 0 0 R0).1 = (clR (tx M) (M 17 1) (sk (tx M) (M 17 1) (M1 17 4)) (kdW (tx M) (M 17 1) (sk (tx M) (M 17 1) (M1 17 4)))).1.1 ∧ (rdl (tx M) (M 17 1) 21 0 0 R0).2.1 = (clR (tx M) (M 17 1) (sk (tx M) (M 17 1) (M1 17 4)) (kdW (tx M) (M 17 1) (sk (tx M) (M 17 1) (M1 17 4)))).1.2.1 := by
             rw [hun, if_neg (by omega), if_neg hg.1, if_neg hg.2.1, if_neg hg.2.2, if_pos b]
             exact ⟨rfl, rfl⟩
           rw [hMz6]
           refine ⟨?_, ?_, st_same _ _ _ _, fun z => absurd (hD.1.symm.trans z) b, fun b j p q z => ?_⟩
           · rw [st_at, if_neg (by decide), hD.1]; exact (c.2.2 b).1
           · rw [st_at, if_neg (by decide), hD.2]; exact (c.2.2 b).2
           · rw [st_cell p, c.1 b j (fun y => p y.1) q]; exact eof b j p q z)
      · refine z_aload_nr dX2_readInto_45 rfl ?_
        refine z_aload_nr dX2_readInto_46 rfl ?_
        refine z_iload_n dX2_readInto_47 rfl ?_
        have hlt : (sk (tx M) (M 17 1) (M1 17 4)) < M 17 1 := by omega
        obtain ⟨Ms0, hMs0⟩ : ∃ z, z = Mz2 := ⟨_, rfl⟩
        refine z_callVi (n2 := 93) (A_X2_mayBegin42 l g Mz2 kz (by omega) (by omega)) cb_X2_mayBegin cl_X2_42 (clr0 rfl rfl (by decide) (by decide)) rfl (by decide) ⟨_, rfl, rfl⟩ rfl (by decide) rfl (Nat.le_of_ble_eq_true rfl) rfl dX2_readInto_48 (fun x7 Mz7 bx7 kMz7 hc7 => ?_)
        have hmb := hc7
        rw [etf, eln, eat, er11] at hmb
        refine z_if_eq (tgt := 74) dX2_readInto_51 (by decide) (fun c8 => ?_) (fun c8 => ?_)
        · refine z_aload_nr dX2_readInto_74 rfl ?_
          refine z_iconst dX2_readInto_75 ⟨by decide, by decide⟩ ?_
          refine z_puti (kz := 1) fl_X2_15 rfl (by decide) rfl nr_17_1 dX2_readInto_76 (fun Mz9 hMz9 => ?_)
          refine z_iload_n dX2_readInto_79 rfl ?_
          refine z_iret rfl (by decide) rfl (Nat.sub_self _) dX2_readInto_80 ?_
          first
          | (have hD : (rdl (tx M) (M 17 1) 21 0 0 R0) = (0, -1, kz, Rz) := by rw [hun, if_pos (by omega)]
             rw [hD, hMz9]
             refine ⟨?_, ?_, st_same _ _ _ _, fun _ => ⟨rfl, ?_⟩, fun b j p q z => ?_⟩
             · rw [st_at, if_neg (by decide)]; exact ef2
             · rw [st_at, if_neg (by decide)]; exact ef3
             · have hq : ∀ Mx : FMem, sh 42 (st Mx 17 1 0) = sh 42 Mx := fun Mx => by
                 funext c i
                 show st Mx 17 1 0 (42 + c) i = Mx (42 + c) i
                 rw [st_cell (by omega)]
               rw [hq]; exact edr
             · rw [st_cell p]; exact eof b j p q z)
          | (have hb := hmb
             rcases hb with ⟨a, b, c⟩ | ⟨a, b, c⟩
             · exfalso; omega
             have hD : (rdl (tx M) (M 17 1) 21 0 0 R0).1 = bgC (kdW (tx M) (M 17 1) (sk (tx M) (M 17 1) (M1 17 4))) (Rz 0 11) kz ∧ (rdl (tx M) (M 17 1) 21 0 0 R0).2.1 = (sk (tx M) (M 17 1) (M1 17 4)) := by
               rw [hun, if_neg (by omega)]
               unfold bgC at b ⊢
               by_cases z1 : (kdW (tx M) (M 17 1) (sk (tx M) (M 17 1) (M1 17 4))) = -1
               · rw [if_pos z1, if_pos z1]; exact ⟨rfl, rfl⟩
               · rw [if_neg z1, if_neg z1]
                 by_cases z2 : (kdW (tx M) (M 17 1) (sk (tx M) (M 17 1) (M1 17 4))) = 4 ∧ 8 ≤ Rz 0 11
                 · rw [if_pos z2, if_pos z2]; exact ⟨rfl, rfl⟩
                 · rw [if_neg z2, if_neg z2]
                   by_cases z3 : 20 ≤ kz
                   · rw [if_pos z3, if_pos z3]; exact ⟨rfl, rfl⟩
                   · rw [if_neg z1, if_neg z2, if_neg z3] at b; exact absurd rfl b
             rw [hMz9, c]
             refine ⟨?_, ?_, st_same _ _ _ _, fun z => absurd (hD.1.symm.trans z) b, fun b j p q z => ?_⟩
             · rw [st_at, if_neg (by decide), st_at, if_neg (by decide), st_same, hD.1]
             · rw [st_at, if_neg (by decide), st_same, hD.2]
             · rw [st_cell p, st_cell p, st_cell p]; exact eof b j p q z)
          | (rcases hcl with ⟨a, b, c⟩ | ⟨a, b, c⟩
             · exfalso; omega
             have hD : (rdl (tx M) (M 17 1) 21 0 0 R0).1 = (clR (tx M) (M 17 1) (sk (tx M) (M 17 1) (M1 17 4)) (kdW (tx M) (M 17 1) (sk (tx M) (M 17 1) (M1 17 4)))).1.1 ∧ (rdl (tx M) (M 17 1) 21 0 0 R0).2.1 = (clR (tx M) (M 17 1) (sk (tx M) (M 17 1) (M1 17 4)) (kdW (tx M) (M 17 1) (sk (tx M) (M 17 1) (M1 17 4)))).1.2.1 := by
               rw [hun, if_neg (by omega), if_neg hg.1, if_neg hg.2.1, if_neg hg.2.2, if_pos b]
               exact ⟨rfl, rfl⟩
             rw [hMz9]
             refine ⟨?_, ?_, st_same _ _ _ _, fun z => absurd (hD.1.symm.trans z) b, fun b j p q z => ?_⟩
             · rw [st_at, if_neg (by decide), hD.1]; exact (c.2.2 b).1
             · rw [st_at, if_neg (by decide), hD.2]; exact (c.2.2 b).2
             · rw [st_cell p, c.1 b j (fun y => p y.1) q]; exact eof b j p q z)
        · have hgb : bgC (kdW (tx M) (M 17 1) (sk (tx M) (M 17 1) (M1 17 4))) (Rz 0 11) kz = 0 ∧ Mz7 = Ms0 := by
            rw [hMs0]
            rcases hmb with ⟨a, b, c⟩ | ⟨a, b, c⟩
            · exact ⟨b, c⟩
            · exfalso; omega
          have c48 := hgb.2
          have hg : ¬ (kdW (tx M) (M 17 1) (sk (tx M) (M 17 1) (M1 17 4))) = -1 ∧ ¬ ((kdW (tx M) (M 17 1) (sk (tx M) (M 17 1) (M1 17 4))) = 4 ∧ 8 ≤ Rz 0 11) ∧ ¬ 20 ≤ kz := by
            have hb := hgb.1
            unfold bgC at hb
            split at hb
            · omega
            · split at hb
              · omega
              · split at hb
                · omega
                · rename_i a b c; exact ⟨a, b, c⟩
          rw [← hMs0] at eat eln etf ef2 ef3 er11 eof edr
          refine z_aload_nr dX2_readInto_54 rfl ?_
          refine z_aload_nr dX2_readInto_55 rfl ?_
          refine z_callVi (n2 := 93) (A_X2_readClause42 l g Mz7 (by rw [c48]; omega) (by rw [c48]; omega) (by rw [c48]; exact ef2) (by rw [c48]; exact ef3) (by rw [c48, etf, eln, eat]; exact hg.1) (by rw [c48, etf, eln, eat]; exact sk_sk _ _ _) (by rw [c48, etf, eln, eat, er11]; intro z; have := hg.2.1; omega)) cb_X2_readClause cl_X2_46 (clr0 rfl rfl (by decide) (by decide)) rfl (by decide) ⟨_, rfl, rfl⟩ rfl (by decide) rfl (Nat.le_of_ble_eq_true rfl) rfl dX2_readInto_56 (fun x10 Mz10 bx10 kMz10 hc10 => ?_)
          have hcl := hc10
          rw [c48, etf, eln, eat] at hcl
          refine z_if_ne (tgt := 65) dX2_readInto_59 (by decide) (fun c11 => ?_) (fun c11 => ?_)
          · refine z_iinc (loc2 := fun vq => [fr 17, fr 42, fi vq, fi nz]) dX2_readInto_65 rfl (by decide) (by omega) (fun _ => rfl) (fun x12 hx12 => ?_)
            refine z_iinc (loc2 := fun vq => [fr 17, fr 42, fi x12, fi vq]) dX2_readInto_68 rfl (by decide) (by omega) (fun _ => rfl) (fun x13 hx13 => ?_)
            refine z_goto (tgt := 23) dX2_readInto_71 (by decide) ?_
            have hbk : ∃ Mq, (clR (tx M) (M 17 1) (sk (tx M) (M 17 1) (M1 17 4)) (kdW (tx M) (M 17 1) (sk (tx M) (M 17 1) (M1 17 4)))).1.1 = 0 ∧ Rs Ms0 (clR (tx M) (M 17 1) (sk (tx M) (M 17 1) (M1 17 4)) (kdW (tx M) (M 17 1) (sk (tx M) (M 17 1) (M1 17 4)))) Mq ∧ Mz10 = effR 42 (kdW (tx M) (M 17 1) (sk (tx M) (M 17 1) (M1 17 4))) (clR (tx M) (M 17 1) (sk (tx M) (M 17 1) (M1 17 4)) (kdW (tx M) (M 17 1) (sk (tx M) (M 17 1) (M1 17 4)))).2.2 (clV (tx M) (M 17 1) (sk (tx M) (M 17 1) (M1 17 4)) (kdW (tx M) (M 17 1) (sk (tx M) (M 17 1) (M1 17 4)))) Mq := by
              rcases hcl with ⟨a, b, Mq, c, d⟩ | ⟨a, b, c⟩
              · exact ⟨Mq, b, c, d⟩
              · exfalso; omega
            obtain ⟨Mq, k1, k2, k3⟩ := hbk
            have k4 := k2.2.1 k1
            have k5 := clR_ok (R := Rz) (ab := clV (tx M) (M 17 1) (sk (tx M) (M 17 1) (M1 17 4)) (kdW (tx M) (M 17 1) (sk (tx M) (M 17 1) (M1 17 4)))) (by omega) hg.1 k1
            have k6 : (rdl (tx M) (M 17 1) 21 0 0 R0) = rdl (tx M) (M 17 1) (20 - kz).toNat (clR (tx M) (M 17 1) (sk (tx M) (M 17 1) (M1 17 4)) (kdW (tx M) (M 17 1) (sk (tx M) (M 17 1) (M1 17 4)))).1.2.2 (kz + 1) (eff (kdW (tx M) (M 17 1) (sk (tx M) (M 17 1) (M1 17 4))) (clR (tx M) (M 17 1) (sk (tx M) (M 17 1) (M1 17 4)) (kdW (tx M) (M 17 1) (sk (tx M) (M 17 1) (M1 17 4)))).2.2 (clV (tx M) (M 17 1) (sk (tx M) (M 17 1) (M1 17 4)) (kdW (tx M) (M 17 1) (sk (tx M) (M 17 1) (M1 17 4)))) Rz) := by
              rw [hun, if_neg (by omega), if_neg hg.1, if_neg hg.2.1, if_neg hg.2.2, if_neg (fun z => z k1)]
            have k7 : Mz10 17 4 = (clR (tx M) (M 17 1) (sk (tx M) (M 17 1) (M1 17 4)) (kdW (tx M) (M 17 1) (sk (tx M) (M 17 1) (M1 17 4)))).1.2.2 := by rw [k3, effR_off (by omega)]; exact k4.1
            have k8 : sh 42 Mq = sh 42 Ms0 := by
              funext c i
              show Mq (42 + c) i = Ms0 (42 + c) i
              exact k2.1 _ _ (by omega) (by omega)
            have k9 : 0 ≤ eff (kdW (tx M) (M 17 1) (sk (tx M) (M 17 1) (M1 17 4))) (clR (tx M) (M 17 1) (sk (tx M) (M 17 1) (M1 17 4)) (kdW (tx M) (M 17 1) (sk (tx M) (M 17 1) (M1 17 4)))).2.2 (clV (tx M) (M 17 1) (sk (tx M) (M 17 1) (M1 17 4)) (kdW (tx M) (M 17 1) (sk (tx M) (M 17 1) (M1 17 4)))) Rz 0 11 ∧ eff (kdW (tx M) (M 17 1) (sk (tx M) (M 17 1) (M1 17 4))) (clR (tx M) (M 17 1) (sk (tx M) (M 17 1) (M1 17 4)) (kdW (tx M) (M 17 1) (sk (tx M) (M 17 1) (M1 17 4)))).2.2 (clV (tx M) (M 17 1) (sk (tx M) (M 17 1) (M1 17 4)) (kdW (tx M) (M 17 1) (sk (tx M) (M 17 1) (M1 17 4)))) Rz 0 11 ≤ 8 := by
              have hkr := kdW_r (tx M) (M 17 1) (sk (tx M) (M 17 1) (M1 17 4))
              have hgg := hg
              unfold eff
              repeat' split
              · simpa [st] using h7
              · simpa [st] using h7
              · simpa [st] using h7
              · simpa [st] using h7
              · rw [st_same]; omega
            exact ih23 _ (by omega) x12 x13 Mz10 ((eff (kdW (tx M) (M 17 1) (sk (tx M) (M 17 1) (M1 17 4))) (clR (tx M) (M 17 1) (sk (tx M) (M 17 1) (M1 17 4)) (kdW (tx M) (M 17 1) (sk (tx M) (M 17 1) (M1 17 4)))).2.2 (clV (tx M) (M 17 1) (sk (tx M) (M 17 1) (M1 17 4)) (kdW (tx M) (M 17 1) (sk (tx M) (M 17 1) (M1 17 4)))) Rz)) rfl (by omega) (by rw [k7]; exact k5.1) (⟨by rw [k3, effR_off (by omega), k2.1 17 1 (by omega) (by decide)]; exact eln, by rw [show tx Mz10 = tx Ms0 from funext fun i => by show Mz10 18 i = _; rw [k3, effR_off (by omega)]; exact k2.1 18 i (by omega) (by decide)]; exact etf, by rw [k3, effR_off (by omega)]; exact k4.2.1, by rw [k3, effR_off (by omega)]; exact k4.2.2.1⟩) (fun b j p q z => by rw [k3, effR_off z, k2.1 b j (fun y => p y.1) q]; exact eof b j p q z) (by rw [k3, sh_eff, k8]; exact DrP_eff edr) (by rw [k6, k7, show (21 - x12).toNat = (20 - kz).toNat by omega, hx12]) (k9)
          · refine z_goto (tgt := 74) dX2_readInto_62 (by decide) ?_
            refine z_aload_nr dX2_readInto_74 rfl ?_
            refine z_iconst dX2_readInto_75 ⟨by decide, by decide⟩ ?_
            refine z_puti (kz := 1) fl_X2_15 rfl (by decide) rfl nr_17_1 dX2_readInto_76 (fun Mz14 hMz14 => ?_)
            refine z_iload_n dX2_readInto_79 rfl ?_
            refine z_iret rfl (by decide) rfl (Nat.sub_self _) dX2_readInto_80 ?_
            first
            | (have hD : (rdl (tx M) (M 17 1) 21 0 0 R0) = (0, -1, kz, Rz) := by rw [hun, if_pos (by omega)]
               rw [hD, hMz14]
               refine ⟨?_, ?_, st_same _ _ _ _, fun _ => ⟨rfl, ?_⟩, fun b j p q z => ?_⟩
               · rw [st_at, if_neg (by decide)]; exact ef2
               · rw [st_at, if_neg (by decide)]; exact ef3
               · have hq : ∀ Mx : FMem, sh 42 (st Mx 17 1 0) = sh 42 Mx := fun Mx => by
                   funext c i
                   show st Mx 17 1 0 (42 + c) i = Mx (42 + c) i
                   rw [st_cell (by omega)]
                 rw [hq]; exact edr
               · rw [st_cell p]; exact eof b j p q z)
            | (have hb := hmb
               rcases hb with ⟨a, b, c⟩ | ⟨a, b, c⟩
               · exfalso; omega
               have hD : (rdl (tx M) (M 17 1) 21 0 0 R0).1 = bgC (kdW (tx M) (M 17 1) (sk (tx M) (M 17 1) (M1 17 4))) (Rz 0 11) kz ∧ (rdl (tx M) (M 17 1) 21 0 0 R0).2.1 = (sk (tx M) (M 17 1) (M1 17 4)) := by
                 rw [hun, if_neg (by omega)]
                 unfold bgC at b ⊢
                 by_cases z1 : (kdW (tx M) (M 17 1) (sk (tx M) (M 17 1) (M1 17 4))) = -1
                 · rw [if_pos z1, if_pos z1]; exact ⟨rfl, rfl⟩
                 · rw [if_neg z1, if_neg z1]
                   by_cases z2 : (kdW (tx M) (M 17 1) (sk (tx M) (M 17 1) (M1 17 4))) = 4 ∧ 8 ≤ Rz 0 11
                   · rw [if_pos z2, if_pos z2]; exact ⟨rfl, rfl⟩
                   · rw [if_neg z2, if_neg z2]
                     by_cases z3 : 20 ≤ kz
                     · rw [if_pos z3, if_pos z3]; exact ⟨rfl, rfl⟩
                     · rw [if_neg z1, if_neg z2, if_neg z3] at b; exact absurd rfl b
               rw [hMz14, c]
               refine ⟨?_, ?_, st_same _ _ _ _, fun z => absurd (hD.1.symm.trans z) b, fun b j p q z => ?_⟩
               · rw [st_at, if_neg (by decide), st_at, if_neg (by decide), st_same, hD.1]
               · rw [st_at, if_neg (by decide), st_same, hD.2]
               · rw [st_cell p, st_cell p, st_cell p]; exact eof b j p q z)
            | (rcases hcl with ⟨a, b, c⟩ | ⟨a, b, c⟩
               · exfalso; omega
               have hD : (rdl (tx M) (M 17 1) 21 0 0 R0).1 = (clR (tx M) (M 17 1) (sk (tx M) (M 17 1) (M1 17 4)) (kdW (tx M) (M 17 1) (sk (tx M) (M 17 1) (M1 17 4)))).1.1 ∧ (rdl (tx M) (M 17 1) 21 0 0 R0).2.1 = (clR (tx M) (M 17 1) (sk (tx M) (M 17 1) (M1 17 4)) (kdW (tx M) (M 17 1) (sk (tx M) (M 17 1) (M1 17 4)))).1.2.1 := by
                 rw [hun, if_neg (by omega), if_neg hg.1, if_neg hg.2.1, if_neg hg.2.2, if_pos b]
                 exact ⟨rfl, rfl⟩
               rw [hMz14]
               refine ⟨?_, ?_, st_same _ _ _ _, fun z => absurd (hD.1.symm.trans z) b, fun b j p q z => ?_⟩
               · rw [st_at, if_neg (by decide), hD.1]; exact (c.2.2 b).1
               · rw [st_at, if_neg (by decide), hD.2]; exact (c.2.2 b).2
               · rw [st_cell p, c.1 b j (fun y => p y.1) q]; exact eof b j p q z)
  refine z_aload_nr dX2_readInto_0 rfl ?_
  refine z_callVv (n2 := 93) (A_X3_setAsAtFirst42 l g M ) cb_X3_setAsAtFirst cl_X2_34 (clr0 rfl rfl (by decide) (by decide)) rfl (by decide) ⟨_, rfl, rfl⟩ rfl (by decide) rfl (Nat.le_of_ble_eq_true rfl) rfl dX2_readInto_1 (fun Mz15 kMz15 hc15 => ?_)
  have hsf := hc15
  refine z_aload_nr dX2_readInto_4 rfl ?_
  refine z_iconst dX2_readInto_5 ⟨by decide, by decide⟩ ?_
  refine z_puti (kz := 2) fl_X2_19 rfl (by decide) rfl nr_17_2 dX2_readInto_6 (fun Mz16 hMz16 => ?_)
  refine z_aload_nr dX2_readInto_9 rfl ?_
  refine z_iconst dX2_readInto_10 ⟨by decide, by decide⟩ ?_
  refine z_puti (kz := 3) fl_X2_22 rfl (by decide) rfl nr_17_3 dX2_readInto_11 (fun Mz17 hMz17 => ?_)
  refine z_aload_nr dX2_readInto_14 rfl ?_
  refine z_iconst dX2_readInto_15 ⟨by decide, by decide⟩ ?_
  refine z_puti (kz := 4) fl_X2_25 rfl (by decide) rfl nr_17_4 dX2_readInto_16 (fun Mz18 hMz18 => ?_)
  refine z_iconst dX2_readInto_19 ⟨by decide, by decide⟩ ?_
  refine z_istore_n (loc2 := [fr 17, fr 42, fi 0, fu]) dX2_readInto_20 (by decide) rfl ?_
  refine z_iconst dX2_readInto_21 ⟨by decide, by decide⟩ ?_
  refine z_istore_n (loc2 := [fr 17, fr 42, fi 0, fi 0]) dX2_readInto_22 (by decide) rfl ?_
  have en : Mz18 17 1 = M 17 1 := by rw [hMz18, hMz17, hMz16, st_at, if_neg (by decide), st_at, if_neg (by decide), st_at, if_neg (by decide), hsf]; unfold setF; rw [if_neg (by omega), if_neg (by omega), if_neg (by omega)]
  have et : tx Mz18 = tx M := funext fun i => by show Mz18 18 i = _; rw [hMz18, hMz17, hMz16, st_cell (by decide), st_cell (by decide), st_cell (by decide), hsf]; unfold setF; rw [if_neg (by omega), if_neg (by omega), if_neg (by omega)]
  have ea : Mz18 17 4 = 0 := by rw [hMz18, hMz17, hMz16]; exact st_same _ _ _ _
  have e2 : Mz18 17 2 = 0 := by rw [hMz18, hMz17, hMz16, st_at, if_neg (by decide), st_at, if_neg (by decide)]; exact st_same _ _ _ _
  have e3 : Mz18 17 3 = -1 := by rw [hMz18, hMz17, hMz16, st_at, if_neg (by decide)]; exact st_same _ _ _ _
  have eo : ∀ b j, b ≠ 17 → b ≠ 19 → (b < 42 ∨ 50 < b) → Mz18 b j = M b j := fun b j p q z => by rw [hMz18, hMz17, hMz16, st_cell p, st_cell p, st_cell p, hsf]; unfold setF; rw [if_neg (by omega), if_neg (by omega), if_neg (by omega)]
  have ed : DrP (sh 42 Mz18) R0 := by
    have hq : sh 42 Mz18 = sh 42 (setF M 42) := by
      funext c i
      show Mz18 (42 + c) i = setF M 42 (42 + c) i
      rw [hMz18, hMz17, hMz16, st_cell (by omega), st_cell (by omega), st_cell (by omega), hsf]
    rw [hq]
    unfold sh setF R0
    refine ⟨fun c i a b e f => ?_, ⟨?_, ?_, ?_, ?_⟩, fun c i a b e f => ?_⟩
    · dsimp only
      rw [if_pos (by omega), if_neg (by omega)]
    · simp
    · simp
    · simp
    · simp
    · simp at f; omega
  exact lp23 _ 0 0 Mz18 R0 rfl (by omega) (by omega) (⟨en, et, e2, e3⟩) (eo) (ed) (by rw [ea]; rfl) (by simp [R0])
set_option maxHeartbeats 3200000 in
theorem A_X2_readInto51 (l : Launch) (g : Cx) (M : FMem) (hl : 0 ≤ M 17 1 ∧ M 17 1 ≤ 240) : AMi l g true fi_X2_readInto [fr 17, fr 51] 93 M (fun q M2 => M2 17 2 = (rdl (tx M) (M 17 1) 21 0 0 R0).1 ∧ M2 17 3 = (rdl (tx M) (M 17 1) 21 0 0 R0).2.1 ∧ M2 17 1 = 0 ∧ ((rdl (tx M) (M 17 1) 21 0 0 R0).1 = 0 → q = (rdl (tx M) (M 17 1) 21 0 0 R0).2.2.1 ∧ DrP (sh 51 M2) (rdl (tx M) (M 17 1) 21 0 0 R0).2.2.2) ∧ (∀ b j, b ≠ 17 → b ≠ 19 → (b < 51 ∨ 59 < b) → M2 b j = M b j)) := by
  refine AMi_intro [fr 17, fr 51, fu, fu] (by decide) (knall rfl) (Nat.le_of_ble_eq_true rfl) rfl ?_
  intro hNV hM0 μ
  have lp23 : ∀ (kq : Nat) (kz nz : Int) (M1 Rz : FMem), (21 - kz).toNat = kq → (0 ≤ kz ∧ kz ≤ 20 ∧ nz = kz) → (0 ≤ M1 17 4 ∧ M1 17 4 ≤ M 17 1) → (M1 17 1 = M 17 1 ∧ tx M1 = tx M ∧ M1 17 2 = 0 ∧ M1 17 3 = -1) → (∀ b j, b ≠ 17 → b ≠ 19 → (b < 51 ∨ 59 < b) → M1 b j = M b j) → (DrP (sh 51 M1) Rz) → ((rdl (tx M) (M 17 1) 21 0 0 R0) = rdl (tx M) (M 17 1) (21 - kz).toNat (M1 17 4) kz Rz) → (0 ≤ Rz 0 11 ∧ Rz 0 11 ≤ 8) → Wa l g true fi_X2_readInto 93 μ (Zi g true fi_X2_readInto 93 μ (fun q M2 => M2 17 2 = (rdl (tx M) (M 17 1) 21 0 0 R0).1 ∧ M2 17 3 = (rdl (tx M) (M 17 1) 21 0 0 R0).2.1 ∧ M2 17 1 = 0 ∧ ((rdl (tx M) (M 17 1) 21 0 0 R0).1 = 0 → q = (rdl (tx M) (M 17 1) 21 0 0 R0).2.2.1 ∧ DrP (sh 51 M2) (rdl (tx M) (M 17 1) 21 0 0 R0).2.2.2) ∧ (∀ b j, b ≠ 17 → b ≠ 19 → (b < 51 ∨ 59 < b) → M2 b j = M b j))) 23 [] [fr 17, fr 51, fi kz, fi nz] 93 M1 := by
    intro kq
    induction kq using Nat.strongRecOn with
    | _ kq ih23 =>
    intro kz nz M1 Rz hk23 h1 h2 h3 h4 h5 h6 h7
    refine z_iload_n dX2_readInto_23 rfl ?_
    refine z_sipush dX2_readInto_24 ⟨by decide, by decide⟩ (by decide) ?_
    refine z_icmp_ge (tgt := 74) dX2_readInto_27 (by decide) (fun c1 => ?_) (fun c1 => ?_)
    · exfalso; omega
    · refine z_aload_nr dX2_readInto_30 rfl ?_
      refine z_callVv (n2 := 93) (A_X2_skipBlanks l g M1 (by omega) (by omega)) cb_X2_skipBlanks cl_X2_39 (clr0 rfl rfl (by decide) (by decide)) rfl (by decide) ⟨_, rfl, rfl⟩ rfl (by decide) rfl (Nat.le_of_ble_eq_true rfl) rfl dX2_readInto_31 (fun Mz2 kMz2 hc2 => ?_)
      have hMs := hc2
      rw [h3.2.1, h3.1] at hMs
      have eat : Mz2 17 4 = (sk (tx M) (M 17 1) (M1 17 4)) := by rw [hMs]; exact st_same _ _ _ _
      have eln : Mz2 17 1 = M 17 1 := by rw [hMs, st_at, if_neg (by decide)]; exact h3.1
      have etf : tx Mz2 = tx M := funext fun i => by show Mz2 18 i = _; rw [hMs, st_cell (by decide)]; exact congrFun h3.2.1 i
      have ef2 : Mz2 17 2 = 0 := by rw [hMs, st_at, if_neg (by decide)]; exact h3.2.2.1
      have ef3 : Mz2 17 3 = -1 := by rw [hMs, st_at, if_neg (by decide)]; exact h3.2.2.2
      have er11 : Mz2 51 11 = Rz 0 11 := by rw [hMs, st_cell (by decide)]; exact h5.2.1.2.2.2
      have eof : ∀ b j, b ≠ 17 → b ≠ 19 → (b < 51 ∨ 59 < b) → Mz2 b j = M b j := fun b j p q z => by rw [hMs, st_cell p]; exact h4 b j p q z
      have edr : DrP (sh 51 Mz2) Rz := by
        have hq : sh 51 Mz2 = sh 51 M1 := by
          funext c i
          show Mz2 (51 + c) i = M1 (51 + c) i
          rw [hMs, st_cell (by omega)]
        rw [hq]; exact h5
      have hsb := sk_b (t := tx M) h2.1 h2.2
      have hun := h6
      rw [show (21 - kz).toNat = (20 - kz).toNat + 1 by omega] at hun
      have hun := hun.trans (rdl_s (tx M) (M 17 1) (20 - kz).toNat (M1 17 4) kz Rz)
      refine z_aload_nr dX2_readInto_34 rfl ?_
      refine z_geti (kz := 4) fl_X2_25 rfl (by decide) rfl dX2_readInto_35 (fun x3 hx3 bx3 => ?_)
      refine z_aload_nr dX2_readInto_38 rfl ?_
      refine z_geti (kz := 1) fl_X2_15 rfl (by decide) rfl dX2_readInto_39 (fun x4 hx4 bx4 => ?_)
      refine z_icmp_ge (tgt := 74) dX2_readInto_42 (by decide) (fun c5 => ?_) (fun c5 => ?_)
      · refine z_aload_nr dX2_readInto_74 rfl ?_
        refine z_iconst dX2_readInto_75 ⟨by decide, by decide⟩ ?_
        refine z_puti (kz := 1) fl_X2_15 rfl (by decide) rfl nr_17_1 dX2_readInto_76 (fun Mz6 hMz6 => ?_)
        refine z_iload_n dX2_readInto_79 rfl ?_
        refine z_iret rfl (by decide) rfl (Nat.sub_self _) dX2_readInto_80 ?_
        first
        | (have hD : (rdl (tx M) (M 17 1) 21 0 0 R0) = (0, -1, kz, Rz) := by rw [hun, if_pos (by omega)]
           rw [hD, hMz6]
           refine ⟨?_, ?_, st_same _ _ _ _, fun _ => ⟨rfl, ?_⟩, fun b j p q z => ?_⟩
           · rw [st_at, if_neg (by decide)]; exact ef2
           · rw [st_at, if_neg (by decide)]; exact ef3
           · have hq : ∀ Mx : FMem, sh 51 (st Mx 17 1 0) = sh 51 Mx := fun Mx => by
               funext c i
               show st Mx 17 1 0 (51 + c) i = Mx (51 + c) i
               rw [st_cell (by omega)]
             rw [hq]; exact edr
           · rw [st_cell p]; exact eof b j p q z)
        | (have hb := hmb
           rcases hb with ⟨a, b, c⟩ | ⟨a, b, c⟩
           · exfalso; omega
           have hD : (rdl (tx M) (M 17 1) 21 0 0 R0).1 = bgC (kdW (tx M) (M 17 1) (sk (tx M) (M 17 1) (M1 17 4))) (Rz 0 11) kz ∧ (rdl (tx M) (M 17 1) 21 0 0 R0).2.1 = (sk (tx M) (M 17 1) (M1 17 4)) := by
             rw [hun, if_neg (by omega)]
             unfold bgC at b ⊢
             by_cases z1 : (kdW (tx M) (M 17 1) (sk (tx M) (M 17 1) (M1 17 4))) = -1
             · rw [if_pos z1, if_pos z1]; exact ⟨rfl, rfl⟩
             · rw [if_neg z1, if_neg z1]
               by_cases z2 : (kdW (tx M) (M 17 1) (sk (tx M) (M 17 1) (M1 17 4))) = 4 ∧ 8 ≤ Rz 0 11
               · rw [if_pos z2, if_pos z2]; exact ⟨rfl, rfl⟩
               · rw [if_neg z2, if_neg z2]
                 by_cases z3 : 20 ≤ kz
                 · rw [if_pos z3, if_pos z3]; exact ⟨rfl, rfl⟩
                 · rw [if_neg z1, if_neg z2, if_neg z3] at b; exact absurd rfl b
           rw [hMz6, c]
           refine ⟨?_, ?_, st_same _ _ _ _, fun z => absurd (hD.1.symm.trans z) b, fun b j p q z => ?_⟩
           · rw [st_at, if_neg (by decide), st_at, if_neg (by decide), st_same, hD.1]
           · rw [st_at, if_neg (by decide), st_same, hD.2]
           · rw [st_cell p, st_cell p, st_cell p]; exact eof b j p q z)
        | (rcases hcl with ⟨a, b, c⟩ | ⟨a, b, c⟩
           · exfalso; omega
           have hD : (rdl (tx M) (M 17 1) 21 0 0 R0).1 = (clR (tx M) (M 17 1) (sk (tx M) (M 17 1) (M1 17 4)) (kdW (tx M) (M 17 1) (sk (tx M) (M 17 1) (M1 17 4)))).1.1 ∧ (rdl (tx M) (M 17 1) 21 0 0 R0).2.1 = (clR (tx M) (M 17 1) (sk (tx M) (M 17 1) (M1 17 4)) (kdW (tx M) (M 17 1) (sk (tx M) (M 17 1) (M1 17 4)))).1.2.1 := by
             rw [hun, if_neg (by omega), if_neg hg.1, if_neg hg.2.1, if_neg hg.2.2, if_pos b]
             exact ⟨rfl, rfl⟩
           rw [hMz6]
           refine ⟨?_, ?_, st_same _ _ _ _, fun z => absurd (hD.1.symm.trans z) b, fun b j p q z => ?_⟩
           · rw [st_at, if_neg (by decide), hD.1]; exact (c.2.2 b).1
           · rw [st_at, if_neg (by decide), hD.2]; exact (c.2.2 b).2
           · rw [st_cell p, c.1 b j (fun y => p y.1) q]; exact eof b j p q z)
      · refine z_aload_nr dX2_readInto_45 rfl ?_
        refine z_aload_nr dX2_readInto_46 rfl ?_
        refine z_iload_n dX2_readInto_47 rfl ?_
        have hlt : (sk (tx M) (M 17 1) (M1 17 4)) < M 17 1 := by omega
        obtain ⟨Ms0, hMs0⟩ : ∃ z, z = Mz2 := ⟨_, rfl⟩
        refine z_callVi (n2 := 93) (A_X2_mayBegin51 l g Mz2 kz (by omega) (by omega)) cb_X2_mayBegin cl_X2_42 (clr0 rfl rfl (by decide) (by decide)) rfl (by decide) ⟨_, rfl, rfl⟩ rfl (by decide) rfl (Nat.le_of_ble_eq_true rfl) rfl dX2_readInto_48 (fun x7 Mz7 bx7 kMz7 hc7 => ?_)
        have hmb := hc7
        rw [etf, eln, eat, er11] at hmb
        refine z_if_eq (tgt := 74) dX2_readInto_51 (by decide) (fun c8 => ?_) (fun c8 => ?_)
        · refine z_aload_nr dX2_readInto_74 rfl ?_
          refine z_iconst dX2_readInto_75 ⟨by decide, by decide⟩ ?_
          refine z_puti (kz := 1) fl_X2_15 rfl (by decide) rfl nr_17_1 dX2_readInto_76 (fun Mz9 hMz9 => ?_)
          refine z_iload_n dX2_readInto_79 rfl ?_
          refine z_iret rfl (by decide) rfl (Nat.sub_self _) dX2_readInto_80 ?_
          first
          | (have hD : (rdl (tx M) (M 17 1) 21 0 0 R0) = (0, -1, kz, Rz) := by rw [hun, if_pos (by omega)]
             rw [hD, hMz9]
             refine ⟨?_, ?_, st_same _ _ _ _, fun _ => ⟨rfl, ?_⟩, fun b j p q z => ?_⟩
             · rw [st_at, if_neg (by decide)]; exact ef2
             · rw [st_at, if_neg (by decide)]; exact ef3
             · have hq : ∀ Mx : FMem, sh 51 (st Mx 17 1 0) = sh 51 Mx := fun Mx => by
                 funext c i
                 show st Mx 17 1 0 (51 + c) i = Mx (51 + c) i
                 rw [st_cell (by omega)]
               rw [hq]; exact edr
             · rw [st_cell p]; exact eof b j p q z)
          | (have hb := hmb
             rcases hb with ⟨a, b, c⟩ | ⟨a, b, c⟩
             · exfalso; omega
             have hD : (rdl (tx M) (M 17 1) 21 0 0 R0).1 = bgC (kdW (tx M) (M 17 1) (sk (tx M) (M 17 1) (M1 17 4))) (Rz 0 11) kz ∧ (rdl (tx M) (M 17 1) 21 0 0 R0).2.1 = (sk (tx M) (M 17 1) (M1 17 4)) := by
               rw [hun, if_neg (by omega)]
               unfold bgC at b ⊢
               by_cases z1 : (kdW (tx M) (M 17 1) (sk (tx M) (M 17 1) (M1 17 4))) = -1
               · rw [if_pos z1, if_pos z1]; exact ⟨rfl, rfl⟩
               · rw [if_neg z1, if_neg z1]
                 by_cases z2 : (kdW (tx M) (M 17 1) (sk (tx M) (M 17 1) (M1 17 4))) = 4 ∧ 8 ≤ Rz 0 11
                 · rw [if_pos z2, if_pos z2]; exact ⟨rfl, rfl⟩
                 · rw [if_neg z2, if_neg z2]
                   by_cases z3 : 20 ≤ kz
                   · rw [if_pos z3, if_pos z3]; exact ⟨rfl, rfl⟩
                   · rw [if_neg z1, if_neg z2, if_neg z3] at b; exact absurd rfl b
             rw [hMz9, c]
             refine ⟨?_, ?_, st_same _ _ _ _, fun z => absurd (hD.1.symm.trans z) b, fun b j p q z => ?_⟩
             · rw [st_at, if_neg (by decide), st_at, if_neg (by decide), st_same, hD.1]
             · rw [st_at, if_neg (by decide), st_same, hD.2]
             · rw [st_cell p, st_cell p, st_cell p]; exact eof b j p q z)
          | (rcases hcl with ⟨a, b, c⟩ | ⟨a, b, c⟩
             · exfalso; omega
             have hD : (rdl (tx M) (M 17 1) 21 0 0 R0).1 = (clR (tx M) (M 17 1) (sk (tx M) (M 17 1) (M1 17 4)) (kdW (tx M) (M 17 1) (sk (tx M) (M 17 1) (M1 17 4)))).1.1 ∧ (rdl (tx M) (M 17 1) 21 0 0 R0).2.1 = (clR (tx M) (M 17 1) (sk (tx M) (M 17 1) (M1 17 4)) (kdW (tx M) (M 17 1) (sk (tx M) (M 17 1) (M1 17 4)))).1.2.1 := by
               rw [hun, if_neg (by omega), if_neg hg.1, if_neg hg.2.1, if_neg hg.2.2, if_pos b]
               exact ⟨rfl, rfl⟩
             rw [hMz9]
             refine ⟨?_, ?_, st_same _ _ _ _, fun z => absurd (hD.1.symm.trans z) b, fun b j p q z => ?_⟩
             · rw [st_at, if_neg (by decide), hD.1]; exact (c.2.2 b).1
             · rw [st_at, if_neg (by decide), hD.2]; exact (c.2.2 b).2
             · rw [st_cell p, c.1 b j (fun y => p y.1) q]; exact eof b j p q z)
        · have hgb : bgC (kdW (tx M) (M 17 1) (sk (tx M) (M 17 1) (M1 17 4))) (Rz 0 11) kz = 0 ∧ Mz7 = Ms0 := by
            rw [hMs0]
            rcases hmb with ⟨a, b, c⟩ | ⟨a, b, c⟩
            · exact ⟨b, c⟩
            · exfalso; omega
          have c48 := hgb.2
          have hg : ¬ (kdW (tx M) (M 17 1) (sk (tx M) (M 17 1) (M1 17 4))) = -1 ∧ ¬ ((kdW (tx M) (M 17 1) (sk (tx M) (M 17 1) (M1 17 4))) = 4 ∧ 8 ≤ Rz 0 11) ∧ ¬ 20 ≤ kz := by
            have hb := hgb.1
            unfold bgC at hb
            split at hb
            · omega
            · split at hb
              · omega
              · split at hb
                · omega
                · rename_i a b c; exact ⟨a, b, c⟩
          rw [← hMs0] at eat eln etf ef2 ef3 er11 eof edr
          refine z_aload_nr dX2_readInto_54 rfl ?_
          refine z_aload_nr dX2_readInto_55 rfl ?_
          refine z_callVi (n2 := 93) (A_X2_readClause51 l g Mz7 (by rw [c48]; omega) (by rw [c48]; omega) (by rw [c48]; exact ef2) (by rw [c48]; exact ef3) (by rw [c48, etf, eln, eat]; exact hg.1) (by rw [c48, etf, eln, eat]; exact sk_sk _ _ _) (by rw [c48, etf, eln, eat, er11]; intro z; have := hg.2.1; omega)) cb_X2_readClause cl_X2_46 (clr0 rfl rfl (by decide) (by decide)) rfl (by decide) ⟨_, rfl, rfl⟩ rfl (by decide) rfl (Nat.le_of_ble_eq_true rfl) rfl dX2_readInto_56 (fun x10 Mz10 bx10 kMz10 hc10 => ?_)
          have hcl := hc10
          rw [c48, etf, eln, eat] at hcl
          refine z_if_ne (tgt := 65) dX2_readInto_59 (by decide) (fun c11 => ?_) (fun c11 => ?_)
          · refine z_iinc (loc2 := fun vq => [fr 17, fr 51, fi vq, fi nz]) dX2_readInto_65 rfl (by decide) (by omega) (fun _ => rfl) (fun x12 hx12 => ?_)
            refine z_iinc (loc2 := fun vq => [fr 17, fr 51, fi x12, fi vq]) dX2_readInto_68 rfl (by decide) (by omega) (fun _ => rfl) (fun x13 hx13 => ?_)
            refine z_goto (tgt := 23) dX2_readInto_71 (by decide) ?_
            have hbk : ∃ Mq, (clR (tx M) (M 17 1) (sk (tx M) (M 17 1) (M1 17 4)) (kdW (tx M) (M 17 1) (sk (tx M) (M 17 1) (M1 17 4)))).1.1 = 0 ∧ Rs Ms0 (clR (tx M) (M 17 1) (sk (tx M) (M 17 1) (M1 17 4)) (kdW (tx M) (M 17 1) (sk (tx M) (M 17 1) (M1 17 4)))) Mq ∧ Mz10 = effR 51 (kdW (tx M) (M 17 1) (sk (tx M) (M 17 1) (M1 17 4))) (clR (tx M) (M 17 1) (sk (tx M) (M 17 1) (M1 17 4)) (kdW (tx M) (M 17 1) (sk (tx M) (M 17 1) (M1 17 4)))).2.2 (clV (tx M) (M 17 1) (sk (tx M) (M 17 1) (M1 17 4)) (kdW (tx M) (M 17 1) (sk (tx M) (M 17 1) (M1 17 4)))) Mq := by
              rcases hcl with ⟨a, b, Mq, c, d⟩ | ⟨a, b, c⟩
              · exact ⟨Mq, b, c, d⟩
              · exfalso; omega
            obtain ⟨Mq, k1, k2, k3⟩ := hbk
            have k4 := k2.2.1 k1
            have k5 := clR_ok (R := Rz) (ab := clV (tx M) (M 17 1) (sk (tx M) (M 17 1) (M1 17 4)) (kdW (tx M) (M 17 1) (sk (tx M) (M 17 1) (M1 17 4)))) (by omega) hg.1 k1
            have k6 : (rdl (tx M) (M 17 1) 21 0 0 R0) = rdl (tx M) (M 17 1) (20 - kz).toNat (clR (tx M) (M 17 1) (sk (tx M) (M 17 1) (M1 17 4)) (kdW (tx M) (M 17 1) (sk (tx M) (M 17 1) (M1 17 4)))).1.2.2 (kz + 1) (eff (kdW (tx M) (M 17 1) (sk (tx M) (M 17 1) (M1 17 4))) (clR (tx M) (M 17 1) (sk (tx M) (M 17 1) (M1 17 4)) (kdW (tx M) (M 17 1) (sk (tx M) (M 17 1) (M1 17 4)))).2.2 (clV (tx M) (M 17 1) (sk (tx M) (M 17 1) (M1 17 4)) (kdW (tx M) (M 17 1) (sk (tx M) (M 17 1) (M1 17 4)))) Rz) := by
              rw [hun, if_neg (by omega), if_neg hg.1, if_neg hg.2.1, if_neg hg.2.2, if_neg (fun z => z k1)]
            have k7 : Mz10 17 4 = (clR (tx M) (M 17 1) (sk (tx M) (M 17 1) (M1 17 4)) (kdW (tx M) (M 17 1) (sk (tx M) (M 17 1) (M1 17 4)))).1.2.2 := by rw [k3, effR_off (by omega)]; exact k4.1
            have k8 : sh 51 Mq = sh 51 Ms0 := by
              funext c i
              show Mq (51 + c) i = Ms0 (51 + c) i
              exact k2.1 _ _ (by omega) (by omega)
            have k9 : 0 ≤ eff (kdW (tx M) (M 17 1) (sk (tx M) (M 17 1) (M1 17 4))) (clR (tx M) (M 17 1) (sk (tx M) (M 17 1) (M1 17 4)) (kdW (tx M) (M 17 1) (sk (tx M) (M 17 1) (M1 17 4)))).2.2 (clV (tx M) (M 17 1) (sk (tx M) (M 17 1) (M1 17 4)) (kdW (tx M) (M 17 1) (sk (tx M) (M 17 1) (M1 17 4)))) Rz 0 11 ∧ eff (kdW (tx M) (M 17 1) (sk (tx M) (M 17 1) (M1 17 4))) (clR (tx M) (M 17 1) (sk (tx M) (M 17 1) (M1 17 4)) (kdW (tx M) (M 17 1) (sk (tx M) (M 17 1) (M1 17 4)))).2.2 (clV (tx M) (M 17 1) (sk (tx M) (M 17 1) (M1 17 4)) (kdW (tx M) (M 17 1) (sk (tx M) (M 17 1) (M1 17 4)))) Rz 0 11 ≤ 8 := by
              have hkr := kdW_r (tx M) (M 17 1) (sk (tx M) (M 17 1) (M1 17 4))
              have hgg := hg
              unfold eff
              repeat' split
              · simpa [st] using h7
              · simpa [st] using h7
              · simpa [st] using h7
              · simpa [st] using h7
              · rw [st_same]; omega
            exact ih23 _ (by omega) x12 x13 Mz10 ((eff (kdW (tx M) (M 17 1) (sk (tx M) (M 17 1) (M1 17 4))) (clR (tx M) (M 17 1) (sk (tx M) (M 17 1) (M1 17 4)) (kdW (tx M) (M 17 1) (sk (tx M) (M 17 1) (M1 17 4)))).2.2 (clV (tx M) (M 17 1) (sk (tx M) (M 17 1) (M1 17 4)) (kdW (tx M) (M 17 1) (sk (tx M) (M 17 1) (M1 17 4)))) Rz)) rfl (by omega) (by rw [k7]; exact k5.1) (⟨by rw [k3, effR_off (by omega), k2.1 17 1 (by omega) (by decide)]; exact eln, by rw [show tx Mz10 = tx Ms0 from funext fun i => by show Mz10 18 i = _; rw [k3, effR_off (by omega)]; exact k2.1 18 i (by omega) (by decide)]; exact etf, by rw [k3, effR_off (by omega)]; exact k4.2.1, by rw [k3, effR_off (by omega)]; exact k4.2.2.1⟩) (fun b j p q z => by rw [k3, effR_off z, k2.1 b j (fun y => p y.1) q]; exact eof b j p q z) (by rw [k3, sh_eff, k8]; exact DrP_eff edr) (by rw [k6, k7, show (21 - x12).toNat = (20 - kz).toNat by omega, hx12]) (k9)
          · refine z_goto (tgt := 74) dX2_readInto_62 (by decide) ?_
            refine z_aload_nr dX2_readInto_74 rfl ?_
            refine z_iconst dX2_readInto_75 ⟨by decide, by decide⟩ ?_
            refine z_puti (kz := 1) fl_X2_15 rfl (by decide) rfl nr_17_1 dX2_readInto_76 (fun Mz14 hMz14 => ?_)
            refine z_iload_n dX2_readInto_79 rfl ?_
            refine z_iret rfl (by decide) rfl (Nat.sub_self _) dX2_readInto_80 ?_
            first
            | (have hD : (rdl (tx M) (M 17 1) 21 0 0 R0) = (0, -1, kz, Rz) := by rw [hun, if_pos (by omega)]
               rw [hD, hMz14]
               refine ⟨?_, ?_, st_same _ _ _ _, fun _ => ⟨rfl, ?_⟩, fun b j p q z => ?_⟩
               · rw [st_at, if_neg (by decide)]; exact ef2
               · rw [st_at, if_neg (by decide)]; exact ef3
               · have hq : ∀ Mx : FMem, sh 51 (st Mx 17 1 0) = sh 51 Mx := fun Mx => by
                   funext c i
                   show st Mx 17 1 0 (51 + c) i = Mx (51 + c) i
                   rw [st_cell (by omega)]
                 rw [hq]; exact edr
               · rw [st_cell p]; exact eof b j p q z)
            | (have hb := hmb
               rcases hb with ⟨a, b, c⟩ | ⟨a, b, c⟩
               · exfalso; omega
               have hD : (rdl (tx M) (M 17 1) 21 0 0 R0).1 = bgC (kdW (tx M) (M 17 1) (sk (tx M) (M 17 1) (M1 17 4))) (Rz 0 11) kz ∧ (rdl (tx M) (M 17 1) 21 0 0 R0).2.1 = (sk (tx M) (M 17 1) (M1 17 4)) := by
                 rw [hun, if_neg (by omega)]
                 unfold bgC at b ⊢
                 by_cases z1 : (kdW (tx M) (M 17 1) (sk (tx M) (M 17 1) (M1 17 4))) = -1
                 · rw [if_pos z1, if_pos z1]; exact ⟨rfl, rfl⟩
                 · rw [if_neg z1, if_neg z1]
                   by_cases z2 : (kdW (tx M) (M 17 1) (sk (tx M) (M 17 1) (M1 17 4))) = 4 ∧ 8 ≤ Rz 0 11
                   · rw [if_pos z2, if_pos z2]; exact ⟨rfl, rfl⟩
                   · rw [if_neg z2, if_neg z2]
                     by_cases z3 : 20 ≤ kz
                     · rw [if_pos z3, if_pos z3]; exact ⟨rfl, rfl⟩
                     · rw [if_neg z1, if_neg z2, if_neg z3] at b; exact absurd rfl b
               rw [hMz14, c]
               refine ⟨?_, ?_, st_same _ _ _ _, fun z => absurd (hD.1.symm.trans z) b, fun b j p q z => ?_⟩
               · rw [st_at, if_neg (by decide), st_at, if_neg (by decide), st_same, hD.1]
               · rw [st_at, if_neg (by decide), st_same, hD.2]
               · rw [st_cell p, st_cell p, st_cell p]; exact eof b j p q z)
            | (rcases hcl with ⟨a, b, c⟩ | ⟨a, b, c⟩
               · exfalso; omega
               have hD : (rdl (tx M) (M 17 1) 21 0 0 R0).1 = (clR (tx M) (M 17 1) (sk (tx M) (M 17 1) (M1 17 4)) (kdW (tx M) (M 17 1) (sk (tx M) (M 17 1) (M1 17 4)))).1.1 ∧ (rdl (tx M) (M 17 1) 21 0 0 R0).2.1 = (clR (tx M) (M 17 1) (sk (tx M) (M 17 1) (M1 17 4)) (kdW (tx M) (M 17 1) (sk (tx M) (M 17 1) (M1 17 4)))).1.2.1 := by
                 rw [hun, if_neg (by omega), if_neg hg.1, if_neg hg.2.1, if_neg hg.2.2, if_pos b]
                 exact ⟨rfl, rfl⟩
               rw [hMz14]
               refine ⟨?_, ?_, st_same _ _ _ _, fun z => absurd (hD.1.symm.trans z) b, fun b j p q z => ?_⟩
               · rw [st_at, if_neg (by decide), hD.1]; exact (c.2.2 b).1
               · rw [st_at, if_neg (by decide), hD.2]; exact (c.2.2 b).2
               · rw [st_cell p, c.1 b j (fun y => p y.1) q]; exact eof b j p q z)
  refine z_aload_nr dX2_readInto_0 rfl ?_
  refine z_callVv (n2 := 93) (A_X3_setAsAtFirst51 l g M ) cb_X3_setAsAtFirst cl_X2_34 (clr0 rfl rfl (by decide) (by decide)) rfl (by decide) ⟨_, rfl, rfl⟩ rfl (by decide) rfl (Nat.le_of_ble_eq_true rfl) rfl dX2_readInto_1 (fun Mz15 kMz15 hc15 => ?_)
  have hsf := hc15
  refine z_aload_nr dX2_readInto_4 rfl ?_
  refine z_iconst dX2_readInto_5 ⟨by decide, by decide⟩ ?_
  refine z_puti (kz := 2) fl_X2_19 rfl (by decide) rfl nr_17_2 dX2_readInto_6 (fun Mz16 hMz16 => ?_)
  refine z_aload_nr dX2_readInto_9 rfl ?_
  refine z_iconst dX2_readInto_10 ⟨by decide, by decide⟩ ?_
  refine z_puti (kz := 3) fl_X2_22 rfl (by decide) rfl nr_17_3 dX2_readInto_11 (fun Mz17 hMz17 => ?_)
  refine z_aload_nr dX2_readInto_14 rfl ?_
  refine z_iconst dX2_readInto_15 ⟨by decide, by decide⟩ ?_
  refine z_puti (kz := 4) fl_X2_25 rfl (by decide) rfl nr_17_4 dX2_readInto_16 (fun Mz18 hMz18 => ?_)
  refine z_iconst dX2_readInto_19 ⟨by decide, by decide⟩ ?_
  refine z_istore_n (loc2 := [fr 17, fr 51, fi 0, fu]) dX2_readInto_20 (by decide) rfl ?_
  refine z_iconst dX2_readInto_21 ⟨by decide, by decide⟩ ?_
  refine z_istore_n (loc2 := [fr 17, fr 51, fi 0, fi 0]) dX2_readInto_22 (by decide) rfl ?_
  have en : Mz18 17 1 = M 17 1 := by rw [hMz18, hMz17, hMz16, st_at, if_neg (by decide), st_at, if_neg (by decide), st_at, if_neg (by decide), hsf]; unfold setF; rw [if_neg (by omega), if_neg (by omega), if_neg (by omega)]
  have et : tx Mz18 = tx M := funext fun i => by show Mz18 18 i = _; rw [hMz18, hMz17, hMz16, st_cell (by decide), st_cell (by decide), st_cell (by decide), hsf]; unfold setF; rw [if_neg (by omega), if_neg (by omega), if_neg (by omega)]
  have ea : Mz18 17 4 = 0 := by rw [hMz18, hMz17, hMz16]; exact st_same _ _ _ _
  have e2 : Mz18 17 2 = 0 := by rw [hMz18, hMz17, hMz16, st_at, if_neg (by decide), st_at, if_neg (by decide)]; exact st_same _ _ _ _
  have e3 : Mz18 17 3 = -1 := by rw [hMz18, hMz17, hMz16, st_at, if_neg (by decide)]; exact st_same _ _ _ _
  have eo : ∀ b j, b ≠ 17 → b ≠ 19 → (b < 51 ∨ 59 < b) → Mz18 b j = M b j := fun b j p q z => by rw [hMz18, hMz17, hMz16, st_cell p, st_cell p, st_cell p, hsf]; unfold setF; rw [if_neg (by omega), if_neg (by omega), if_neg (by omega)]
  have ed : DrP (sh 51 Mz18) R0 := by
    have hq : sh 51 Mz18 = sh 51 (setF M 51) := by
      funext c i
      show Mz18 (51 + c) i = setF M 51 (51 + c) i
      rw [hMz18, hMz17, hMz16, st_cell (by omega), st_cell (by omega), st_cell (by omega), hsf]
    rw [hq]
    unfold sh setF R0
    refine ⟨fun c i a b e f => ?_, ⟨?_, ?_, ?_, ?_⟩, fun c i a b e f => ?_⟩
    · dsimp only
      rw [if_pos (by omega), if_neg (by omega)]
    · simp
    · simp
    · simp
    · simp
    · simp at f; omega
  exact lp23 _ 0 0 Mz18 R0 rfl (by omega) (by omega) (⟨en, et, e2, e3⟩) (eo) (ed) (by rw [ea]; rfl) (by simp [R0])
