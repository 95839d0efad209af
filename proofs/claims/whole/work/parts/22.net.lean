/-! ===== Net: ways ===== -/
theorem emod_pos {s K p : Int} (hs : s % K = 0) (h0 : 0 ≤ p) (h1 : p < K) : (s + p) % K = p := by
  rw [Int.add_emod, hs, Int.zero_add, Int.emod_emod, Int.emod_eq_of_lt h0 h1]
set_option maxHeartbeats 400000 in
theorem A_X1_relax (l : Launch) (g : Cx) (M : FMem) (i a b w : Int) (ha : nd a) (hb : nd b) (hw : M 28 a = 2000000000 ∨ (-1000000000 ≤ M 28 a ∧ M 28 a ≤ 1000000000)) (hl : -231072 ≤ w ∧ w ≤ 231072) : AMi l g true fi_X1_relax [fr 20, fi i, fi a, fi b, fi w] 93 M (fun r M2 => if M 28 a = 2000000000 ∨ M 28 b ≤ M 28 a + w then r = 0 ∧ M2 = M else r = 1 ∧ M2 = st (st M 28 b (M 28 a + w)) 29 b i) := by
  refine AMi_intro [fr 20, fi i, fi a, fi b, fi w] (by decide) (knall rfl) (Nat.le_of_ble_eq_true rfl) rfl ?_
  intro hNV hM0 μ
  have bi : N32 i := hNV (fi i) (by simp)
  have ba : N32 a := hNV (fi a) (by simp)
  have bb : N32 b := hNV (fi b) (by simp)
  have bw : N32 w := hNV (fi w) (by simp)
  refine z_aload_nr dX1_relax_0 rfl ?_
  refine z_getr (b := 28) fl_X1_41 rfl (by decide) rf_20_9 rfl dX1_relax_1 ?_
  refine z_iload_n dX1_relax_4 rfl ?_
  refine z_iald rfl (by decide) (by omega) (by omega) dX1_relax_5 (fun x1 hx1 bx1 => ?_)
  refine z_ldc (c := 2000000000) cn_X1_71 ⟨by decide, by decide⟩ dX1_relax_6 ?_
  refine z_icmp_eq (tgt := 29) dX1_relax_8 (by decide) (fun c2 => ?_) (fun c2 => ?_)
  · refine z_iconst dX1_relax_29 ⟨by decide, by decide⟩ ?_
    refine z_zret rfl (by omega) (by decide) rfl (Nat.sub_self _) dX1_relax_30 ?_
    rw [if_pos (by omega)]
    exact ⟨rfl, rfl⟩
  · refine z_aload_nr dX1_relax_11 rfl ?_
    refine z_getr (b := 28) fl_X1_41 rfl (by decide) rf_20_9 rfl dX1_relax_12 ?_
    refine z_iload_n dX1_relax_15 rfl ?_
    refine z_iald rfl (by decide) (by omega) (by omega) dX1_relax_16 (fun x3 hx3 bx3 => ?_)
    refine z_iload dX1_relax_17 rfl ?_
    first | refine z_iaddN dX1_relax_19 (by omega) (fun x4 hx4 => ?_) | refine z_iadd dX1_relax_19 (fun x4 hx4 => ?_)
    refine z_aload_nr dX1_relax_20 rfl ?_
    refine z_getr (b := 28) fl_X1_41 rfl (by decide) rf_20_9 rfl dX1_relax_21 ?_
    refine z_iload_n dX1_relax_24 rfl ?_
    refine z_iald rfl (by decide) (by omega) (by omega) dX1_relax_25 (fun x5 hx5 bx5 => ?_)
    refine z_icmp_lt (tgt := 31) dX1_relax_26 (by decide) (fun c6 => ?_) (fun c6 => ?_)
    · refine z_aload_nr dX1_relax_31 rfl ?_
      refine z_getr (b := 28) fl_X1_41 rfl (by decide) rf_20_9 rfl dX1_relax_32 ?_
      refine z_iload_n dX1_relax_35 rfl ?_
      refine z_aload_nr dX1_relax_36 rfl ?_
      refine z_getr (b := 28) fl_X1_41 rfl (by decide) rf_20_9 rfl dX1_relax_37 ?_
      refine z_iload_n dX1_relax_40 rfl ?_
      refine z_iald rfl (by decide) (by omega) (by omega) dX1_relax_41 (fun x7 hx7 bx7 => ?_)
      refine z_iload dX1_relax_42 rfl ?_
      first | refine z_iaddN dX1_relax_44 (by omega) (fun x8 hx8 => ?_) | refine z_iadd dX1_relax_44 (fun x8 hx8 => ?_)
      refine z_iast rfl (by decide) (by omega) (by omega) dX1_relax_45 (fun Mz9 hMz9 => ?_)
      refine z_aload_nr dX1_relax_46 rfl ?_
      refine z_getr (b := 29) fl_X1_44 rfl (by decide) rf_20_10 rfl dX1_relax_47 ?_
      refine z_iload_n dX1_relax_50 rfl ?_
      refine z_iload_n dX1_relax_51 rfl ?_
      refine z_iast rfl (by decide) (by omega) (by omega) dX1_relax_52 (fun Mz10 hMz10 => ?_)
      refine z_iconst dX1_relax_53 ⟨by decide, by decide⟩ ?_
      refine z_zret rfl (by omega) (by decide) rfl (Nat.sub_self _) dX1_relax_54 ?_
      rw [if_neg (by omega)]
      subst_vars
      exact ⟨rfl, rfl⟩
    · refine z_iconst dX1_relax_29 ⟨by decide, by decide⟩ ?_
      refine z_zret rfl (by omega) (by decide) rfl (Nat.sub_self _) dX1_relax_30 ?_
      rw [if_pos (by omega)]
      exact ⟨rfl, rfl⟩
set_option maxHeartbeats 400000 in
theorem A_X1_relaxAll1 (l : Launch) (g : Cx) (M : FMem) (M0 : FMem) (way0 tau pe : Int → Int) (s : Int) (hN : NetOk M0) (hI : RI M0 1 way0 M tau pe s) (hs : 0 ≤ s ∧ s + KX M0 ≤ 2800 ∧ s % KX M0 = 0) : AMi l g true fi_X1_relaxAll [fr 20, fi 1] 93 M (fun r M2 => ∃ tau2 pe2, RI M0 1 way0 M2 tau2 pe2 (s + KX M0) ∧ ((r = -1 ∧ ∀ v, tau2 v < s) ∨ (nd r ∧ s ≤ tau2 r))) := by
  refine AMi_intro [fr 20, fi 1, fu, fu, fu, fu, fu] (by decide) (knall rfl) (Nat.le_of_ble_eq_true rfl) rfl ?_
  intro hNV hM0 μ
  have lp4 : ∀ (kq : Nat) (k mv : Int) (M1 : FMem) (ta pa : Int → Int), (80 - k).toNat = kq → (0 ≤ k ∧ k ≤ M0 20 7) → (RI M0 1 way0 M1 ta pa (s + 2 * k)) → ((mv = -1 ∧ ∀ v, ta v < s) ∨ (nd mv ∧ s ≤ ta mv)) → Wa l g true fi_X1_relaxAll 93 μ (Zi g true fi_X1_relaxAll 93 μ (fun r M2 => ∃ tau2 pe2, RI M0 1 way0 M2 tau2 pe2 (s + KX M0) ∧ ((r = -1 ∧ ∀ v, tau2 v < s) ∨ (nd r ∧ s ≤ tau2 r)))) 4 [] [fr 20, fi 1, fi mv, fi k, fu, fu, fu] 93 M1 := by
    intro kq
    induction kq using Nat.strongRecOn with
    | _ kq ih4 =>
    intro k mv M1 ta pa hk4 h0 h1 h2
    have hN1 := hN.1
    have hN2 := hN.2.1
    have hN3 := hN.2.2.1
    have hN4 := hN.2.2.2.1
    have e : ∀ b j, b ≠ 28 → b ≠ 29 → M1 b j = M0 b j := h1.1
    have e7 := e 20 7 (by decide) (by decide)
    have e8 := e 20 8 (by decide) (by decide)
    have e27 := e 27 k (by decide) (by decide)
    refine z_iload_n dX1_relaxAll_4 rfl ?_
    refine z_aload_nr dX1_relaxAll_5 rfl ?_
    refine z_geti (kz := 7) fl_X1_34 rfl (by decide) rfl dX1_relaxAll_6 (fun x1 hx1 bx1 => ?_)
    refine z_icmp_ge (tgt := 152) dX1_relaxAll_9 (by decide) (fun c2 => ?_) (fun c2 => ?_)
    · refine z_iload_n dX1_relaxAll_152 rfl ?_
      refine z_iret rfl (by decide) rfl (Nat.sub_self _) dX1_relaxAll_153 ?_
      have hpos : (s + 2 * k) % KX M0 = 2 * k := emod_pos hs.2.2 (by omega) (by unfold KX; omega)
      have hpos2 : (s + (2 * k + 1)) % KX M0 = 2 * k + 1 := emod_pos hs.2.2 (by omega) (by unfold KX; omega)
      have r1 := RI_void h1 (by omega) (fun a b w he => by rw [hpos] at he; have := he.2.1; omega)
      have r2 := RI_void r1 (by omega) (fun a b w he => by rw [show s + 2 * k + 1 = s + (2 * k + 1) by omega, hpos2] at he; have := he.2.1; omega)
      refine ⟨ta, pa, ?_, h2⟩
      rw [show s + KX M0 = s + 2 * k + 1 + 1 by unfold KX; omega]
      exact r2
    · refine z_aload_nr dX1_relaxAll_12 rfl ?_
      refine z_getr (b := 27) fl_X1_31 rfl (by decide) rf_20_6 rfl dX1_relaxAll_13 ?_
      refine z_iload_n dX1_relaxAll_16 rfl ?_
      refine z_iald rfl (by decide) (by first | omega | skip) (by first | omega | skip) dX1_relaxAll_17 (fun x3 hx3 bx3 => ?_)
      refine z_istore (loc2 := [fr 20, fi 1, fi mv, fi k, fi x3, fu, fu]) dX1_relaxAll_18 (by decide) rfl ?_
      have hk := hN.2.2.2.2 k h0.1 (by omega)
      obtain ⟨xi, hxi⟩ : ∃ y, y = x3 := ⟨_, rfl⟩
      have hkx : M0 27 k = xi := by omega
      rw [hkx] at hk
      have f23 := e 23 xi (by decide) (by decide)
      have f24 := e 24 xi (by decide) (by decide)
      have f25 := e 25 xi (by decide) (by decide)
      have f26 := e 26 xi (by decide) (by decide)
      rw [hxi] at hk f23 f24 f25 f26 hkx
      refine z_iload_n dX1_relaxAll_20 rfl ?_
      refine z_iconst dX1_relaxAll_21 ⟨by decide, by decide⟩ ?_
      refine z_icmp_ne (tgt := 35) dX1_relaxAll_22 (by decide) (fun c4 => ?_) (fun c4 => ?_)
      · exfalso; omega
      · refine z_aload_nr dX1_relaxAll_25 rfl ?_
        refine z_getr (b := 26) fl_X1_28 rfl (by decide) rf_20_5 rfl dX1_relaxAll_26 ?_
        refine z_iload dX1_relaxAll_29 rfl ?_
        refine z_iald rfl (by decide) (by omega) (by omega) dX1_relaxAll_31 (fun x5 hx5 bx5 => ?_)
        refine z_goto (tgt := 43) dX1_relaxAll_32 (by decide) ?_
        refine z_aload_nr dX1_relaxAll_43 rfl ?_
        refine z_geti (kz := 8) fl_X1_38 rfl (by decide) rfl dX1_relaxAll_44 (fun x6 hx6 bx6 => ?_)
        first | refine z_iaddN dX1_relaxAll_47 (by omega) (fun x7 hx7 => ?_) | refine z_iadd dX1_relaxAll_47 (fun x7 hx7 => ?_)
        refine z_istore (loc2 := [fr 20, fi 1, fi mv, fi k, fi x3, fi x7, fu]) dX1_relaxAll_48 (by decide) rfl ?_
        refine z_iload_n dX1_relaxAll_50 rfl ?_
        refine z_iconst dX1_relaxAll_51 ⟨by decide, by decide⟩ ?_
        refine z_icmp_ne (tgt := 66) dX1_relaxAll_52 (by decide) (fun c8 => ?_) (fun c8 => ?_)
        · exfalso; omega
        · refine z_aload_nr dX1_relaxAll_55 rfl ?_
          refine z_getr (b := 25) fl_X1_25 rfl (by decide) rf_20_4 rfl dX1_relaxAll_56 ?_
          refine z_iload dX1_relaxAll_59 rfl ?_
          refine z_iald rfl (by decide) (by omega) (by omega) dX1_relaxAll_61 (fun x9 hx9 bx9 => ?_)
          refine z_inegN dX1_relaxAll_62 (by omega) (fun x10 hx10 => ?_)
          refine z_goto (tgt := 73) dX1_relaxAll_63 (by decide) ?_
          refine z_aload_nr dX1_relaxAll_73 rfl ?_
          refine z_geti (kz := 8) fl_X1_38 rfl (by decide) rfl dX1_relaxAll_74 (fun x11 hx11 bx11 => ?_)
          first | refine z_iaddN dX1_relaxAll_77 (by omega) (fun x12 hx12 => ?_) | refine z_iadd dX1_relaxAll_77 (fun x12 hx12 => ?_)
          refine z_istore (loc2 := [fr 20, fi 1, fi mv, fi k, fi x3, fi x7, fi x12]) dX1_relaxAll_78 (by decide) rfl ?_
          refine z_aload_nr dX1_relaxAll_80 rfl ?_
          refine z_iload dX1_relaxAll_81 rfl ?_
          refine z_aload_nr dX1_relaxAll_83 rfl ?_
          refine z_getr (b := 23) fl_X1_19 rfl (by decide) rf_20_2 rfl dX1_relaxAll_84 ?_
          refine z_iload dX1_relaxAll_87 rfl ?_
          refine z_iald rfl (by decide) (by omega) (by omega) dX1_relaxAll_89 (fun x13 hx13 bx13 => ?_)
          refine z_aload_nr dX1_relaxAll_90 rfl ?_
          refine z_getr (b := 24) fl_X1_22 rfl (by decide) rf_20_3 rfl dX1_relaxAll_91 ?_
          refine z_iload dX1_relaxAll_94 rfl ?_
          refine z_iald rfl (by decide) (by omega) (by omega) dX1_relaxAll_96 (fun x14 hx14 bx14 => ?_)
          refine z_iload dX1_relaxAll_97 rfl ?_
          refine z_callVi (n2 := 93) (A_X1_relax l g M1 x3 x13 x14 x7 (by omega) (by omega) (by rcases h1.2.2.2.1 x13 (by omega) with q | q; exact Or.inl q; exact Or.inr (by have := hs.2.1; unfold KX at this; omega)) (by omega)) cb_X1_relax cl_X1_84 (clr0 rfl rfl (by decide) (by decide)) rfl (by decide) ⟨_, rfl, rfl⟩ rfl (by decide) rfl (Nat.le_of_ble_eq_true rfl) rfl dX1_relaxAll_99 (fun x15 Mz15 bx15 kMz15 hc15 => ?_)
          have hpos2 : (s + 2 * k) % KX M0 = 2 * k := emod_pos hs.2.2 (by omega) (by unfold KX; omega)
          obtain ⟨ta2, p2, hR2, hq2⟩ := RI_step hN h1 (by have := hs.2.1; unfold KX at this; omega) (by
            rw [hpos2]
            refine ⟨by omega, by omega, Or.inl ⟨by omega, ?_, ?_, ?_⟩⟩
            all_goals rw [show (2 * k) / 2 = k by omega, hkx]
            · omega
            · omega
            · simp [onW, baW]; omega) (by rw [hpos2, show (2 * k) / 2 = k by omega]; exact hkx) hc15
          have e2 : ∀ b j, b ≠ 28 → b ≠ 29 → Mz15 b j = M0 b j := hR2.1
          have f232 := e2 23 x3 (by decide) (by decide)
          have f242 := e2 24 x3 (by decide) (by decide)
          refine z_if_eq (tgt := 113) dX1_relaxAll_102 (by decide) (fun c16 => ?_) (fun c16 => ?_)
          · refine z_aload_nr dX1_relaxAll_113 rfl ?_
            refine z_iload dX1_relaxAll_114 rfl ?_
            refine z_aload_nr dX1_relaxAll_116 rfl ?_
            refine z_getr (b := 24) fl_X1_22 rfl (by decide) rf_20_3 rfl dX1_relaxAll_117 ?_
            refine z_iload dX1_relaxAll_120 rfl ?_
            refine z_iald rfl (by decide) (by omega) (by omega) dX1_relaxAll_122 (fun x17 hx17 bx17 => ?_)
            refine z_aload_nr dX1_relaxAll_123 rfl ?_
            refine z_getr (b := 23) fl_X1_19 rfl (by decide) rf_20_2 rfl dX1_relaxAll_124 ?_
            refine z_iload dX1_relaxAll_127 rfl ?_
            refine z_iald rfl (by decide) (by omega) (by omega) dX1_relaxAll_129 (fun x18 hx18 bx18 => ?_)
            refine z_iload dX1_relaxAll_130 rfl ?_
            refine z_callVi (n2 := 93) (A_X1_relax l g Mz15 x3 x17 x18 x12 (by omega) (by omega) (by rcases hR2.2.2.2.1 x17 (by omega) with q | q; exact Or.inl q; exact Or.inr (by have := hs.2.1; unfold KX at this; omega)) (by omega)) cb_X1_relax cl_X1_84 (clr0 rfl rfl (by decide) (by decide)) rfl (by decide) ⟨_, rfl, rfl⟩ rfl (by decide) rfl (Nat.le_of_ble_eq_true rfl) rfl dX1_relaxAll_132 (fun x19 Mz19 bx19 kMz19 hc19 => ?_)
            have hpos3 : (s + (2 * k + 1)) % KX M0 = (2 * k + 1) := emod_pos hs.2.2 (by omega) (by unfold KX; omega)
            obtain ⟨ta3, p3, hR3, hq3⟩ := RI_step hN hR2 (by have := hs.2.1; unfold KX at this; omega) (by
              rw [show s + 2 * k + 1 = s + (2 * k + 1) by omega, hpos3]
              refine ⟨by omega, by omega, Or.inr ⟨by omega, ?_, ?_, ?_⟩⟩
              all_goals rw [show ((2 * k + 1)) / 2 = k by omega, hkx]
              · omega
              · omega
              · simp [onW, baW]; omega) (by rw [show s + 2 * k + 1 = s + (2 * k + 1) by omega, hpos3, show ((2 * k + 1)) / 2 = k by omega]; exact hkx) hc19
            have e3 : ∀ b j, b ≠ 28 → b ≠ 29 → Mz19 b j = M0 b j := hR3.1
            have f233 := e3 23 x3 (by decide) (by decide)
            have f243 := e3 24 x3 (by decide) (by decide)
            refine z_if_eq (tgt := 146) dX1_relaxAll_135 (by decide) (fun c20 => ?_) (fun c20 => ?_)
            · refine z_iinc (loc2 := fun vq => [fr 20, fi 1, fi mv, fi vq, fi x3, fi x7, fi x12]) dX1_relaxAll_146 rfl (by decide) (by omega) (fun _ => rfl) (fun x21 hx21 => ?_)
              refine z_goto (tgt := 4) dX1_relaxAll_149 (by decide) ?_
              have hm : (mv = -1 ∧ ∀ v, ta3 v < s) ∨ (nd mv ∧ s ≤ ta3 mv) := by
                rcases hq3 with ⟨r3, t3⟩ | ⟨r3, t3⟩
                · rcases hq2 with ⟨r2, t2⟩ | ⟨r2, t2⟩
                  · rw [t3, t2]
                    first | exact h2 | (exfalso; omega)
                  · rw [t3, t2]
                    first | (exfalso; omega) | (right; refine ⟨by omega, ?_⟩; rw [show mv = _ from ‹mv = _›]; first | (rw [f242, ← f24, up_s]; omega) | (simp only [up]; split <;> omega))
                · rw [t3]
                  first | (exfalso; omega) | (right; refine ⟨by omega, ?_⟩; simp only [up]; split <;> omega)
              refine z_few [fr 20, fi 1, fi mv, fi x21, fu, fu, fu] (by simp [fle, kn]) ?_
              exact ih4 _ (by omega) x21 mv Mz19 ta3 p3 rfl (by omega) (by rw [hx21, show s + 2 * (k + 1) = s + 2 * k + 1 + 1 by omega]; exact hR3) (hm)
            · refine z_aload_nr dX1_relaxAll_138 rfl ?_
              refine z_getr (b := 23) fl_X1_19 rfl (by decide) rf_20_2 rfl dX1_relaxAll_139 ?_
              refine z_iload dX1_relaxAll_142 rfl ?_
              refine z_iald rfl (by decide) (by omega) (by omega) dX1_relaxAll_144 (fun x22 hx22 bx22 => ?_)
              refine z_istore_n (loc2 := [fr 20, fi 1, fi x22, fi k, fi x3, fi x7, fi x12]) dX1_relaxAll_145 (by decide) rfl ?_
              refine z_iinc (loc2 := fun vq => [fr 20, fi 1, fi x22, fi vq, fi x3, fi x7, fi x12]) dX1_relaxAll_146 rfl (by decide) (by omega) (fun _ => rfl) (fun x23 hx23 => ?_)
              refine z_goto (tgt := 4) dX1_relaxAll_149 (by decide) ?_
              have hm : (x22 = -1 ∧ ∀ v, ta3 v < s) ∨ (nd x22 ∧ s ≤ ta3 x22) := by
                rcases hq3 with ⟨r3, t3⟩ | ⟨r3, t3⟩
                · rcases hq2 with ⟨r2, t2⟩ | ⟨r2, t2⟩
                  · rw [t3, t2]
                    first | exact h2 | (exfalso; omega)
                  · rw [t3, t2]
                    first | (exfalso; omega) | (right; refine ⟨by omega, ?_⟩; rw [show x22 = _ from ‹x22 = _›]; first | (rw [f242, ← f24, up_s]; omega) | (simp only [up]; split <;> omega))
                · rw [t3]
                  first | (exfalso; omega) | (right; refine ⟨by omega, ?_⟩; simp only [up]; split <;> omega)
              refine z_few [fr 20, fi 1, fi x22, fi x23, fu, fu, fu] (by simp [fle, kn]) ?_
              exact ih4 _ (by omega) x23 x22 Mz19 ta3 p3 rfl (by omega) (by rw [hx23, show s + 2 * (k + 1) = s + 2 * k + 1 + 1 by omega]; exact hR3) (hm)
          · refine z_aload_nr dX1_relaxAll_105 rfl ?_
            refine z_getr (b := 24) fl_X1_22 rfl (by decide) rf_20_3 rfl dX1_relaxAll_106 ?_
            refine z_iload dX1_relaxAll_109 rfl ?_
            refine z_iald rfl (by decide) (by omega) (by omega) dX1_relaxAll_111 (fun x24 hx24 bx24 => ?_)
            refine z_istore_n (loc2 := [fr 20, fi 1, fi x24, fi k, fi x3, fi x7, fi x12]) dX1_relaxAll_112 (by decide) rfl ?_
            refine z_aload_nr dX1_relaxAll_113 rfl ?_
            refine z_iload dX1_relaxAll_114 rfl ?_
            refine z_aload_nr dX1_relaxAll_116 rfl ?_
            refine z_getr (b := 24) fl_X1_22 rfl (by decide) rf_20_3 rfl dX1_relaxAll_117 ?_
            refine z_iload dX1_relaxAll_120 rfl ?_
            refine z_iald rfl (by decide) (by omega) (by omega) dX1_relaxAll_122 (fun x25 hx25 bx25 => ?_)
            refine z_aload_nr dX1_relaxAll_123 rfl ?_
            refine z_getr (b := 23) fl_X1_19 rfl (by decide) rf_20_2 rfl dX1_relaxAll_124 ?_
            refine z_iload dX1_relaxAll_127 rfl ?_
            refine z_iald rfl (by decide) (by omega) (by omega) dX1_relaxAll_129 (fun x26 hx26 bx26 => ?_)
            refine z_iload dX1_relaxAll_130 rfl ?_
            refine z_callVi (n2 := 93) (A_X1_relax l g Mz15 x3 x25 x26 x12 (by omega) (by omega) (by rcases hR2.2.2.2.1 x25 (by omega) with q | q; exact Or.inl q; exact Or.inr (by have := hs.2.1; unfold KX at this; omega)) (by omega)) cb_X1_relax cl_X1_84 (clr0 rfl rfl (by decide) (by decide)) rfl (by decide) ⟨_, rfl, rfl⟩ rfl (by decide) rfl (Nat.le_of_ble_eq_true rfl) rfl dX1_relaxAll_132 (fun x27 Mz27 bx27 kMz27 hc27 => ?_)
            have hpos3 : (s + (2 * k + 1)) % KX M0 = (2 * k + 1) := emod_pos hs.2.2 (by omega) (by unfold KX; omega)
            obtain ⟨ta3, p3, hR3, hq3⟩ := RI_step hN hR2 (by have := hs.2.1; unfold KX at this; omega) (by
              rw [show s + 2 * k + 1 = s + (2 * k + 1) by omega, hpos3]
              refine ⟨by omega, by omega, Or.inr ⟨by omega, ?_, ?_, ?_⟩⟩
              all_goals rw [show ((2 * k + 1)) / 2 = k by omega, hkx]
              · omega
              · omega
              · simp [onW, baW]; omega) (by rw [show s + 2 * k + 1 = s + (2 * k + 1) by omega, hpos3, show ((2 * k + 1)) / 2 = k by omega]; exact hkx) hc27
            have e3 : ∀ b j, b ≠ 28 → b ≠ 29 → Mz27 b j = M0 b j := hR3.1
            have f233 := e3 23 x3 (by decide) (by decide)
            have f243 := e3 24 x3 (by decide) (by decide)
            refine z_if_eq (tgt := 146) dX1_relaxAll_135 (by decide) (fun c28 => ?_) (fun c28 => ?_)
            · refine z_iinc (loc2 := fun vq => [fr 20, fi 1, fi x24, fi vq, fi x3, fi x7, fi x12]) dX1_relaxAll_146 rfl (by decide) (by omega) (fun _ => rfl) (fun x29 hx29 => ?_)
              refine z_goto (tgt := 4) dX1_relaxAll_149 (by decide) ?_
              have hm : (x24 = -1 ∧ ∀ v, ta3 v < s) ∨ (nd x24 ∧ s ≤ ta3 x24) := by
                rcases hq3 with ⟨r3, t3⟩ | ⟨r3, t3⟩
                · rcases hq2 with ⟨r2, t2⟩ | ⟨r2, t2⟩
                  · rw [t3, t2]
                    first | exact h2 | (exfalso; omega)
                  · rw [t3, t2]
                    first | (exfalso; omega) | (right; refine ⟨by omega, ?_⟩; rw [show x24 = _ from ‹x24 = _›]; first | (rw [f242, ← f24, up_s]; omega) | (simp only [up]; split <;> omega))
                · rw [t3]
                  first | (exfalso; omega) | (right; refine ⟨by omega, ?_⟩; simp only [up]; split <;> omega)
              refine z_few [fr 20, fi 1, fi x24, fi x29, fu, fu, fu] (by simp [fle, kn]) ?_
              exact ih4 _ (by omega) x29 x24 Mz27 ta3 p3 rfl (by omega) (by rw [hx29, show s + 2 * (k + 1) = s + 2 * k + 1 + 1 by omega]; exact hR3) (hm)
            · refine z_aload_nr dX1_relaxAll_138 rfl ?_
              refine z_getr (b := 23) fl_X1_19 rfl (by decide) rf_20_2 rfl dX1_relaxAll_139 ?_
              refine z_iload dX1_relaxAll_142 rfl ?_
              refine z_iald rfl (by decide) (by omega) (by omega) dX1_relaxAll_144 (fun x30 hx30 bx30 => ?_)
              refine z_istore_n (loc2 := [fr 20, fi 1, fi x30, fi k, fi x3, fi x7, fi x12]) dX1_relaxAll_145 (by decide) rfl ?_
              refine z_iinc (loc2 := fun vq => [fr 20, fi 1, fi x30, fi vq, fi x3, fi x7, fi x12]) dX1_relaxAll_146 rfl (by decide) (by omega) (fun _ => rfl) (fun x31 hx31 => ?_)
              refine z_goto (tgt := 4) dX1_relaxAll_149 (by decide) ?_
              have hm : (x30 = -1 ∧ ∀ v, ta3 v < s) ∨ (nd x30 ∧ s ≤ ta3 x30) := by
                rcases hq3 with ⟨r3, t3⟩ | ⟨r3, t3⟩
                · rcases hq2 with ⟨r2, t2⟩ | ⟨r2, t2⟩
                  · rw [t3, t2]
                    first | exact h2 | (exfalso; omega)
                  · rw [t3, t2]
                    first | (exfalso; omega) | (right; refine ⟨by omega, ?_⟩; rw [show x30 = _ from ‹x30 = _›]; first | (rw [f242, ← f24, up_s]; omega) | (simp only [up]; split <;> omega))
                · rw [t3]
                  first | (exfalso; omega) | (right; refine ⟨by omega, ?_⟩; simp only [up]; split <;> omega)
              refine z_few [fr 20, fi 1, fi x30, fi x31, fu, fu, fu] (by simp [fle, kn]) ?_
              exact ih4 _ (by omega) x31 x30 Mz27 ta3 p3 rfl (by omega) (by rw [hx31, show s + 2 * (k + 1) = s + 2 * k + 1 + 1 by omega]; exact hR3) (hm)
  refine z_iconst dX1_relaxAll_0 ⟨by decide, by decide⟩ ?_
  refine z_istore_n (loc2 := [fr 20, fi 1, fi (-1), fu, fu, fu, fu]) dX1_relaxAll_1 (by decide) rfl ?_
  refine z_iconst dX1_relaxAll_2 ⟨by decide, by decide⟩ ?_
  refine z_istore_n (loc2 := [fr 20, fi 1, fi (-1), fi 0, fu, fu, fu]) dX1_relaxAll_3 (by decide) rfl ?_
  exact lp4 _ 0 (-1) M tau pe rfl (by have := hN.1; omega) (by simpa using hI) (Or.inl ⟨rfl, fun v => (hI.2.1.1 v).2⟩)
set_option maxHeartbeats 400000 in
theorem A_X1_relaxAll0 (l : Launch) (g : Cx) (M : FMem) (M0 : FMem) (way0 tau pe : Int → Int) (s : Int) (hN : NetOk M0) (hI : RI M0 0 way0 M tau pe s) (hs : 0 ≤ s ∧ s + KX M0 ≤ 2800 ∧ s % KX M0 = 0) : AMi l g true fi_X1_relaxAll [fr 20, fi 0] 93 M (fun r M2 => ∃ tau2 pe2, RI M0 0 way0 M2 tau2 pe2 (s + KX M0) ∧ ((r = -1 ∧ ∀ v, tau2 v < s) ∨ (nd r ∧ s ≤ tau2 r))) := by
  refine AMi_intro [fr 20, fi 0, fu, fu, fu, fu, fu] (by decide) (knall rfl) (Nat.le_of_ble_eq_true rfl) rfl ?_
  intro hNV hM0 μ
  have lp4 : ∀ (kq : Nat) (k mv : Int) (M1 : FMem) (ta pa : Int → Int), (80 - k).toNat = kq → (0 ≤ k ∧ k ≤ M0 20 7) → (RI M0 0 way0 M1 ta pa (s + 2 * k)) → ((mv = -1 ∧ ∀ v, ta v < s) ∨ (nd mv ∧ s ≤ ta mv)) → Wa l g true fi_X1_relaxAll 93 μ (Zi g true fi_X1_relaxAll 93 μ (fun r M2 => ∃ tau2 pe2, RI M0 0 way0 M2 tau2 pe2 (s + KX M0) ∧ ((r = -1 ∧ ∀ v, tau2 v < s) ∨ (nd r ∧ s ≤ tau2 r)))) 4 [] [fr 20, fi 0, fi mv, fi k, fu, fu, fu] 93 M1 := by
    intro kq
    induction kq using Nat.strongRecOn with
    | _ kq ih4 =>
    intro k mv M1 ta pa hk4 h0 h1 h2
    have hN1 := hN.1
    have hN2 := hN.2.1
    have hN3 := hN.2.2.1
    have hN4 := hN.2.2.2.1
    have e : ∀ b j, b ≠ 28 → b ≠ 29 → M1 b j = M0 b j := h1.1
    have e7 := e 20 7 (by decide) (by decide)
    have e8 := e 20 8 (by decide) (by decide)
    have e27 := e 27 k (by decide) (by decide)
    refine z_iload_n dX1_relaxAll_4 rfl ?_
    refine z_aload_nr dX1_relaxAll_5 rfl ?_
    refine z_geti (kz := 7) fl_X1_34 rfl (by decide) rfl dX1_relaxAll_6 (fun x1 hx1 bx1 => ?_)
    refine z_icmp_ge (tgt := 152) dX1_relaxAll_9 (by decide) (fun c2 => ?_) (fun c2 => ?_)
    · refine z_iload_n dX1_relaxAll_152 rfl ?_
      refine z_iret rfl (by decide) rfl (Nat.sub_self _) dX1_relaxAll_153 ?_
      have hpos : (s + 2 * k) % KX M0 = 2 * k := emod_pos hs.2.2 (by omega) (by unfold KX; omega)
      have hpos2 : (s + (2 * k + 1)) % KX M0 = 2 * k + 1 := emod_pos hs.2.2 (by omega) (by unfold KX; omega)
      have r1 := RI_void h1 (by omega) (fun a b w he => by rw [hpos] at he; have := he.2.1; omega)
      have r2 := RI_void r1 (by omega) (fun a b w he => by rw [show s + 2 * k + 1 = s + (2 * k + 1) by omega, hpos2] at he; have := he.2.1; omega)
      refine ⟨ta, pa, ?_, h2⟩
      rw [show s + KX M0 = s + 2 * k + 1 + 1 by unfold KX; omega]
      exact r2
    · refine z_aload_nr dX1_relaxAll_12 rfl ?_
      refine z_getr (b := 27) fl_X1_31 rfl (by decide) rf_20_6 rfl dX1_relaxAll_13 ?_
      refine z_iload_n dX1_relaxAll_16 rfl ?_
      refine z_iald rfl (by decide) (by first | omega | skip) (by first | omega | skip) dX1_relaxAll_17 (fun x3 hx3 bx3 => ?_)
      refine z_istore (loc2 := [fr 20, fi 0, fi mv, fi k, fi x3, fu, fu]) dX1_relaxAll_18 (by decide) rfl ?_
      have hk := hN.2.2.2.2 k h0.1 (by omega)
      obtain ⟨xi, hxi⟩ : ∃ y, y = x3 := ⟨_, rfl⟩
      have hkx : M0 27 k = xi := by omega
      rw [hkx] at hk
      have f23 := e 23 xi (by decide) (by decide)
      have f24 := e 24 xi (by decide) (by decide)
      have f25 := e 25 xi (by decide) (by decide)
      have f26 := e 26 xi (by decide) (by decide)
      rw [hxi] at hk f23 f24 f25 f26 hkx
      refine z_iload_n dX1_relaxAll_20 rfl ?_
      refine z_iconst dX1_relaxAll_21 ⟨by decide, by decide⟩ ?_
      refine z_icmp_ne (tgt := 35) dX1_relaxAll_22 (by decide) (fun c4 => ?_) (fun c4 => ?_)
      · refine z_aload_nr dX1_relaxAll_35 rfl ?_
        refine z_getr (b := 25) fl_X1_25 rfl (by decide) rf_20_4 rfl dX1_relaxAll_36 ?_
        refine z_iload dX1_relaxAll_39 rfl ?_
        refine z_iald rfl (by decide) (by omega) (by omega) dX1_relaxAll_41 (fun x5 hx5 bx5 => ?_)
        refine z_inegN dX1_relaxAll_42 (by omega) (fun x6 hx6 => ?_)
        refine z_aload_nr dX1_relaxAll_43 rfl ?_
        refine z_geti (kz := 8) fl_X1_38 rfl (by decide) rfl dX1_relaxAll_44 (fun x7 hx7 bx7 => ?_)
        first | refine z_iaddN dX1_relaxAll_47 (by omega) (fun x8 hx8 => ?_) | refine z_iadd dX1_relaxAll_47 (fun x8 hx8 => ?_)
        refine z_istore (loc2 := [fr 20, fi 0, fi mv, fi k, fi x3, fi x8, fu]) dX1_relaxAll_48 (by decide) rfl ?_
        refine z_iload_n dX1_relaxAll_50 rfl ?_
        refine z_iconst dX1_relaxAll_51 ⟨by decide, by decide⟩ ?_
        refine z_icmp_ne (tgt := 66) dX1_relaxAll_52 (by decide) (fun c9 => ?_) (fun c9 => ?_)
        · refine z_aload_nr dX1_relaxAll_66 rfl ?_
          refine z_getr (b := 26) fl_X1_28 rfl (by decide) rf_20_5 rfl dX1_relaxAll_67 ?_
          refine z_iload dX1_relaxAll_70 rfl ?_
          refine z_iald rfl (by decide) (by omega) (by omega) dX1_relaxAll_72 (fun x10 hx10 bx10 => ?_)
          refine z_aload_nr dX1_relaxAll_73 rfl ?_
          refine z_geti (kz := 8) fl_X1_38 rfl (by decide) rfl dX1_relaxAll_74 (fun x11 hx11 bx11 => ?_)
          first | refine z_iaddN dX1_relaxAll_77 (by omega) (fun x12 hx12 => ?_) | refine z_iadd dX1_relaxAll_77 (fun x12 hx12 => ?_)
          refine z_istore (loc2 := [fr 20, fi 0, fi mv, fi k, fi x3, fi x8, fi x12]) dX1_relaxAll_78 (by decide) rfl ?_
          refine z_aload_nr dX1_relaxAll_80 rfl ?_
          refine z_iload dX1_relaxAll_81 rfl ?_
          refine z_aload_nr dX1_relaxAll_83 rfl ?_
          refine z_getr (b := 23) fl_X1_19 rfl (by decide) rf_20_2 rfl dX1_relaxAll_84 ?_
          refine z_iload dX1_relaxAll_87 rfl ?_
          refine z_iald rfl (by decide) (by omega) (by omega) dX1_relaxAll_89 (fun x13 hx13 bx13 => ?_)
          refine z_aload_nr dX1_relaxAll_90 rfl ?_
          refine z_getr (b := 24) fl_X1_22 rfl (by decide) rf_20_3 rfl dX1_relaxAll_91 ?_
          refine z_iload dX1_relaxAll_94 rfl ?_
          refine z_iald rfl (by decide) (by omega) (by omega) dX1_relaxAll_96 (fun x14 hx14 bx14 => ?_)
          refine z_iload dX1_relaxAll_97 rfl ?_
          refine z_callVi (n2 := 93) (A_X1_relax l g M1 x3 x13 x14 x8 (by omega) (by omega) (by rcases h1.2.2.2.1 x13 (by omega) with q | q; exact Or.inl q; exact Or.inr (by have := hs.2.1; unfold KX at this; omega)) (by omega)) cb_X1_relax cl_X1_84 (clr0 rfl rfl (by decide) (by decide)) rfl (by decide) ⟨_, rfl, rfl⟩ rfl (by decide) rfl (Nat.le_of_ble_eq_true rfl) rfl dX1_relaxAll_99 (fun x15 Mz15 bx15 kMz15 hc15 => ?_)
          have hpos2 : (s + 2 * k) % KX M0 = 2 * k := emod_pos hs.2.2 (by omega) (by unfold KX; omega)
          obtain ⟨ta2, p2, hR2, hq2⟩ := RI_step hN h1 (by have := hs.2.1; unfold KX at this; omega) (by
            rw [hpos2]
            refine ⟨by omega, by omega, Or.inl ⟨by omega, ?_, ?_, ?_⟩⟩
            all_goals rw [show (2 * k) / 2 = k by omega, hkx]
            · omega
            · omega
            · simp [onW, baW]; omega) (by rw [hpos2, show (2 * k) / 2 = k by omega]; exact hkx) hc15
          have e2 : ∀ b j, b ≠ 28 → b ≠ 29 → Mz15 b j = M0 b j := hR2.1
          have f232 := e2 23 x3 (by decide) (by decide)
          have f242 := e2 24 x3 (by decide) (by decide)
          refine z_if_eq (tgt := 113) dX1_relaxAll_102 (by decide) (fun c16 => ?_) (fun c16 => ?_)
          · refine z_aload_nr dX1_relaxAll_113 rfl ?_
            refine z_iload dX1_relaxAll_114 rfl ?_
            refine z_aload_nr dX1_relaxAll_116 rfl ?_
            refine z_getr (b := 24) fl_X1_22 rfl (by decide) rf_20_3 rfl dX1_relaxAll_117 ?_
            refine z_iload dX1_relaxAll_120 rfl ?_
            refine z_iald rfl (by decide) (by omega) (by omega) dX1_relaxAll_122 (fun x17 hx17 bx17 => ?_)
            refine z_aload_nr dX1_relaxAll_123 rfl ?_
            refine z_getr (b := 23) fl_X1_19 rfl (by decide) rf_20_2 rfl dX1_relaxAll_124 ?_
            refine z_iload dX1_relaxAll_127 rfl ?_
            refine z_iald rfl (by decide) (by omega) (by omega) dX1_relaxAll_129 (fun x18 hx18 bx18 => ?_)
            refine z_iload dX1_relaxAll_130 rfl ?_
            refine z_callVi (n2 := 93) (A_X1_relax l g Mz15 x3 x17 x18 x12 (by omega) (by omega) (by rcases hR2.2.2.2.1 x17 (by omega) with q | q; exact Or.inl q; exact Or.inr (by have := hs.2.1; unfold KX at this; omega)) (by omega)) cb_X1_relax cl_X1_84 (clr0 rfl rfl (by decide) (by decide)) rfl (by decide) ⟨_, rfl, rfl⟩ rfl (by decide) rfl (Nat.le_of_ble_eq_true rfl) rfl dX1_relaxAll_132 (fun x19 Mz19 bx19 kMz19 hc19 => ?_)
            have hpos3 : (s + (2 * k + 1)) % KX M0 = (2 * k + 1) := emod_pos hs.2.2 (by omega) (by unfold KX; omega)
            obtain ⟨ta3, p3, hR3, hq3⟩ := RI_step hN hR2 (by have := hs.2.1; unfold KX at this; omega) (by
              rw [show s + 2 * k + 1 = s + (2 * k + 1) by omega, hpos3]
              refine ⟨by omega, by omega, Or.inr ⟨by omega, ?_, ?_, ?_⟩⟩
              all_goals rw [show ((2 * k + 1)) / 2 = k by omega, hkx]
              · omega
              · omega
              · simp [onW, baW]; omega) (by rw [show s + 2 * k + 1 = s + (2 * k + 1) by omega, hpos3, show ((2 * k + 1)) / 2 = k by omega]; exact hkx) hc19
            have e3 : ∀ b j, b ≠ 28 → b ≠ 29 → Mz19 b j = M0 b j := hR3.1
            have f233 := e3 23 x3 (by decide) (by decide)
            have f243 := e3 24 x3 (by decide) (by decide)
            refine z_if_eq (tgt := 146) dX1_relaxAll_135 (by decide) (fun c20 => ?_) (fun c20 => ?_)
            · refine z_iinc (loc2 := fun vq => [fr 20, fi 0, fi mv, fi vq, fi x3, fi x8, fi x12]) dX1_relaxAll_146 rfl (by decide) (by omega) (fun _ => rfl) (fun x21 hx21 => ?_)
              refine z_goto (tgt := 4) dX1_relaxAll_149 (by decide) ?_
              have hm : (mv = -1 ∧ ∀ v, ta3 v < s) ∨ (nd mv ∧ s ≤ ta3 mv) := by
                rcases hq3 with ⟨r3, t3⟩ | ⟨r3, t3⟩
                · rcases hq2 with ⟨r2, t2⟩ | ⟨r2, t2⟩
                  · rw [t3, t2]
                    first | exact h2 | (exfalso; omega)
                  · rw [t3, t2]
                    first | (exfalso; omega) | (right; refine ⟨by omega, ?_⟩; rw [show mv = _ from ‹mv = _›]; first | (rw [f242, ← f24, up_s]; omega) | (simp only [up]; split <;> omega))
                · rw [t3]
                  first | (exfalso; omega) | (right; refine ⟨by omega, ?_⟩; simp only [up]; split <;> omega)
              refine z_few [fr 20, fi 0, fi mv, fi x21, fu, fu, fu] (by simp [fle, kn]) ?_
              exact ih4 _ (by omega) x21 mv Mz19 ta3 p3 rfl (by omega) (by rw [hx21, show s + 2 * (k + 1) = s + 2 * k + 1 + 1 by omega]; exact hR3) (hm)
            · refine z_aload_nr dX1_relaxAll_138 rfl ?_
              refine z_getr (b := 23) fl_X1_19 rfl (by decide) rf_20_2 rfl dX1_relaxAll_139 ?_
              refine z_iload dX1_relaxAll_142 rfl ?_
              refine z_iald rfl (by decide) (by omega) (by omega) dX1_relaxAll_144 (fun x22 hx22 bx22 => ?_)
              refine z_istore_n (loc2 := [fr 20, fi 0, fi x22, fi k, fi x3, fi x8, fi x12]) dX1_relaxAll_145 (by decide) rfl ?_
              refine z_iinc (loc2 := fun vq => [fr 20, fi 0, fi x22, fi vq, fi x3, fi x8, fi x12]) dX1_relaxAll_146 rfl (by decide) (by omega) (fun _ => rfl) (fun x23 hx23 => ?_)
              refine z_goto (tgt := 4) dX1_relaxAll_149 (by decide) ?_
              have hm : (x22 = -1 ∧ ∀ v, ta3 v < s) ∨ (nd x22 ∧ s ≤ ta3 x22) := by
                rcases hq3 with ⟨r3, t3⟩ | ⟨r3, t3⟩
                · rcases hq2 with ⟨r2, t2⟩ | ⟨r2, t2⟩
                  · rw [t3, t2]
                    first | exact h2 | (exfalso; omega)
                  · rw [t3, t2]
                    first | (exfalso; omega) | (right; refine ⟨by omega, ?_⟩; rw [show x22 = _ from ‹x22 = _›]; first | (rw [f242, ← f24, up_s]; omega) | (simp only [up]; split <;> omega))
                · rw [t3]
                  first | (exfalso; omega) | (right; refine ⟨by omega, ?_⟩; simp only [up]; split <;> omega)
              refine z_few [fr 20, fi 0, fi x22, fi x23, fu, fu, fu] (by simp [fle, kn]) ?_
              exact ih4 _ (by omega) x23 x22 Mz19 ta3 p3 rfl (by omega) (by rw [hx23, show s + 2 * (k + 1) = s + 2 * k + 1 + 1 by omega]; exact hR3) (hm)
          · refine z_aload_nr dX1_relaxAll_105 rfl ?_
            refine z_getr (b := 24) fl_X1_22 rfl (by decide) rf_20_3 rfl dX1_relaxAll_106 ?_
            refine z_iload dX1_relaxAll_109 rfl ?_
            refine z_iald rfl (by decide) (by omega) (by omega) dX1_relaxAll_111 (fun x24 hx24 bx24 => ?_)
            refine z_istore_n (loc2 := [fr 20, fi 0, fi x24, fi k, fi x3, fi x8, fi x12]) dX1_relaxAll_112 (by decide) rfl ?_
            refine z_aload_nr dX1_relaxAll_113 rfl ?_
            refine z_iload dX1_relaxAll_114 rfl ?_
            refine z_aload_nr dX1_relaxAll_116 rfl ?_
            refine z_getr (b := 24) fl_X1_22 rfl (by decide) rf_20_3 rfl dX1_relaxAll_117 ?_
            refine z_iload dX1_relaxAll_120 rfl ?_
            refine z_iald rfl (by decide) (by omega) (by omega) dX1_relaxAll_122 (fun x25 hx25 bx25 => ?_)
            refine z_aload_nr dX1_relaxAll_123 rfl ?_
            refine z_getr (b := 23) fl_X1_19 rfl (by decide) rf_20_2 rfl dX1_relaxAll_124 ?_
            refine z_iload dX1_relaxAll_127 rfl ?_
            refine z_iald rfl (by decide) (by omega) (by omega) dX1_relaxAll_129 (fun x26 hx26 bx26 => ?_)
            refine z_iload dX1_relaxAll_130 rfl ?_
            refine z_callVi (n2 := 93) (A_X1_relax l g Mz15 x3 x25 x26 x12 (by omega) (by omega) (by rcases hR2.2.2.2.1 x25 (by omega) with q | q; exact Or.inl q; exact Or.inr (by have := hs.2.1; unfold KX at this; omega)) (by omega)) cb_X1_relax cl_X1_84 (clr0 rfl rfl (by decide) (by decide)) rfl (by decide) ⟨_, rfl, rfl⟩ rfl (by decide) rfl (Nat.le_of_ble_eq_true rfl) rfl dX1_relaxAll_132 (fun x27 Mz27 bx27 kMz27 hc27 => ?_)
            have hpos3 : (s + (2 * k + 1)) % KX M0 = (2 * k + 1) := emod_pos hs.2.2 (by omega) (by unfold KX; omega)
            obtain ⟨ta3, p3, hR3, hq3⟩ := RI_step hN hR2 (by have := hs.2.1; unfold KX at this; omega) (by
              rw [show s + 2 * k + 1 = s + (2 * k + 1) by omega, hpos3]
              refine ⟨by omega, by omega, Or.inr ⟨by omega, ?_, ?_, ?_⟩⟩
              all_goals rw [show ((2 * k + 1)) / 2 = k by omega, hkx]
              · omega
              · omega
              · simp [onW, baW]; omega) (by rw [show s + 2 * k + 1 = s + (2 * k + 1) by omega, hpos3, show ((2 * k + 1)) / 2 = k by omega]; exact hkx) hc27
            have e3 : ∀ b j, b ≠ 28 → b ≠ 29 → Mz27 b j = M0 b j := hR3.1
            have f233 := e3 23 x3 (by decide) (by decide)
            have f243 := e3 24 x3 (by decide) (by decide)
            refine z_if_eq (tgt := 146) dX1_relaxAll_135 (by decide) (fun c28 => ?_) (fun c28 => ?_)
            · refine z_iinc (loc2 := fun vq => [fr 20, fi 0, fi x24, fi vq, fi x3, fi x8, fi x12]) dX1_relaxAll_146 rfl (by decide) (by omega) (fun _ => rfl) (fun x29 hx29 => ?_)
              refine z_goto (tgt := 4) dX1_relaxAll_149 (by decide) ?_
              have hm : (x24 = -1 ∧ ∀ v, ta3 v < s) ∨ (nd x24 ∧ s ≤ ta3 x24) := by
                rcases hq3 with ⟨r3, t3⟩ | ⟨r3, t3⟩
                · rcases hq2 with ⟨r2, t2⟩ | ⟨r2, t2⟩
                  · rw [t3, t2]
                    first | exact h2 | (exfalso; omega)
                  · rw [t3, t2]
                    first | (exfalso; omega) | (right; refine ⟨by omega, ?_⟩; rw [show x24 = _ from ‹x24 = _›]; first | (rw [f242, ← f24, up_s]; omega) | (simp only [up]; split <;> omega))
                · rw [t3]
                  first | (exfalso; omega) | (right; refine ⟨by omega, ?_⟩; simp only [up]; split <;> omega)
              refine z_few [fr 20, fi 0, fi x24, fi x29, fu, fu, fu] (by simp [fle, kn]) ?_
              exact ih4 _ (by omega) x29 x24 Mz27 ta3 p3 rfl (by omega) (by rw [hx29, show s + 2 * (k + 1) = s + 2 * k + 1 + 1 by omega]; exact hR3) (hm)
            · refine z_aload_nr dX1_relaxAll_138 rfl ?_
              refine z_getr (b := 23) fl_X1_19 rfl (by decide) rf_20_2 rfl dX1_relaxAll_139 ?_
              refine z_iload dX1_relaxAll_142 rfl ?_
              refine z_iald rfl (by decide) (by omega) (by omega) dX1_relaxAll_144 (fun x30 hx30 bx30 => ?_)
              refine z_istore_n (loc2 := [fr 20, fi 0, fi x30, fi k, fi x3, fi x8, fi x12]) dX1_relaxAll_145 (by decide) rfl ?_
              refine z_iinc (loc2 := fun vq => [fr 20, fi 0, fi x30, fi vq, fi x3, fi x8, fi x12]) dX1_relaxAll_146 rfl (by decide) (by omega) (fun _ => rfl) (fun x31 hx31 => ?_)
              refine z_goto (tgt := 4) dX1_relaxAll_149 (by decide) ?_
              have hm : (x30 = -1 ∧ ∀ v, ta3 v < s) ∨ (nd x30 ∧ s ≤ ta3 x30) := by
                rcases hq3 with ⟨r3, t3⟩ | ⟨r3, t3⟩
                · rcases hq2 with ⟨r2, t2⟩ | ⟨r2, t2⟩
                  · rw [t3, t2]
                    first | exact h2 | (exfalso; omega)
                  · rw [t3, t2]
                    first | (exfalso; omega) | (right; refine ⟨by omega, ?_⟩; rw [show x30 = _ from ‹x30 = _›]; first | (rw [f242, ← f24, up_s]; omega) | (simp only [up]; split <;> omega))
                · rw [t3]
                  first | (exfalso; omega) | (right; refine ⟨by omega, ?_⟩; simp only [up]; split <;> omega)
              refine z_few [fr 20, fi 0, fi x30, fi x31, fu, fu, fu] (by simp [fle, kn]) ?_
              exact ih4 _ (by omega) x31 x30 Mz27 ta3 p3 rfl (by omega) (by rw [hx31, show s + 2 * (k + 1) = s + 2 * k + 1 + 1 by omega]; exact hR3) (hm)
        · exfalso; omega
      · exfalso; omega
  refine z_iconst dX1_relaxAll_0 ⟨by decide, by decide⟩ ?_
  refine z_istore_n (loc2 := [fr 20, fi 0, fi (-1), fu, fu, fu, fu]) dX1_relaxAll_1 (by decide) rfl ?_
  refine z_iconst dX1_relaxAll_2 ⟨by decide, by decide⟩ ?_
  refine z_istore_n (loc2 := [fr 20, fi 0, fi (-1), fi 0, fu, fu, fu]) dX1_relaxAll_3 (by decide) rfl ?_
  exact lp4 _ 0 (-1) M tau pe rfl (by have := hN.1; omega) (by simpa using hI) (Or.inl ⟨rfl, fun v => (hI.2.1.1 v).2⟩)
