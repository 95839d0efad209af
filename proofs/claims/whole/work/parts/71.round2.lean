/-! ===== the reference: findRound ===== -/
/-- all but what findRound writes at level lv -/
def OffF (lv : Int) (M M2 : FMem) : Prop := (∀ b j, b ≠ 87 → b ≠ 88 → b ≠ 89 → b ≠ 90 → b ≠ 91 → M2 b j = M b j) ∧ (∀ j, j ≠ lv → M2 91 j = M 91 j) ∧ ∀ j, (j < 17 * lv ∨ 17 * lv + 17 ≤ j) → M2 90 j = M 90 j
/-- a ring that can't hold, at level lv -/
def RngM (M : FMem) (lv : Int) (M2 : FMem) : Prop := (1 ≤ M2 91 lv ∧ M2 91 lv ≤ 17) ∧ (∀ k, 0 ≤ k → k < M2 91 lv → (0 ≤ M2 90 (17 * lv + k) ∧ M2 90 (17 * lv + k) < M 60 0) ∧ inM M (M 60 0) (M2 90 (17 * lv + k))) ∧ ∀ y, ¬ ∀ k, 0 ≤ k → k < M2 91 lv → TK1 M y (M2 90 (17 * lv + k))
theorem KM_b {M : FMem} (h : MT0 M) : 2 ≤ KM M ∧ KM M ≤ 162 := by unfold KM; have := h.1; omega
set_option maxHeartbeats 12800000 in
theorem A_X8_findRound0 (l : Launch) (g : Cx) (M : FMem) (hT : MT0 M) (hw : M 60 45 = 0) : AMi l g true fi_X8_findRound [fr 60, fi 0] 93 M (fun q M2 => OffF 0 M M2 ∧ ((q = 0 ∧ M2 91 0 = 0 ∧ Feas (SolK M (M 60 0) (M 60 0))) ∨ (q = 1 ∧ RngM M 0 M2))) := by
  refine AMi_intro [fr 60, fi 0, fu, fu, fu, fu] (by decide) (knall rfl) (Nat.le_of_ble_eq_true rfl) rfl ?_
  intro hNV hM0 μ
  have hT0 := hT.1
  have hKb := KM_b hT
  have hok := EdM_ok hT
  have lp39 : ∀ (kq : Nat) (laz tz s : Int) (M1 : FMem) (ta pa : Int → Int), (18 - tz).toNat = kq → (0 ≤ tz ∧ tz ≤ 18) → (s = tz * KM M) → (RM M M1 ta pa s) → (tz = 0 ∨ (laz = -1 ∧ ∀ v, ta v < s - KM M) ∨ (nd laz ∧ s - KM M ≤ ta laz)) → Wa l g true fi_X8_findRound 93 μ (Zi g true fi_X8_findRound 93 μ (fun q M2 => OffF 0 M M2 ∧ ((q = 0 ∧ M2 91 0 = 0 ∧ Feas (SolK M (M 60 0) (M 60 0))) ∨ (q = 1 ∧ RngM M 0 M2)))) 39 [] [fr 60, fi 0, fi laz, fi tz, fu, fu] 93 M1 := by
    intro kq
    induction kq using Nat.strongRecOn with
    | _ kq ih39 =>
    intro laz tz s M1 ta pa hk39 h0 hs h1 h2
    have hsb : 0 ≤ s ∧ s ≤ 2916 := by
      rw [hs]
      have := mulp (a := tz) (b := KM M) (A := 18) (B := 162) (by omega) (by omega)
      omega
    have hsm : s % KM M = 0 := by rw [hs]; exact Int.mul_emod_left tz (KM M)
    have lp50 : ∀ (kq : Nat) (lbz iz : Int) (Mi : FMem) (tb pb : Int → Int), (80 - iz).toNat = kq → ((0 ≤ iz ∧ iz ≤ M 60 0) ∧ tz ≤ 17) → (RM M Mi tb pb (s + 2 * iz)) → ((lbz = -1 ∧ ∀ v, tb v < s) ∨ (nd lbz ∧ s ≤ tb lbz)) → Wa l g true fi_X8_findRound 93 μ (Zi g true fi_X8_findRound 93 μ (fun q M2 => OffF 0 M M2 ∧ ((q = 0 ∧ M2 91 0 = 0 ∧ Feas (SolK M (M 60 0) (M 60 0))) ∨ (q = 1 ∧ RngM M 0 M2)))) 50 [] [fr 60, fi 0, fi lbz, fi tz, fi iz, fu] 93 Mi := by
      intro kq
      induction kq using Nat.strongRecOn with
      | _ kq ih50 =>
      intro lbz iz Mi tb pb hk50 hi0 hi1 hi2
      have hsb2 : s ≤ 2754 := by
        rw [hs]
        have := mulp (a := tz) (b := KM M) (A := 17) (B := 162) (by omega) (by omega)
        omega
      have hof := hi1.1
      have hofM : OffM M Mi := fun b j q => hof b j (by omega) (by omega) (by omega)
      have hTi := MT0_off hofM hT
      have hlhi := lowM_off hofM iz
      have q0 := hof 60 0 (by decide) (by decide) (by decide)
      have q42 := hof 60 42 (by decide) (by decide) (by decide)
      have q43 := hof 60 43 (by decide) (by decide) (by decide)
      have q44 := hof 60 44 (by decide) (by decide) (by decide)
      have q61 := hof 61 iz (by decide) (by decide) (by decide)
      have q62 := hof 62 iz (by decide) (by decide) (by decide)
      have q63 := hof 63 iz (by decide) (by decide) (by decide)
      have q64 := hof 64 iz (by decide) (by decide) (by decide)
      have q69 := hof 69 iz (by decide) (by decide) (by decide)
      have q70 := hof 70 iz (by decide) (by decide) (by decide)
      refine z_iload dX8_findRound_50 rfl ?_
      refine z_aload_nr dX8_findRound_52 rfl ?_
      refine z_geti (kz := 0) fl_X8_136 rfl (by decide) rfl dX8_findRound_53 (fun x1 hx1 bx1 => ?_)
      refine z_icmp_ge (tgt := 156) dX8_findRound_56 (by decide) (fun c2 => ?_) (fun c2 => ?_)
      · refine z_iinc (loc2 := fun vq => [fr 60, fi 0, fi lbz, fi vq, fi iz, fu]) dX8_findRound_156 rfl (by decide) (by omega) (fun _ => rfl) (fun x3 hx3 => ?_)
        refine z_goto (tgt := 39) dX8_findRound_159 (by decide) ?_
        have g1 : RM M Mi tb pb (s + KM M) := by
          have a1 := RM_void hi1 (fun a b w he => by
            have hq := he.2.1
            rw [emod_pos hsm (by omega) (by unfold KM; omega)] at hq
            omega)
          have a2 := RM_void a1 (fun a b w he => by
            have hq := he.2.1
            rw [show s + 2 * iz + 1 = s + (2 * iz + 1) by omega, emod_pos hsm (by omega) (by unfold KM; omega)] at hq
            omega)
          rw [show s + KM M = s + 2 * iz + 1 + 1 by unfold KM; omega]
          exact a2
        refine z_few [fr 60, fi 0, fi lbz, fi x3, fu, fu] (by simp [fle, kn]) ?_
        exact ih39 _ (by omega) lbz x3 (s + KM M) Mi tb pb rfl (by omega) (by rw [hx3, Int.add_mul, Int.one_mul, hs]) (g1) (by
          right
          rw [show s + KM M - KM M = s by omega]
          exact hi2)
      · refine z_aload_nr dX8_findRound_59 rfl ?_
        refine z_iload dX8_findRound_60 rfl ?_
        refine z_aload_nr dX8_findRound_62 rfl ?_
        refine z_geti (kz := 0) fl_X8_136 rfl (by decide) rfl dX8_findRound_63 (fun x4 hx4 bx4 => ?_)
        refine z_callVip (n2 := 93) (A_X8_isIn l g Mi iz x4 (by omega)) cb_X8_isIn cl_X8_309 (clr0 rfl rfl (by decide) (by decide)) rfl (by decide) ⟨_, rfl, rfl⟩ rfl (by decide) rfl (Nat.le_of_ble_eq_true rfl) rfl dX8_findRound_66 (fun x5 bx5 hx5 => ?_)
        have i5 := if01 hx5
        refine z_if_eq (tgt := 150) dX8_findRound_69 (by decide) (fun c6 => ?_) (fun c6 => ?_)
        · refine z_iinc (loc2 := fun vq => [fr 60, fi 0, fi lbz, fi tz, fi vq, fu]) dX8_findRound_150 rfl (by decide) (by omega) (fun _ => rfl) (fun x7 hx7 => ?_)
          refine z_goto (tgt := 50) dX8_findRound_153 (by decide) ?_
          have hgo : ∃ tc pc, RM M Mi tc pc (s + 2 * (iz + 1)) ∧ ((lbz = -1 ∧ ∀ v, tc v < s) ∨ (nd lbz ∧ s ≤ tc lbz)) := by
            first
            | (have a1 := RM_void hi1 (fun a b w he => by
                 have hq := he.2.2.1
                 rw [emod_pos hsm (by omega) (by unfold KM; omega), show 2 * iz / 2 = iz by omega] at hq
                 unfold inM at hq
                 omega)
               have a2 := RM_void a1 (fun a b w he => by
                 have hq := he.2.2.1
                 rw [show s + 2 * iz + 1 = s + (2 * iz + 1) by omega, emod_pos hsm (by omega) (by unfold KM; omega), show (2 * iz + 1) / 2 = iz by omega] at hq
                 unfold inM at hq
                 omega)
               rw [show s + 2 * iz + 1 + 1 = s + 2 * (iz + 1) by omega] at a2
               exact ⟨tb, pb, a2, hi2⟩)
            | (refine ⟨td, pd, hRd, ?_⟩
               rcases hud with ⟨z1, z2⟩ | ⟨z1, z2⟩
               · rw [z2]
                 rcases huc with ⟨y1, y2⟩ | ⟨y1, y2⟩
                 · rw [y2]
                   first
                   | (exfalso; omega)
                   | exact hi2
                 · rw [y2]
                   first
                   | (exfalso; omega)
                   | (right
                      rw [show lbz = upM M iz by omega, up_s]
                      exact ⟨hnn.1, by omega⟩)
               · rw [z2]
                 first
                 | (exfalso; omega)
                 | (right
                    rw [show lbz = loM M iz by omega, up_s]
                    exact ⟨hnn.2.1, by omega⟩))
          obtain ⟨tc, pc, hR3, hl3⟩ := hgo
          exact ih50 _ (by omega) lbz x7 Mi tc pc rfl (by omega) (by rw [hx7]; exact hR3) (hl3)
        · have htel := hTi.2.1 iz (by omega) (by omega)
          have hTe := htel
          unfold TelM TelOk at hTe
          have hTo := hT.2.1 iz (by omega) (by omega)
          have hnn := ul_nd hTo
          have hin2 : inM M (M 60 0) iz := by unfold inM; omega
          have hga := hi1.2.2.2 (loM M iz) hnn.2.1
          have hgb := hi1.2.2.2 (upM M iz) hnn.1
          refine z_aload_nr dX8_findRound_72 rfl ?_
          refine z_iload dX8_findRound_73 rfl ?_
          refine z_aload_nr dX8_findRound_75 rfl ?_
          refine z_iload dX8_findRound_76 rfl ?_
          refine z_callVip (n2 := 93) (A_X8_lower l g Mi iz (by omega) (by omega)) cb_X8_lower cl_X8_312 (clr0 rfl rfl (by decide) (by decide)) rfl (by decide) ⟨_, rfl, rfl⟩ rfl (by decide) rfl (Nat.le_of_ble_eq_true rfl) rfl dX8_findRound_78 (fun x8 bx8 hx8 => ?_)
          refine z_aload_nr dX8_findRound_81 rfl ?_
          refine z_iload dX8_findRound_82 rfl ?_
          refine z_callVip (n2 := 93) (A_X8_upper l g Mi iz (by omega) (by omega)) cb_X8_upper cl_X8_316 (clr0 rfl rfl (by decide) (by decide)) rfl (by decide) ⟨_, rfl, rfl⟩ rfl (by decide) rfl (Nat.le_of_ble_eq_true rfl) rfl dX8_findRound_84 (fun x9 bx9 hx9 => ?_)
          have hlo1 : x8 = loM M iz := by unfold loM; rw [← q61, ← q63]; assumption
          have hup1 : x9 = upM M iz := by unfold upM; rw [← q61, ← q64]; assumption
          refine z_aload_nr dX8_findRound_87 rfl ?_
          refine z_iload dX8_findRound_88 rfl ?_
          refine z_callVlp (n2 := 93) (A_X8_highOf l g Mi iz (by omega) (htel) (hTi.2.2.1) (hTi.2.2.2)) cb_X8_highOf cl_X8_319 (clr0 rfl rfl (by decide) (by decide)) rfl (by decide) ⟨_, rfl, rfl⟩ rfl (by decide) rfl (Nat.le_of_ble_eq_true rfl) rfl dX8_findRound_90 (fun x10 bx10 hx10 => ?_)
          have hhi : x10 = highM M iz := by rw [hx10.1]; exact hlhi.2
          have hhb := hx10.2
          refine z_callVi (n2 := 93) (A_X8_raise l g Mi iz x8 x9 x10 (by rw [hlo1]; exact hnn.2.1) (by rw [hup1]; exact hnn.1) (by omega) (by rw [hlo1]; omega)) cb_X8_raise cl_X8_375 (clr0 rfl rfl (by decide) (by decide)) rfl (by decide) ⟨_, rfl, rfl⟩ rfl (by decide) rfl (Nat.le_of_ble_eq_true rfl) rfl dX8_findRound_93 (fun x11 Mz11 bx11 kMz11 hc11 => ?_)
          have hra := hc11
          rw [hlo1, hup1, hhi] at hra
          obtain ⟨tc, pc, hRc, huc⟩ := RM_step hT hi1 (by omega) (a := loM M iz) (b := upM M iz) (w := highM M iz) (i := iz) (by
            rw [emod_pos hsm (by omega) (by unfold KM; omega)]
            exact ⟨by omega, by omega, by rw [show 2 * iz / 2 = iz by omega]; exact hin2, Or.inl ⟨by omega, by rw [show 2 * iz / 2 = iz by omega], by rw [show 2 * iz / 2 = iz by omega], by rw [show 2 * iz / 2 = iz by omega]⟩⟩) (by rw [emod_pos hsm (by omega) (by unfold KM; omega)]; omega) hra
          have hofc := hRc.1
          have hofj : OffM M Mz11 := fun b j q => hofc b j (by omega) (by omega) (by omega)
          have hTj := MT0_off hofj hT
          have hlhj := lowM_off hofj iz
          have r0 := hofc 60 0 (by decide) (by decide) (by decide)
          have r61 := hofc 61 iz (by decide) (by decide) (by decide)
          have r63 := hofc 63 iz (by decide) (by decide) (by decide)
          have r64 := hofc 64 iz (by decide) (by decide) (by decide)
          have htel2 := hTj.2.1 iz (by omega) (by omega)
          have hTe2 := htel2
          unfold TelM TelOk at hTe2
          have hgu := hRc.2.2.2 (upM M iz) hnn.1
          refine z_if_eq (tgt := 108) dX8_findRound_96 (by decide) (fun c12 => ?_) (fun c12 => ?_)
          · refine z_iload_n dX8_findRound_108 rfl ?_
            refine z_istore_n (loc2 := [fr 60, fi 0, fi lbz, fi tz, fi iz, fu]) dX8_findRound_109 (by decide) rfl ?_
            refine z_aload_nr dX8_findRound_110 rfl ?_
            refine z_iload dX8_findRound_111 rfl ?_
            refine z_aload_nr dX8_findRound_113 rfl ?_
            refine z_iload dX8_findRound_114 rfl ?_
            refine z_callVip (n2 := 93) (A_X8_upper l g Mz11 iz (by omega) (by omega)) cb_X8_upper cl_X8_316 (clr0 rfl rfl (by decide) (by decide)) rfl (by decide) ⟨_, rfl, rfl⟩ rfl (by decide) rfl (Nat.le_of_ble_eq_true rfl) rfl dX8_findRound_116 (fun x13 bx13 hx13 => ?_)
            refine z_aload_nr dX8_findRound_119 rfl ?_
            refine z_iload dX8_findRound_120 rfl ?_
            refine z_callVip (n2 := 93) (A_X8_lower l g Mz11 iz (by omega) (by omega)) cb_X8_lower cl_X8_312 (clr0 rfl rfl (by decide) (by decide)) rfl (by decide) ⟨_, rfl, rfl⟩ rfl (by decide) rfl (Nat.le_of_ble_eq_true rfl) rfl dX8_findRound_122 (fun x14 bx14 hx14 => ?_)
            have hup2 : x13 = upM M iz := by unfold upM; rw [← r61, ← r64]; assumption
            have hlo2 : x14 = loM M iz := by unfold loM; rw [← r61, ← r63]; assumption
            refine z_lconst0 dX8_findRound_125 ?_
            refine z_aload_nr dX8_findRound_126 rfl ?_
            refine z_iload dX8_findRound_127 rfl ?_
            refine z_callVlp (n2 := 93) (A_X8_lowOf l g Mz11 iz (by omega) (htel2) (hTj.2.2.1) (hTj.2.2.2)) cb_X8_lowOf cl_X8_327 (clr0 rfl rfl (by decide) (by decide)) rfl (by decide) ⟨_, rfl, rfl⟩ rfl (by decide) rfl (Nat.le_of_ble_eq_true rfl) rfl dX8_findRound_129 (fun x15 bx15 hx15 => ?_)
            have hlw : x15 = lowM M iz := by rw [hx15.1]; exact hlhj.1
            have hlb := hx15.2
            first | refine z_lsubN dX8_findRound_132 (by omega) (fun x16 hx16 => ?_) | refine z_lsub dX8_findRound_132 (fun x16 hx16 => ?_)
            have hneg : x16 = -(lowM M iz) := by omega
            refine z_callVi (n2 := 93) (A_X8_raise l g Mz11 iz x13 x14 x16 (by rw [hup2]; exact hnn.1) (by rw [hlo2]; exact hnn.2.1) (by omega) (by rw [hup2]; omega)) cb_X8_raise cl_X8_375 (clr0 rfl rfl (by decide) (by decide)) rfl (by decide) ⟨_, rfl, rfl⟩ rfl (by decide) rfl (Nat.le_of_ble_eq_true rfl) rfl dX8_findRound_133 (fun x17 Mz17 bx17 kMz17 hc17 => ?_)
            have hrb := hc17
            rw [hlo2, hup2, hneg] at hrb
            obtain ⟨td, pd, hRd, hud⟩ := RM_step hT hRc (by omega) (a := upM M iz) (b := loM M iz) (w := -(lowM M iz)) (i := iz) (by
              rw [show s + 2 * iz + 1 = s + (2 * iz + 1) by omega, emod_pos hsm (by omega) (by unfold KM; omega)]
              exact ⟨by omega, by omega, by rw [show (2 * iz + 1) / 2 = iz by omega]; exact hin2, Or.inr ⟨by omega, by rw [show (2 * iz + 1) / 2 = iz by omega], by rw [show (2 * iz + 1) / 2 = iz by omega], by rw [show (2 * iz + 1) / 2 = iz by omega]⟩⟩) (by rw [show s + 2 * iz + 1 = s + (2 * iz + 1) by omega, emod_pos hsm (by omega) (by unfold KM; omega)]; omega) hrb
            rw [show s + 2 * iz + 1 + 1 = s + 2 * (iz + 1) by omega] at hRd
            have v61 := hRd.1 61 iz (by decide) (by decide) (by decide)
            have v63 := hRd.1 63 iz (by decide) (by decide) (by decide)
            refine z_if_eq (tgt := 148) dX8_findRound_136 (by decide) (fun c18 => ?_) (fun c18 => ?_)
            · refine z_iload_n dX8_findRound_148 rfl ?_
              refine z_istore_n (loc2 := [fr 60, fi 0, fi lbz, fi tz, fi iz, fu]) dX8_findRound_149 (by decide) rfl ?_
              refine z_iinc (loc2 := fun vq => [fr 60, fi 0, fi lbz, fi tz, fi vq, fu]) dX8_findRound_150 rfl (by decide) (by omega) (fun _ => rfl) (fun x19 hx19 => ?_)
              refine z_goto (tgt := 50) dX8_findRound_153 (by decide) ?_
              have hgo : ∃ tc pc, RM M Mz17 tc pc (s + 2 * (iz + 1)) ∧ ((lbz = -1 ∧ ∀ v, tc v < s) ∨ (nd lbz ∧ s ≤ tc lbz)) := by
                first
                | (have a1 := RM_void hi1 (fun a b w he => by
                     have hq := he.2.2.1
                     rw [emod_pos hsm (by omega) (by unfold KM; omega), show 2 * iz / 2 = iz by omega] at hq
                     unfold inM at hq
                     omega)
                   have a2 := RM_void a1 (fun a b w he => by
                     have hq := he.2.2.1
                     rw [show s + 2 * iz + 1 = s + (2 * iz + 1) by omega, emod_pos hsm (by omega) (by unfold KM; omega), show (2 * iz + 1) / 2 = iz by omega] at hq
                     unfold inM at hq
                     omega)
                   rw [show s + 2 * iz + 1 + 1 = s + 2 * (iz + 1) by omega] at a2
                   exact ⟨tb, pb, a2, hi2⟩)
                | (refine ⟨td, pd, hRd, ?_⟩
                   rcases hud with ⟨z1, z2⟩ | ⟨z1, z2⟩
                   · rw [z2]
                     rcases huc with ⟨y1, y2⟩ | ⟨y1, y2⟩
                     · rw [y2]
                       first
                       | (exfalso; omega)
                       | exact hi2
                     · rw [y2]
                       first
                       | (exfalso; omega)
                       | (right
                          rw [show lbz = upM M iz by omega, up_s]
                          exact ⟨hnn.1, by omega⟩)
                   · rw [z2]
                     first
                     | (exfalso; omega)
                     | (right
                        rw [show lbz = loM M iz by omega, up_s]
                        exact ⟨hnn.2.1, by omega⟩))
              obtain ⟨tc, pc, hR3, hl3⟩ := hgo
              exact ih50 _ (by omega) lbz x19 Mz17 tc pc rfl (by omega) (by rw [hx19]; exact hR3) (hl3)
            · refine z_aload_nr dX8_findRound_139 rfl ?_
              refine z_iload dX8_findRound_140 rfl ?_
              refine z_callVip (n2 := 93) (A_X8_lower l g Mz17 iz (by omega) (by omega)) cb_X8_lower cl_X8_312 (clr0 rfl rfl (by decide) (by decide)) rfl (by decide) ⟨_, rfl, rfl⟩ rfl (by decide) rfl (Nat.le_of_ble_eq_true rfl) rfl dX8_findRound_142 (fun x20 bx20 hx20 => ?_)
              have hlo3 : x20 = loM M iz := by unfold loM; rw [← v61, ← v63]; exact hx20
              refine z_goto (tgt := 149) dX8_findRound_145 (by decide) ?_
              refine z_istore_n (loc2 := [fr 60, fi 0, fi x20, fi tz, fi iz, fu]) dX8_findRound_149 (by decide) rfl ?_
              refine z_iinc (loc2 := fun vq => [fr 60, fi 0, fi x20, fi tz, fi vq, fu]) dX8_findRound_150 rfl (by decide) (by omega) (fun _ => rfl) (fun x21 hx21 => ?_)
              refine z_goto (tgt := 50) dX8_findRound_153 (by decide) ?_
              have hgo : ∃ tc pc, RM M Mz17 tc pc (s + 2 * (iz + 1)) ∧ ((x20 = -1 ∧ ∀ v, tc v < s) ∨ (nd x20 ∧ s ≤ tc x20)) := by
                first
                | (have a1 := RM_void hi1 (fun a b w he => by
                     have hq := he.2.2.1
                     rw [emod_pos hsm (by omega) (by unfold KM; omega), show 2 * iz / 2 = iz by omega] at hq
                     unfold inM at hq
                     omega)
                   have a2 := RM_void a1 (fun a b w he => by
                     have hq := he.2.2.1
                     rw [show s + 2 * iz + 1 = s + (2 * iz + 1) by omega, emod_pos hsm (by omega) (by unfold KM; omega), show (2 * iz + 1) / 2 = iz by omega] at hq
                     unfold inM at hq
                     omega)
                   rw [show s + 2 * iz + 1 + 1 = s + 2 * (iz + 1) by omega] at a2
                   exact ⟨tb, pb, a2, hi2⟩)
                | (refine ⟨td, pd, hRd, ?_⟩
                   rcases hud with ⟨z1, z2⟩ | ⟨z1, z2⟩
                   · rw [z2]
                     rcases huc with ⟨y1, y2⟩ | ⟨y1, y2⟩
                     · rw [y2]
                       first
                       | (exfalso; omega)
                       | exact hi2
                     · rw [y2]
                       first
                       | (exfalso; omega)
                       | (right
                          rw [show x20 = upM M iz by omega, up_s]
                          exact ⟨hnn.1, by omega⟩)
                   · rw [z2]
                     first
                     | (exfalso; omega)
                     | (right
                        rw [show x20 = loM M iz by omega, up_s]
                        exact ⟨hnn.2.1, by omega⟩))
              obtain ⟨tc, pc, hR3, hl3⟩ := hgo
              exact ih50 _ (by omega) x20 x21 Mz17 tc pc rfl (by omega) (by rw [hx21]; exact hR3) (hl3)
          · refine z_aload_nr dX8_findRound_99 rfl ?_
            refine z_iload dX8_findRound_100 rfl ?_
            refine z_callVip (n2 := 93) (A_X8_upper l g Mz11 iz (by omega) (by omega)) cb_X8_upper cl_X8_316 (clr0 rfl rfl (by decide) (by decide)) rfl (by decide) ⟨_, rfl, rfl⟩ rfl (by decide) rfl (Nat.le_of_ble_eq_true rfl) rfl dX8_findRound_102 (fun x22 bx22 hx22 => ?_)
            have hup3 : x22 = upM M iz := by unfold upM; rw [← r61, ← r64]; exact hx22
            refine z_goto (tgt := 109) dX8_findRound_105 (by decide) ?_
            refine z_istore_n (loc2 := [fr 60, fi 0, fi x22, fi tz, fi iz, fu]) dX8_findRound_109 (by decide) rfl ?_
            refine z_aload_nr dX8_findRound_110 rfl ?_
            refine z_iload dX8_findRound_111 rfl ?_
            refine z_aload_nr dX8_findRound_113 rfl ?_
            refine z_iload dX8_findRound_114 rfl ?_
            refine z_callVip (n2 := 93) (A_X8_upper l g Mz11 iz (by omega) (by omega)) cb_X8_upper cl_X8_316 (clr0 rfl rfl (by decide) (by decide)) rfl (by decide) ⟨_, rfl, rfl⟩ rfl (by decide) rfl (Nat.le_of_ble_eq_true rfl) rfl dX8_findRound_116 (fun x23 bx23 hx23 => ?_)
            refine z_aload_nr dX8_findRound_119 rfl ?_
            refine z_iload dX8_findRound_120 rfl ?_
            refine z_callVip (n2 := 93) (A_X8_lower l g Mz11 iz (by omega) (by omega)) cb_X8_lower cl_X8_312 (clr0 rfl rfl (by decide) (by decide)) rfl (by decide) ⟨_, rfl, rfl⟩ rfl (by decide) rfl (Nat.le_of_ble_eq_true rfl) rfl dX8_findRound_122 (fun x24 bx24 hx24 => ?_)
            have hup2 : x23 = upM M iz := by unfold upM; rw [← r61, ← r64]; assumption
            have hlo2 : x24 = loM M iz := by unfold loM; rw [← r61, ← r63]; assumption
            refine z_lconst0 dX8_findRound_125 ?_
            refine z_aload_nr dX8_findRound_126 rfl ?_
            refine z_iload dX8_findRound_127 rfl ?_
            refine z_callVlp (n2 := 93) (A_X8_lowOf l g Mz11 iz (by omega) (htel2) (hTj.2.2.1) (hTj.2.2.2)) cb_X8_lowOf cl_X8_327 (clr0 rfl rfl (by decide) (by decide)) rfl (by decide) ⟨_, rfl, rfl⟩ rfl (by decide) rfl (Nat.le_of_ble_eq_true rfl) rfl dX8_findRound_129 (fun x25 bx25 hx25 => ?_)
            have hlw : x25 = lowM M iz := by rw [hx25.1]; exact hlhj.1
            have hlb := hx25.2
            first | refine z_lsubN dX8_findRound_132 (by omega) (fun x26 hx26 => ?_) | refine z_lsub dX8_findRound_132 (fun x26 hx26 => ?_)
            have hneg : x26 = -(lowM M iz) := by omega
            refine z_callVi (n2 := 93) (A_X8_raise l g Mz11 iz x23 x24 x26 (by rw [hup2]; exact hnn.1) (by rw [hlo2]; exact hnn.2.1) (by omega) (by rw [hup2]; omega)) cb_X8_raise cl_X8_375 (clr0 rfl rfl (by decide) (by decide)) rfl (by decide) ⟨_, rfl, rfl⟩ rfl (by decide) rfl (Nat.le_of_ble_eq_true rfl) rfl dX8_findRound_133 (fun x27 Mz27 bx27 kMz27 hc27 => ?_)
            have hrb := hc27
            rw [hlo2, hup2, hneg] at hrb
            obtain ⟨td, pd, hRd, hud⟩ := RM_step hT hRc (by omega) (a := upM M iz) (b := loM M iz) (w := -(lowM M iz)) (i := iz) (by
              rw [show s + 2 * iz + 1 = s + (2 * iz + 1) by omega, emod_pos hsm (by omega) (by unfold KM; omega)]
              exact ⟨by omega, by omega, by rw [show (2 * iz + 1) / 2 = iz by omega]; exact hin2, Or.inr ⟨by omega, by rw [show (2 * iz + 1) / 2 = iz by omega], by rw [show (2 * iz + 1) / 2 = iz by omega], by rw [show (2 * iz + 1) / 2 = iz by omega]⟩⟩) (by rw [show s + 2 * iz + 1 = s + (2 * iz + 1) by omega, emod_pos hsm (by omega) (by unfold KM; omega)]; omega) hrb
            rw [show s + 2 * iz + 1 + 1 = s + 2 * (iz + 1) by omega] at hRd
            have v61 := hRd.1 61 iz (by decide) (by decide) (by decide)
            have v63 := hRd.1 63 iz (by decide) (by decide) (by decide)
            refine z_if_eq (tgt := 148) dX8_findRound_136 (by decide) (fun c28 => ?_) (fun c28 => ?_)
            · refine z_iload_n dX8_findRound_148 rfl ?_
              refine z_istore_n (loc2 := [fr 60, fi 0, fi x22, fi tz, fi iz, fu]) dX8_findRound_149 (by decide) rfl ?_
              refine z_iinc (loc2 := fun vq => [fr 60, fi 0, fi x22, fi tz, fi vq, fu]) dX8_findRound_150 rfl (by decide) (by omega) (fun _ => rfl) (fun x29 hx29 => ?_)
              refine z_goto (tgt := 50) dX8_findRound_153 (by decide) ?_
              have hgo : ∃ tc pc, RM M Mz27 tc pc (s + 2 * (iz + 1)) ∧ ((x22 = -1 ∧ ∀ v, tc v < s) ∨ (nd x22 ∧ s ≤ tc x22)) := by
                first
                | (have a1 := RM_void hi1 (fun a b w he => by
                     have hq := he.2.2.1
                     rw [emod_pos hsm (by omega) (by unfold KM; omega), show 2 * iz / 2 = iz by omega] at hq
                     unfold inM at hq
                     omega)
                   have a2 := RM_void a1 (fun a b w he => by
                     have hq := he.2.2.1
                     rw [show s + 2 * iz + 1 = s + (2 * iz + 1) by omega, emod_pos hsm (by omega) (by unfold KM; omega), show (2 * iz + 1) / 2 = iz by omega] at hq
                     unfold inM at hq
                     omega)
                   rw [show s + 2 * iz + 1 + 1 = s + 2 * (iz + 1) by omega] at a2
                   exact ⟨tb, pb, a2, hi2⟩)
                | (refine ⟨td, pd, hRd, ?_⟩
                   rcases hud with ⟨z1, z2⟩ | ⟨z1, z2⟩
                   · rw [z2]
                     rcases huc with ⟨y1, y2⟩ | ⟨y1, y2⟩
                     · rw [y2]
                       first
                       | (exfalso; omega)
                       | exact hi2
                     · rw [y2]
                       first
                       | (exfalso; omega)
                       | (right
                          rw [show x22 = upM M iz by omega, up_s]
                          exact ⟨hnn.1, by omega⟩)
                   · rw [z2]
                     first
                     | (exfalso; omega)
                     | (right
                        rw [show x22 = loM M iz by omega, up_s]
                        exact ⟨hnn.2.1, by omega⟩))
              obtain ⟨tc, pc, hR3, hl3⟩ := hgo
              exact ih50 _ (by omega) x22 x29 Mz27 tc pc rfl (by omega) (by rw [hx29]; exact hR3) (hl3)
            · refine z_aload_nr dX8_findRound_139 rfl ?_
              refine z_iload dX8_findRound_140 rfl ?_
              refine z_callVip (n2 := 93) (A_X8_lower l g Mz27 iz (by omega) (by omega)) cb_X8_lower cl_X8_312 (clr0 rfl rfl (by decide) (by decide)) rfl (by decide) ⟨_, rfl, rfl⟩ rfl (by decide) rfl (Nat.le_of_ble_eq_true rfl) rfl dX8_findRound_142 (fun x30 bx30 hx30 => ?_)
              have hlo3 : x30 = loM M iz := by unfold loM; rw [← v61, ← v63]; exact hx30
              refine z_goto (tgt := 149) dX8_findRound_145 (by decide) ?_
              refine z_istore_n (loc2 := [fr 60, fi 0, fi x30, fi tz, fi iz, fu]) dX8_findRound_149 (by decide) rfl ?_
              refine z_iinc (loc2 := fun vq => [fr 60, fi 0, fi x30, fi tz, fi vq, fu]) dX8_findRound_150 rfl (by decide) (by omega) (fun _ => rfl) (fun x31 hx31 => ?_)
              refine z_goto (tgt := 50) dX8_findRound_153 (by decide) ?_
              have hgo : ∃ tc pc, RM M Mz27 tc pc (s + 2 * (iz + 1)) ∧ ((x30 = -1 ∧ ∀ v, tc v < s) ∨ (nd x30 ∧ s ≤ tc x30)) := by
                first
                | (have a1 := RM_void hi1 (fun a b w he => by
                     have hq := he.2.2.1
                     rw [emod_pos hsm (by omega) (by unfold KM; omega), show 2 * iz / 2 = iz by omega] at hq
                     unfold inM at hq
                     omega)
                   have a2 := RM_void a1 (fun a b w he => by
                     have hq := he.2.2.1
                     rw [show s + 2 * iz + 1 = s + (2 * iz + 1) by omega, emod_pos hsm (by omega) (by unfold KM; omega), show (2 * iz + 1) / 2 = iz by omega] at hq
                     unfold inM at hq
                     omega)
                   rw [show s + 2 * iz + 1 + 1 = s + 2 * (iz + 1) by omega] at a2
                   exact ⟨tb, pb, a2, hi2⟩)
                | (refine ⟨td, pd, hRd, ?_⟩
                   rcases hud with ⟨z1, z2⟩ | ⟨z1, z2⟩
                   · rw [z2]
                     rcases huc with ⟨y1, y2⟩ | ⟨y1, y2⟩
                     · rw [y2]
                       first
                       | (exfalso; omega)
                       | exact hi2
                     · rw [y2]
                       first
                       | (exfalso; omega)
                       | (right
                          rw [show x30 = upM M iz by omega, up_s]
                          exact ⟨hnn.1, by omega⟩)
                   · rw [z2]
                     first
                     | (exfalso; omega)
                     | (right
                        rw [show x30 = loM M iz by omega, up_s]
                        exact ⟨hnn.2.1, by omega⟩))
              obtain ⟨tc, pc, hR3, hl3⟩ := hgo
              exact ih50 _ (by omega) x30 x31 Mz27 tc pc rfl (by omega) (by rw [hx31]; exact hR3) (hl3)
    refine z_iload_n dX8_findRound_39 rfl ?_
    refine z_bipush dX8_findRound_40 ⟨by decide, by decide⟩ (by decide) ?_
    refine z_icmp_gt (tgt := 162) dX8_findRound_42 (by decide) (fun c32 => ?_) (fun c32 => ?_)
    · have hz18 : s - KM M = 17 * KM M := by rw [hs, show tz = 18 by omega]; omega
      have e91 : ∀ b j, b ≠ 91 → M1 b j = M1 b j := fun _ _ _ => rfl
      refine z_aload_nr dX8_findRound_162 rfl ?_
      refine z_getr (b := 91) fl_X8_115 rfl (by decide) rf_60_50 rfl dX8_findRound_163 ?_
      refine z_iload_n dX8_findRound_166 rfl ?_
      refine z_iconst dX8_findRound_167 ⟨by decide, by decide⟩ ?_
      refine z_iast rfl (by decide) (by omega) (by omega) dX8_findRound_168 (fun Mz33 hMz33 => ?_)
      obtain ⟨Mr, hMr⟩ : ∃ z, z = Mz33 := ⟨_, rfl⟩
      have hRr : RM M Mz33 ta pa s ∨ True := Or.inr trivial
      have hcl : ∀ b j, b ≠ 91 → Mz33 b j = M1 b j := fun b j q => by rw [hMz33, st_cell q]
      have hsz : Mz33 91 0 = 0 := by rw [hMz33]; exact st_same _ _ _ _
      have hsz2 : ∀ j, j ≠ 0 → Mz33 91 j = M 91 j := fun j q => by rw [hMz33, st_at, if_neg q]; exact h1.1 91 j (by decide) (by decide) (by decide)
      have hofr : ∀ b j, b ≠ 87 → b ≠ 88 → b ≠ 89 → b ≠ 91 → Mz33 b j = M b j := fun b j q1 q2 q3 q4 => by rw [hcl b j q4]; exact h1.1 b j q1 q2 q3
      refine z_iload_n dX8_findRound_169 rfl ?_
      refine z_if_ge (tgt := 175) dX8_findRound_170 (by decide) (fun c34 => ?_) (fun c34 => ?_)
      · have hl17 : nd laz ∧ 16 * KM M ≤ ta laz := by
          rcases h2 with z | z | z
          · omega
          · omega
          · exact ⟨z.1, by omega⟩
        have hpar := RM_par hT h1
        obtain ⟨hall, q0, hq1, hq2, hcy⟩ := chain_ring h1.2.1 hok hpar (chain_late h1.2.1 (by omega) hpar hl17.2)
        have hlf : ∀ v, Mz33 89 v = M1 89 v := fun v => hcl 89 v (by decide)
        have hld : ∀ v, Mz33 88 v = M1 88 v := fun v => hcl 88 v (by decide)
        have lp206 : ∀ (kq : Nat) (knz bez moz : Int) (m : Nat) (M2 : FMem), (36 - 2 * m + moz.toNat) = kq → (m ≤ 17 ∧ (moz = 0 ∨ moz = 1)) → (bez = chain (fun v => M1 89 v) laz 17) → (knz = chain (fun v => M1 89 v) laz (17 + m)) → ((moz = 1 ∧ ∀ j : Nat, 1 ≤ j → j ≤ m → chain (fun v => M1 89 v) laz (17 + j) ≠ bez) ∨ (moz = 0 ∧ 1 ≤ m ∧ knz = bez)) → (∀ b j, b ≠ 90 → b ≠ 91 → M2 b j = Mz33 b j) → (M2 91 0 = m) → (∀ j, j ≠ 0 → M2 91 j = M 91 j) → (∀ j : Nat, j < m → M2 90 (0 + j) = M1 88 (chain (fun v => M1 89 v) laz (17 + j))) → (∀ j, (j < 0 ∨ 17 ≤ j) → M2 90 j = M 90 j) → Wa l g true fi_X8_findRound 93 μ (Zi g true fi_X8_findRound 93 μ (fun q M2 => OffF 0 M M2 ∧ ((q = 0 ∧ M2 91 0 = 0 ∧ Feas (SolK M (M 60 0) (M 60 0))) ∨ (q = 1 ∧ RngM M 0 M2)))) 206 [] [fr 60, fi 0, fu, fi knz, fi bez, fi moz] 93 M2 := by
          intro kq
          induction kq using Nat.strongRecOn with
          | _ kq ih206 =>
          intro knz bez moz m M2 hk206 hm hbe hkn hmo hof2 hs1 hs2 hr1 hr2
          have hv := hall (17 + m)
          rw [← hkn] at hv
          have hle := RM_led h1 hv.2 hv.1
          have hpn := par_nd hT h1 hv.2 hv.1
          have e88 : M2 88 knz = M1 88 knz := by rw [hof2 88 knz (by decide) (by decide)]; exact hld knz
          have e89 : M2 89 knz = M1 89 knz := by rw [hof2 89 knz (by decide) (by decide)]; exact hlf knz
          have hm17 : moz = 1 → m < 17 := by
            intro hz
            rcases hmo with z | z
            · by_cases e : m < 17
              · exact e
              · exact absurd (hcy.trans hbe.symm) (z.2 q0 hq1 (by omega))
            · omega
          refine z_iload dX8_findRound_206 rfl ?_
          refine z_if_eq (tgt := 266) dX8_findRound_208 (by decide) (fun c35 => ?_) (fun c35 => ?_)
          · refine z_iconst dX8_findRound_266 ⟨by decide, by decide⟩ ?_
            refine z_zret rfl (by omega) (by decide) rfl (Nat.sub_self _) dX8_findRound_267 ?_
            have hmz : moz = 0 := by omega
            have hring := (show 1 ≤ m ∧ knz = bez by rcases hmo with z | z; omega; exact z.2)
            refine ⟨⟨fun b j q1 q2 q3 q4 q5 => ?_, hs2, fun j q => hr2 j (by omega)⟩, Or.inr ⟨rfl, by rw [hs1]; omega, fun k k0 k1 => ?_, fun y hy => ?_⟩⟩
            · rw [hof2 b j q4 q5]; exact hofr b j q1 q2 q3 q5
            · rw [hs1] at k1
              obtain ⟨kn, rfl⟩ : ∃ kn : Nat, k = kn := ⟨k.toNat, by omega⟩
              have hb := RM_led h1 (hall (17 + kn)).2 (hall (17 + kn)).1
              rw [show (17 : Int) * 0 + (kn : Int) = 0 + kn by omega, hr1 kn (by omega)]
              exact ⟨hb.1, hb.2.1⟩
            · refine chain_no h1.2.1 hok hpar (m0 := 17) (q := m) (fun m => (hall m).1) hring.1 (by rw [← hkn, ← hbe]; exact hring.2) (x := y) (fun i i0 i1 w hw2 => ?_)
              refine TK1_edge hw hw2 ?_
              have hb := RM_led h1 (hall i).2 (hall i).1
              rw [← hb.2.2]
              have hr := hr1 (i - 17) (by omega)
              rw [show 17 + (i - 17) = i by omega] at hr
              rw [← hr]
              have hyk := hy ((i - 17 : Nat) : Int) (by omega) (by rw [hs1]; omega)
              rw [show (17 : Int) * 0 + ((i - 17 : Nat) : Int) = 0 + ((i - 17 : Nat) : Int) by omega] at hyk
              exact hyk
          · have hm18 := hm17 (by omega)
            refine z_aload_nr dX8_findRound_211 rfl ?_
            refine z_getr (b := 90) fl_X8_112 rfl (by decide) rf_60_49 rfl dX8_findRound_212 ?_
            refine z_bipush dX8_findRound_215 ⟨by decide, by decide⟩ (by decide) ?_
            refine z_iload_n dX8_findRound_217 rfl ?_
            first | refine z_imulN dX8_findRound_218 (by omega) (fun x36 hx36 => ?_) | refine z_imul dX8_findRound_218 (fun x36 hx36 => ?_)
            refine z_aload_nr dX8_findRound_219 rfl ?_
            refine z_getr (b := 91) fl_X8_115 rfl (by decide) rf_60_50 rfl dX8_findRound_220 ?_
            refine z_iload_n dX8_findRound_223 rfl ?_
            refine z_iald rfl (by decide) (by omega) (by omega) dX8_findRound_224 (fun x37 hx37 bx37 => ?_)
            first | refine z_iaddN dX8_findRound_225 (by omega) (fun x38 hx38 => ?_) | refine z_iadd dX8_findRound_225 (fun x38 hx38 => ?_)
            refine z_aload_nr dX8_findRound_226 rfl ?_
            refine z_getr (b := 88) fl_X8_106 rfl (by decide) rf_60_47 rfl dX8_findRound_227 ?_
            refine z_iload_n dX8_findRound_230 rfl ?_
            refine z_iald rfl (by decide) (by omega) (by omega) dX8_findRound_231 (fun x39 hx39 bx39 => ?_)
            refine z_iast rfl (by decide) (by omega) (by omega) dX8_findRound_232 (fun Mz40 hMz40 => ?_)
            refine z_aload_nr dX8_findRound_233 rfl ?_
            refine z_getr (b := 91) fl_X8_115 rfl (by decide) rf_60_50 rfl dX8_findRound_234 ?_
            refine z_iload_n dX8_findRound_237 rfl ?_
            refine z_dup2 rfl rfl dX8_findRound_238 ?_
            refine z_iald rfl (by decide) (by omega) (by omega) dX8_findRound_239 (fun x41 hx41 bx41 => ?_)
            rw [hMz40, st_cell (by decide)] at hx41
            refine z_iconst dX8_findRound_240 ⟨by decide, by decide⟩ ?_
            first | refine z_iaddN dX8_findRound_241 (by omega) (fun x42 hx42 => ?_) | refine z_iadd dX8_findRound_241 (fun x42 hx42 => ?_)
            refine z_iast rfl (by decide) (by omega) (by omega) dX8_findRound_242 (fun Mz43 hMz43 => ?_)
            refine z_aload_nr dX8_findRound_243 rfl ?_
            refine z_getr (b := 89) fl_X8_109 rfl (by decide) rf_60_48 rfl dX8_findRound_244 ?_
            refine z_iload_n dX8_findRound_247 rfl ?_
            refine z_iald rfl (by decide) (by omega) (by omega) dX8_findRound_248 (fun x44 hx44 bx44 => ?_)
            rw [hMz43, st_cell (by decide), hMz40, st_cell (by decide)] at hx44
            refine z_istore_n (loc2 := [fr 60, fi 0, fu, fi x44, fi bez, fi moz]) dX8_findRound_249 (by decide) rfl ?_
            refine z_iload_n dX8_findRound_250 rfl ?_
            refine z_iload dX8_findRound_251 rfl ?_
            refine z_icmp_eq (tgt := 260) dX8_findRound_253 (by decide) (fun c45 => ?_) (fun c45 => ?_)
            · refine z_iconst dX8_findRound_260 ⟨by decide, by decide⟩ ?_
              refine z_istore (loc2 := [fr 60, fi 0, fu, fi x44, fi bez, fi 0]) dX8_findRound_261 (by decide) rfl ?_
              refine z_goto (tgt := 206) dX8_findRound_263 (by decide) ?_
              have hkx : x44 = chain (fun v => M1 89 v) laz (17 + m + 1) := by
                show _ = M1 89 (chain (fun v => M1 89 v) laz (17 + m))
                rw [← hkn]
                omega
              have hmx : ((0 : Int) = 1 ∧ ∀ j : Nat, 1 ≤ j → j ≤ m + 1 → chain (fun v => M1 89 v) laz (17 + j) ≠ bez) ∨ ((0 : Int) = 0 ∧ 1 ≤ m + 1 ∧ x44 = bez) := by
                first
                | (refine Or.inl ⟨rfl, fun j a b => ?_⟩
                   by_cases e : j = m + 1
                   · subst e
                     show chain _ _ (17 + m + 1) ≠ _
                     rw [← hkx]; omega
                   · rcases hmo with z | z
                     · exact z.2 j a (by omega)
                     · omega)
                | exact Or.inr ⟨rfl, by omega, by omega⟩
              have ho2 : ∀ b j, b ≠ 90 → b ≠ 91 → Mz43 b j = Mz33 b j := fun b j p q => by rw [hMz43, hMz40, st_cell q, st_cell p]; exact hof2 b j p q
              have hx1 : Mz43 91 0 = ((m + 1 : Nat) : Int) := by rw [hMz43, hMz40, st_same]; omega
              have hx2 : ∀ j, j ≠ 0 → Mz43 91 j = M 91 j := fun j q => by rw [hMz43, hMz40, st_at, if_neg q, st_cell (by decide)]; exact hs2 j q
              have hx3 : ∀ j : Nat, j < m + 1 → Mz43 90 (0 + j) = M1 88 (chain (fun v => M1 89 v) laz (17 + j)) := by
                intro j q
                rw [hMz43, hMz40, st_cell (by decide), st_at]
                by_cases e : j = m
                · subst e
                  rw [if_pos (by omega), ← hkn]; omega
                · rw [if_neg (by omega)]
                  exact hr1 j (by omega)
              have hx4 : ∀ j, (j < 0 ∨ 17 ≤ j) → Mz43 90 j = M 90 j := by
                intro j q
                rw [hMz43, hMz40, st_cell (by decide), st_at, if_neg (by omega)]
                exact hr2 j q
              exact ih206 _ (by omega) x44 bez 0 (m + 1) Mz43 rfl (by omega) (hbe) (hkx) (hmx) (ho2) (hx1) (hx2) (hx3) (hx4)
            · refine z_iconst dX8_findRound_256 ⟨by decide, by decide⟩ ?_
              refine z_goto (tgt := 261) dX8_findRound_257 (by decide) ?_
              refine z_istore (loc2 := [fr 60, fi 0, fu, fi x44, fi bez, fi 1]) dX8_findRound_261 (by decide) rfl ?_
              refine z_goto (tgt := 206) dX8_findRound_263 (by decide) ?_
              have hkx : x44 = chain (fun v => M1 89 v) laz (17 + m + 1) := by
                show _ = M1 89 (chain (fun v => M1 89 v) laz (17 + m))
                rw [← hkn]
                omega
              have hmx : ((1 : Int) = 1 ∧ ∀ j : Nat, 1 ≤ j → j ≤ m + 1 → chain (fun v => M1 89 v) laz (17 + j) ≠ bez) ∨ ((1 : Int) = 0 ∧ 1 ≤ m + 1 ∧ x44 = bez) := by
                first
                | (refine Or.inl ⟨rfl, fun j a b => ?_⟩
                   by_cases e : j = m + 1
                   · subst e
                     show chain _ _ (17 + m + 1) ≠ _
                     rw [← hkx]; omega
                   · rcases hmo with z | z
                     · exact z.2 j a (by omega)
                     · omega)
                | exact Or.inr ⟨rfl, by omega, by omega⟩
              have ho2 : ∀ b j, b ≠ 90 → b ≠ 91 → Mz43 b j = Mz33 b j := fun b j p q => by rw [hMz43, hMz40, st_cell q, st_cell p]; exact hof2 b j p q
              have hx1 : Mz43 91 0 = ((m + 1 : Nat) : Int) := by rw [hMz43, hMz40, st_same]; omega
              have hx2 : ∀ j, j ≠ 0 → Mz43 91 j = M 91 j := fun j q => by rw [hMz43, hMz40, st_at, if_neg q, st_cell (by decide)]; exact hs2 j q
              have hx3 : ∀ j : Nat, j < m + 1 → Mz43 90 (0 + j) = M1 88 (chain (fun v => M1 89 v) laz (17 + j)) := by
                intro j q
                rw [hMz43, hMz40, st_cell (by decide), st_at]
                by_cases e : j = m
                · subst e
                  rw [if_pos (by omega), ← hkn]; omega
                · rw [if_neg (by omega)]
                  exact hr1 j (by omega)
              have hx4 : ∀ j, (j < 0 ∨ 17 ≤ j) → Mz43 90 j = M 90 j := by
                intro j q
                rw [hMz43, hMz40, st_cell (by decide), st_at, if_neg (by omega)]
                exact hr2 j q
              exact ih206 _ (by omega) x44 bez 1 (m + 1) Mz43 rfl (by omega) (hbe) (hkx) (hmx) (ho2) (hx1) (hx2) (hx3) (hx4)
        have lp180 : ∀ (kq : Nat) (knz sz : Int) (m : Nat), (17 - m) = kq → (sz = m ∧ m ≤ 17) → (knz = chain (fun v => M1 89 v) laz m) → Wa l g true fi_X8_findRound 93 μ (Zi g true fi_X8_findRound 93 μ (fun q M2 => OffF 0 M M2 ∧ ((q = 0 ∧ M2 91 0 = 0 ∧ Feas (SolK M (M 60 0) (M 60 0))) ∨ (q = 1 ∧ RngM M 0 M2)))) 180 [] [fr 60, fi 0, fu, fi knz, fi sz, fu] 93 Mz33 := by
          intro kq
          induction kq using Nat.strongRecOn with
          | _ kq ih180 =>
          intro knz sz m hk180 hm h180
          have hv := hall m
          rw [← h180] at hv
          have e89 := hlf knz
          refine z_iload dX8_findRound_180 rfl ?_
          refine z_bipush dX8_findRound_182 ⟨by decide, by decide⟩ (by decide) ?_
          refine z_icmp_ge (tgt := 200) dX8_findRound_184 (by decide) (fun c46 => ?_) (fun c46 => ?_)
          · refine z_iload_n dX8_findRound_200 rfl ?_
            refine z_istore (loc2 := [fr 60, fi 0, fu, fi knz, fi knz, fu]) dX8_findRound_201 (by decide) rfl ?_
            refine z_iconst dX8_findRound_203 ⟨by decide, by decide⟩ ?_
            refine z_istore (loc2 := [fr 60, fi 0, fu, fi knz, fi knz, fi 1]) dX8_findRound_204 (by decide) rfl ?_
            exact lp206 _ knz knz 1 0 Mz33 rfl (by omega) (by rw [h180]; congr 1; omega) (by rw [h180]; congr 1; omega) (Or.inl ⟨rfl, fun j a b => by omega⟩) (fun _ _ _ _ => rfl) (hsz) (hsz2) (fun j h => by omega) (fun j _ => hofr 90 j (by decide) (by decide) (by decide) (by decide))
          · refine z_aload_nr dX8_findRound_187 rfl ?_
            refine z_getr (b := 89) fl_X8_109 rfl (by decide) rf_60_48 rfl dX8_findRound_188 ?_
            refine z_iload_n dX8_findRound_191 rfl ?_
            refine z_iald rfl (by decide) (by omega) (by omega) dX8_findRound_192 (fun x47 hx47 bx47 => ?_)
            rw [hMz33, st_cell (by decide)] at hx47
            refine z_istore_n (loc2 := [fr 60, fi 0, fu, fi x47, fi sz, fu]) dX8_findRound_193 (by decide) rfl ?_
            refine z_iinc (loc2 := fun vq => [fr 60, fi 0, fu, fi x47, fi vq, fu]) dX8_findRound_194 rfl (by decide) (by omega) (fun _ => rfl) (fun x48 hx48 => ?_)
            refine z_goto (tgt := 180) dX8_findRound_197 (by decide) ?_
            exact ih180 _ (by omega) x47 x48 (m + 1) rfl (by omega) (by show _ = M1 89 (chain (fun v => M1 89 v) laz m); rw [← h180]; omega)
        refine z_iload_n dX8_findRound_175 rfl ?_
        refine z_istore_n (loc2 := [fr 60, fi 0, fi laz, fi laz, fu, fu]) dX8_findRound_176 (by decide) rfl ?_
        refine z_iconst dX8_findRound_177 ⟨by decide, by decide⟩ ?_
        refine z_istore (loc2 := [fr 60, fi 0, fi laz, fi laz, fi 0, fu]) dX8_findRound_178 (by decide) rfl ?_
        refine z_few [fr 60, fi 0, fu, fi laz, fi 0, fu] (by simp [fle, kn]) ?_
        exact lp180 _ laz 0 0 rfl (by omega) (rfl)
      · refine z_iconst dX8_findRound_173 ⟨by decide, by decide⟩ ?_
        refine z_zret rfl (by omega) (by decide) rfl (Nat.sub_self _) dX8_findRound_174 ?_
        refine ⟨⟨fun b j q1 q2 q3 q4 q5 => hofr b j q1 q2 q3 q5, hsz2, fun j _ => hofr 90 j (by decide) (by decide) (by decide) (by decide)⟩, Or.inl ⟨rfl, hsz, ?_⟩⟩
        refine ⟨fun v => M1 87 v, EdM_sat hw (fun p a b w he => ?_)⟩
        have hq : ∀ v, ta v < s - KM M := by
          rcases h2 with z | z | z
          · omega
          · exact z.2
          · have := z.1; omega
        have h1b := h1.2.1
        rw [show s = (s - KM M) + KM M by omega] at h1b
        exact (BG_quiet h1b hok (by omega) (by omega) hq p a b w he (by
          have := h1.2.2.2 a ((hok.1 _ _ _ _ he).2.2.1)
          show M1 87 a ≠ 2147483647
          omega)).2
    · refine z_iconst dX8_findRound_45 ⟨by decide, by decide⟩ ?_
      refine z_istore_n (loc2 := [fr 60, fi 0, fi (-1), fi tz, fu, fu]) dX8_findRound_46 (by decide) rfl ?_
      refine z_iconst dX8_findRound_47 ⟨by decide, by decide⟩ ?_
      refine z_istore (loc2 := [fr 60, fi 0, fi (-1), fi tz, fi 0, fu]) dX8_findRound_48 (by decide) rfl ?_
      exact lp50 _ (-1) 0 M1 ta pa rfl (by omega) (by rw [show s + 2 * 0 = s by omega]; exact h1) (Or.inl ⟨rfl, fun v => (h1.2.1.1 v).2⟩)
  have lp2 : ∀ (kq : Nat) (az : Int) (M1 : FMem), (17 - az).toNat = kq → (0 ≤ az ∧ az ≤ 17) → (∀ b j, b ≠ 87 → b ≠ 88 → b ≠ 89 → M1 b j = M b j) → (∀ v, 0 ≤ v → v < az → M1 87 v = 0) → Wa l g true fi_X8_findRound 93 μ (Zi g true fi_X8_findRound 93 μ (fun q M2 => OffF 0 M M2 ∧ ((q = 0 ∧ M2 91 0 = 0 ∧ Feas (SolK M (M 60 0) (M 60 0))) ∨ (q = 1 ∧ RngM M 0 M2)))) 2 [] [fr 60, fi 0, fi az, fu, fu, fu] 93 M1 := by
    intro kq
    induction kq using Nat.strongRecOn with
    | _ kq ih2 =>
    intro az M1 hk2 h0 h1 h2
    refine z_iload_n dX8_findRound_2 rfl ?_
    refine z_bipush dX8_findRound_3 ⟨by decide, by decide⟩ (by decide) ?_
    refine z_icmp_ge (tgt := 35) dX8_findRound_5 (by decide) (fun c49 => ?_) (fun c49 => ?_)
    · refine z_iconst dX8_findRound_35 ⟨by decide, by decide⟩ ?_
      refine z_istore_n (loc2 := [fr 60, fi 0, fi (-1), fu, fu, fu]) dX8_findRound_36 (by decide) rfl ?_
      refine z_iconst dX8_findRound_37 ⟨by decide, by decide⟩ ?_
      refine z_istore_n (loc2 := [fr 60, fi 0, fi (-1), fi 0, fu, fu]) dX8_findRound_38 (by decide) rfl ?_
      exact lp39 _ (-1) 0 0 M1 (fun _ => -1) (fun _ => 0) rfl (by omega) (by rw [Int.zero_mul]) (RM_0 h1 (fun v hv => h2 v hv.1 (by have := hv.2; omega))) (Or.inl rfl)
    · refine z_aload_nr dX8_findRound_8 rfl ?_
      refine z_getr (b := 87) fl_X8_103 rfl (by decide) rf_60_46 rfl dX8_findRound_9 ?_
      refine z_iload_n dX8_findRound_12 rfl ?_
      refine z_lconst0 dX8_findRound_13 ?_
      refine z_last rfl (by decide) (by omega) (by omega) dX8_findRound_14 (fun Mz50 hMz50 => ?_)
      refine z_aload_nr dX8_findRound_15 rfl ?_
      refine z_getr (b := 88) fl_X8_106 rfl (by decide) rf_60_47 rfl dX8_findRound_16 ?_
      refine z_iload_n dX8_findRound_19 rfl ?_
      refine z_iconst dX8_findRound_20 ⟨by decide, by decide⟩ ?_
      refine z_iast rfl (by decide) (by omega) (by omega) dX8_findRound_21 (fun Mz51 hMz51 => ?_)
      refine z_aload_nr dX8_findRound_22 rfl ?_
      refine z_getr (b := 89) fl_X8_109 rfl (by decide) rf_60_48 rfl dX8_findRound_23 ?_
      refine z_iload_n dX8_findRound_26 rfl ?_
      refine z_iconst dX8_findRound_27 ⟨by decide, by decide⟩ ?_
      refine z_iast rfl (by decide) (by omega) (by omega) dX8_findRound_28 (fun Mz52 hMz52 => ?_)
      refine z_iinc (loc2 := fun vq => [fr 60, fi 0, fi vq, fu, fu, fu]) dX8_findRound_29 rfl (by decide) (by omega) (fun _ => rfl) (fun x53 hx53 => ?_)
      refine z_goto (tgt := 2) dX8_findRound_32 (by decide) ?_
      exact ih2 _ (by omega) x53 Mz52 rfl (by omega) (fun b j q1 q2 q3 => by rw [hMz52, hMz51, hMz50, st_cell q3, st_cell q2, st_cell q1]; exact h1 b j q1 q2 q3) (fun v q1 q2 => by rw [hMz52, hMz51, hMz50, st_cell (by decide), st_cell (by decide), st_at]; split; rfl; exact h2 v q1 (by omega))
  refine z_iconst dX8_findRound_0 ⟨by decide, by decide⟩ ?_
  refine z_istore_n (loc2 := [fr 60, fi 0, fi 0, fu, fu, fu]) dX8_findRound_1 (by decide) rfl ?_
  exact lp2 _ 0 M rfl (by omega) (fun b j _ _ _ => rfl) (fun v _ h => by omega)
set_option maxHeartbeats 12800000 in
theorem A_X8_findRound1 (l : Launch) (g : Cx) (M : FMem) (hT : MT0 M) (hw : M 60 45 = 0) : AMi l g true fi_X8_findRound [fr 60, fi 1] 93 M (fun q M2 => OffF 1 M M2 ∧ ((q = 0 ∧ M2 91 1 = 0 ∧ Feas (SolK M (M 60 0) (M 60 0))) ∨ (q = 1 ∧ RngM M 1 M2))) := by
  refine AMi_intro [fr 60, fi 1, fu, fu, fu, fu] (by decide) (knall rfl) (Nat.le_of_ble_eq_true rfl) rfl ?_
  intro hNV hM0 μ
  have hT0 := hT.1
  have hKb := KM_b hT
  have hok := EdM_ok hT
  have lp39 : ∀ (kq : Nat) (laz tz s : Int) (M1 : FMem) (ta pa : Int → Int), (18 - tz).toNat = kq → (0 ≤ tz ∧ tz ≤ 18) → (s = tz * KM M) → (RM M M1 ta pa s) → (tz = 0 ∨ (laz = -1 ∧ ∀ v, ta v < s - KM M) ∨ (nd laz ∧ s - KM M ≤ ta laz)) → Wa l g true fi_X8_findRound 93 μ (Zi g true fi_X8_findRound 93 μ (fun q M2 => OffF 1 M M2 ∧ ((q = 0 ∧ M2 91 1 = 0 ∧ Feas (SolK M (M 60 0) (M 60 0))) ∨ (q = 1 ∧ RngM M 1 M2)))) 39 [] [fr 60, fi 1, fi laz, fi tz, fu, fu] 93 M1 := by
    intro kq
    induction kq using Nat.strongRecOn with
    | _ kq ih39 =>
    intro laz tz s M1 ta pa hk39 h0 hs h1 h2
    have hsb : 0 ≤ s ∧ s ≤ 2916 := by
      rw [hs]
      have := mulp (a := tz) (b := KM M) (A := 18) (B := 162) (by omega) (by omega)
      omega
    have hsm : s % KM M = 0 := by rw [hs]; exact Int.mul_emod_left tz (KM M)
    have lp50 : ∀ (kq : Nat) (lbz iz : Int) (Mi : FMem) (tb pb : Int → Int), (80 - iz).toNat = kq → ((0 ≤ iz ∧ iz ≤ M 60 0) ∧ tz ≤ 17) → (RM M Mi tb pb (s + 2 * iz)) → ((lbz = -1 ∧ ∀ v, tb v < s) ∨ (nd lbz ∧ s ≤ tb lbz)) → Wa l g true fi_X8_findRound 93 μ (Zi g true fi_X8_findRound 93 μ (fun q M2 => OffF 1 M M2 ∧ ((q = 0 ∧ M2 91 1 = 0 ∧ Feas (SolK M (M 60 0) (M 60 0))) ∨ (q = 1 ∧ RngM M 1 M2)))) 50 [] [fr 60, fi 1, fi lbz, fi tz, fi iz, fu] 93 Mi := by
      intro kq
      induction kq using Nat.strongRecOn with
      | _ kq ih50 =>
      intro lbz iz Mi tb pb hk50 hi0 hi1 hi2
      have hsb2 : s ≤ 2754 := by
        rw [hs]
        have := mulp (a := tz) (b := KM M) (A := 17) (B := 162) (by omega) (by omega)
        omega
      have hof := hi1.1
      have hofM : OffM M Mi := fun b j q => hof b j (by omega) (by omega) (by omega)
      have hTi := MT0_off hofM hT
      have hlhi := lowM_off hofM iz
      have q0 := hof 60 0 (by decide) (by decide) (by decide)
      have q42 := hof 60 42 (by decide) (by decide) (by decide)
      have q43 := hof 60 43 (by decide) (by decide) (by decide)
      have q44 := hof 60 44 (by decide) (by decide) (by decide)
      have q61 := hof 61 iz (by decide) (by decide) (by decide)
      have q62 := hof 62 iz (by decide) (by decide) (by decide)
      have q63 := hof 63 iz (by decide) (by decide) (by decide)
      have q64 := hof 64 iz (by decide) (by decide) (by decide)
      have q69 := hof 69 iz (by decide) (by decide) (by decide)
      have q70 := hof 70 iz (by decide) (by decide) (by decide)
      refine z_iload dX8_findRound_50 rfl ?_
      refine z_aload_nr dX8_findRound_52 rfl ?_
      refine z_geti (kz := 0) fl_X8_136 rfl (by decide) rfl dX8_findRound_53 (fun x1 hx1 bx1 => ?_)
      refine z_icmp_ge (tgt := 156) dX8_findRound_56 (by decide) (fun c2 => ?_) (fun c2 => ?_)
      · refine z_iinc (loc2 := fun vq => [fr 60, fi 1, fi lbz, fi vq, fi iz, fu]) dX8_findRound_156 rfl (by decide) (by omega) (fun _ => rfl) (fun x3 hx3 => ?_)
        refine z_goto (tgt := 39) dX8_findRound_159 (by decide) ?_
        have g1 : RM M Mi tb pb (s + KM M) := by
          have a1 := RM_void hi1 (fun a b w he => by
            have hq := he.2.1
            rw [emod_pos hsm (by omega) (by unfold KM; omega)] at hq
            omega)
          have a2 := RM_void a1 (fun a b w he => by
            have hq := he.2.1
            rw [show s + 2 * iz + 1 = s + (2 * iz + 1) by omega, emod_pos hsm (by omega) (by unfold KM; omega)] at hq
            omega)
          rw [show s + KM M = s + 2 * iz + 1 + 1 by unfold KM; omega]
          exact a2
        refine z_few [fr 60, fi 1, fi lbz, fi x3, fu, fu] (by simp [fle, kn]) ?_
        exact ih39 _ (by omega) lbz x3 (s + KM M) Mi tb pb rfl (by omega) (by rw [hx3, Int.add_mul, Int.one_mul, hs]) (g1) (by
          right
          rw [show s + KM M - KM M = s by omega]
          exact hi2)
      · refine z_aload_nr dX8_findRound_59 rfl ?_
        refine z_iload dX8_findRound_60 rfl ?_
        refine z_aload_nr dX8_findRound_62 rfl ?_
        refine z_geti (kz := 0) fl_X8_136 rfl (by decide) rfl dX8_findRound_63 (fun x4 hx4 bx4 => ?_)
        refine z_callVip (n2 := 93) (A_X8_isIn l g Mi iz x4 (by omega)) cb_X8_isIn cl_X8_309 (clr0 rfl rfl (by decide) (by decide)) rfl (by decide) ⟨_, rfl, rfl⟩ rfl (by decide) rfl (Nat.le_of_ble_eq_true rfl) rfl dX8_findRound_66 (fun x5 bx5 hx5 => ?_)
        have i5 := if01 hx5
        refine z_if_eq (tgt := 150) dX8_findRound_69 (by decide) (fun c6 => ?_) (fun c6 => ?_)
        · refine z_iinc (loc2 := fun vq => [fr 60, fi 1, fi lbz, fi tz, fi vq, fu]) dX8_findRound_150 rfl (by decide) (by omega) (fun _ => rfl) (fun x7 hx7 => ?_)
          refine z_goto (tgt := 50) dX8_findRound_153 (by decide) ?_
          have hgo : ∃ tc pc, RM M Mi tc pc (s + 2 * (iz + 1)) ∧ ((lbz = -1 ∧ ∀ v, tc v < s) ∨ (nd lbz ∧ s ≤ tc lbz)) := by
            first
            | (have a1 := RM_void hi1 (fun a b w he => by
                 have hq := he.2.2.1
                 rw [emod_pos hsm (by omega) (by unfold KM; omega), show 2 * iz / 2 = iz by omega] at hq
                 unfold inM at hq
                 omega)
               have a2 := RM_void a1 (fun a b w he => by
                 have hq := he.2.2.1
                 rw [show s + 2 * iz + 1 = s + (2 * iz + 1) by omega, emod_pos hsm (by omega) (by unfold KM; omega), show (2 * iz + 1) / 2 = iz by omega] at hq
                 unfold inM at hq
                 omega)
               rw [show s + 2 * iz + 1 + 1 = s + 2 * (iz + 1) by omega] at a2
               exact ⟨tb, pb, a2, hi2⟩)
            | (refine ⟨td, pd, hRd, ?_⟩
               rcases hud with ⟨z1, z2⟩ | ⟨z1, z2⟩
               · rw [z2]
                 rcases huc with ⟨y1, y2⟩ | ⟨y1, y2⟩
                 · rw [y2]
                   first
                   | (exfalso; omega)
                   | exact hi2
                 · rw [y2]
                   first
                   | (exfalso; omega)
                   | (right
                      rw [show lbz = upM M iz by omega, up_s]
                      exact ⟨hnn.1, by omega⟩)
               · rw [z2]
                 first
                 | (exfalso; omega)
                 | (right
                    rw [show lbz = loM M iz by omega, up_s]
                    exact ⟨hnn.2.1, by omega⟩))
          obtain ⟨tc, pc, hR3, hl3⟩ := hgo
          exact ih50 _ (by omega) lbz x7 Mi tc pc rfl (by omega) (by rw [hx7]; exact hR3) (hl3)
        · have htel := hTi.2.1 iz (by omega) (by omega)
          have hTe := htel
          unfold TelM TelOk at hTe
          have hTo := hT.2.1 iz (by omega) (by omega)
          have hnn := ul_nd hTo
          have hin2 : inM M (M 60 0) iz := by unfold inM; omega
          have hga := hi1.2.2.2 (loM M iz) hnn.2.1
          have hgb := hi1.2.2.2 (upM M iz) hnn.1
          refine z_aload_nr dX8_findRound_72 rfl ?_
          refine z_iload dX8_findRound_73 rfl ?_
          refine z_aload_nr dX8_findRound_75 rfl ?_
          refine z_iload dX8_findRound_76 rfl ?_
          refine z_callVip (n2 := 93) (A_X8_lower l g Mi iz (by omega) (by omega)) cb_X8_lower cl_X8_312 (clr0 rfl rfl (by decide) (by decide)) rfl (by decide) ⟨_, rfl, rfl⟩ rfl (by decide) rfl (Nat.le_of_ble_eq_true rfl) rfl dX8_findRound_78 (fun x8 bx8 hx8 => ?_)
          refine z_aload_nr dX8_findRound_81 rfl ?_
          refine z_iload dX8_findRound_82 rfl ?_
          refine z_callVip (n2 := 93) (A_X8_upper l g Mi iz (by omega) (by omega)) cb_X8_upper cl_X8_316 (clr0 rfl rfl (by decide) (by decide)) rfl (by decide) ⟨_, rfl, rfl⟩ rfl (by decide) rfl (Nat.le_of_ble_eq_true rfl) rfl dX8_findRound_84 (fun x9 bx9 hx9 => ?_)
          have hlo1 : x8 = loM M iz := by unfold loM; rw [← q61, ← q63]; assumption
          have hup1 : x9 = upM M iz := by unfold upM; rw [← q61, ← q64]; assumption
          refine z_aload_nr dX8_findRound_87 rfl ?_
          refine z_iload dX8_findRound_88 rfl ?_
          refine z_callVlp (n2 := 93) (A_X8_highOf l g Mi iz (by omega) (htel) (hTi.2.2.1) (hTi.2.2.2)) cb_X8_highOf cl_X8_319 (clr0 rfl rfl (by decide) (by decide)) rfl (by decide) ⟨_, rfl, rfl⟩ rfl (by decide) rfl (Nat.le_of_ble_eq_true rfl) rfl dX8_findRound_90 (fun x10 bx10 hx10 => ?_)
          have hhi : x10 = highM M iz := by rw [hx10.1]; exact hlhi.2
          have hhb := hx10.2
          refine z_callVi (n2 := 93) (A_X8_raise l g Mi iz x8 x9 x10 (by rw [hlo1]; exact hnn.2.1) (by rw [hup1]; exact hnn.1) (by omega) (by rw [hlo1]; omega)) cb_X8_raise cl_X8_375 (clr0 rfl rfl (by decide) (by decide)) rfl (by decide) ⟨_, rfl, rfl⟩ rfl (by decide) rfl (Nat.le_of_ble_eq_true rfl) rfl dX8_findRound_93 (fun x11 Mz11 bx11 kMz11 hc11 => ?_)
          have hra := hc11
          rw [hlo1, hup1, hhi] at hra
          obtain ⟨tc, pc, hRc, huc⟩ := RM_step hT hi1 (by omega) (a := loM M iz) (b := upM M iz) (w := highM M iz) (i := iz) (by
            rw [emod_pos hsm (by omega) (by unfold KM; omega)]
            exact ⟨by omega, by omega, by rw [show 2 * iz / 2 = iz by omega]; exact hin2, Or.inl ⟨by omega, by rw [show 2 * iz / 2 = iz by omega], by rw [show 2 * iz / 2 = iz by omega], by rw [show 2 * iz / 2 = iz by omega]⟩⟩) (by rw [emod_pos hsm (by omega) (by unfold KM; omega)]; omega) hra
          have hofc := hRc.1
          have hofj : OffM M Mz11 := fun b j q => hofc b j (by omega) (by omega) (by omega)
          have hTj := MT0_off hofj hT
          have hlhj := lowM_off hofj iz
          have r0 := hofc 60 0 (by decide) (by decide) (by decide)
          have r61 := hofc 61 iz (by decide) (by decide) (by decide)
          have r63 := hofc 63 iz (by decide) (by decide) (by decide)
          have r64 := hofc 64 iz (by decide) (by decide) (by decide)
          have htel2 := hTj.2.1 iz (by omega) (by omega)
          have hTe2 := htel2
          unfold TelM TelOk at hTe2
          have hgu := hRc.2.2.2 (upM M iz) hnn.1
          refine z_if_eq (tgt := 108) dX8_findRound_96 (by decide) (fun c12 => ?_) (fun c12 => ?_)
          · refine z_iload_n dX8_findRound_108 rfl ?_
            refine z_istore_n (loc2 := [fr 60, fi 1, fi lbz, fi tz, fi iz, fu]) dX8_findRound_109 (by decide) rfl ?_
            refine z_aload_nr dX8_findRound_110 rfl ?_
            refine z_iload dX8_findRound_111 rfl ?_
            refine z_aload_nr dX8_findRound_113 rfl ?_
            refine z_iload dX8_findRound_114 rfl ?_
            refine z_callVip (n2 := 93) (A_X8_upper l g Mz11 iz (by omega) (by omega)) cb_X8_upper cl_X8_316 (clr0 rfl rfl (by decide) (by decide)) rfl (by decide) ⟨_, rfl, rfl⟩ rfl (by decide) rfl (Nat.le_of_ble_eq_true rfl) rfl dX8_findRound_116 (fun x13 bx13 hx13 => ?_)
            refine z_aload_nr dX8_findRound_119 rfl ?_
            refine z_iload dX8_findRound_120 rfl ?_
            refine z_callVip (n2 := 93) (A_X8_lower l g Mz11 iz (by omega) (by omega)) cb_X8_lower cl_X8_312 (clr0 rfl rfl (by decide) (by decide)) rfl (by decide) ⟨_, rfl, rfl⟩ rfl (by decide) rfl (Nat.le_of_ble_eq_true rfl) rfl dX8_findRound_122 (fun x14 bx14 hx14 => ?_)
            have hup2 : x13 = upM M iz := by unfold upM; rw [← r61, ← r64]; assumption
            have hlo2 : x14 = loM M iz := by unfold loM; rw [← r61, ← r63]; assumption
            refine z_lconst0 dX8_findRound_125 ?_
            refine z_aload_nr dX8_findRound_126 rfl ?_
            refine z_iload dX8_findRound_127 rfl ?_
            refine z_callVlp (n2 := 93) (A_X8_lowOf l g Mz11 iz (by omega) (htel2) (hTj.2.2.1) (hTj.2.2.2)) cb_X8_lowOf cl_X8_327 (clr0 rfl rfl (by decide) (by decide)) rfl (by decide) ⟨_, rfl, rfl⟩ rfl (by decide) rfl (Nat.le_of_ble_eq_true rfl) rfl dX8_findRound_129 (fun x15 bx15 hx15 => ?_)
            have hlw : x15 = lowM M iz := by rw [hx15.1]; exact hlhj.1
            have hlb := hx15.2
            first | refine z_lsubN dX8_findRound_132 (by omega) (fun x16 hx16 => ?_) | refine z_lsub dX8_findRound_132 (fun x16 hx16 => ?_)
            have hneg : x16 = -(lowM M iz) := by omega
            refine z_callVi (n2 := 93) (A_X8_raise l g Mz11 iz x13 x14 x16 (by rw [hup2]; exact hnn.1) (by rw [hlo2]; exact hnn.2.1) (by omega) (by rw [hup2]; omega)) cb_X8_raise cl_X8_375 (clr0 rfl rfl (by decide) (by decide)) rfl (by decide) ⟨_, rfl, rfl⟩ rfl (by decide) rfl (Nat.le_of_ble_eq_true rfl) rfl dX8_findRound_133 (fun x17 Mz17 bx17 kMz17 hc17 => ?_)
            have hrb := hc17
            rw [hlo2, hup2, hneg] at hrb
            obtain ⟨td, pd, hRd, hud⟩ := RM_step hT hRc (by omega) (a := upM M iz) (b := loM M iz) (w := -(lowM M iz)) (i := iz) (by
              rw [show s + 2 * iz + 1 = s + (2 * iz + 1) by omega, emod_pos hsm (by omega) (by unfold KM; omega)]
              exact ⟨by omega, by omega, by rw [show (2 * iz + 1) / 2 = iz by omega]; exact hin2, Or.inr ⟨by omega, by rw [show (2 * iz + 1) / 2 = iz by omega], by rw [show (2 * iz + 1) / 2 = iz by omega], by rw [show (2 * iz + 1) / 2 = iz by omega]⟩⟩) (by rw [show s + 2 * iz + 1 = s + (2 * iz + 1) by omega, emod_pos hsm (by omega) (by unfold KM; omega)]; omega) hrb
            rw [show s + 2 * iz + 1 + 1 = s + 2 * (iz + 1) by omega] at hRd
            have v61 := hRd.1 61 iz (by decide) (by decide) (by decide)
            have v63 := hRd.1 63 iz (by decide) (by decide) (by decide)
            refine z_if_eq (tgt := 148) dX8_findRound_136 (by decide) (fun c18 => ?_) (fun c18 => ?_)
            · refine z_iload_n dX8_findRound_148 rfl ?_
              refine z_istore_n (loc2 := [fr 60, fi 1, fi lbz, fi tz, fi iz, fu]) dX8_findRound_149 (by decide) rfl ?_
              refine z_iinc (loc2 := fun vq => [fr 60, fi 1, fi lbz, fi tz, fi vq, fu]) dX8_findRound_150 rfl (by decide) (by omega) (fun _ => rfl) (fun x19 hx19 => ?_)
              refine z_goto (tgt := 50) dX8_findRound_153 (by decide) ?_
              have hgo : ∃ tc pc, RM M Mz17 tc pc (s + 2 * (iz + 1)) ∧ ((lbz = -1 ∧ ∀ v, tc v < s) ∨ (nd lbz ∧ s ≤ tc lbz)) := by
                first
                | (have a1 := RM_void hi1 (fun a b w he => by
                     have hq := he.2.2.1
                     rw [emod_pos hsm (by omega) (by unfold KM; omega), show 2 * iz / 2 = iz by omega] at hq
                     unfold inM at hq
                     omega)
                   have a2 := RM_void a1 (fun a b w he => by
                     have hq := he.2.2.1
                     rw [show s + 2 * iz + 1 = s + (2 * iz + 1) by omega, emod_pos hsm (by omega) (by unfold KM; omega), show (2 * iz + 1) / 2 = iz by omega] at hq
                     unfold inM at hq
                     omega)
                   rw [show s + 2 * iz + 1 + 1 = s + 2 * (iz + 1) by omega] at a2
                   exact ⟨tb, pb, a2, hi2⟩)
                | (refine ⟨td, pd, hRd, ?_⟩
                   rcases hud with ⟨z1, z2⟩ | ⟨z1, z2⟩
                   · rw [z2]
                     rcases huc with ⟨y1, y2⟩ | ⟨y1, y2⟩
                     · rw [y2]
                       first
                       | (exfalso; omega)
                       | exact hi2
                     · rw [y2]
                       first
                       | (exfalso; omega)
                       | (right
                          rw [show lbz = upM M iz by omega, up_s]
                          exact ⟨hnn.1, by omega⟩)
                   · rw [z2]
                     first
                     | (exfalso; omega)
                     | (right
                        rw [show lbz = loM M iz by omega, up_s]
                        exact ⟨hnn.2.1, by omega⟩))
              obtain ⟨tc, pc, hR3, hl3⟩ := hgo
              exact ih50 _ (by omega) lbz x19 Mz17 tc pc rfl (by omega) (by rw [hx19]; exact hR3) (hl3)
            · refine z_aload_nr dX8_findRound_139 rfl ?_
              refine z_iload dX8_findRound_140 rfl ?_
              refine z_callVip (n2 := 93) (A_X8_lower l g Mz17 iz (by omega) (by omega)) cb_X8_lower cl_X8_312 (clr0 rfl rfl (by decide) (by decide)) rfl (by decide) ⟨_, rfl, rfl⟩ rfl (by decide) rfl (Nat.le_of_ble_eq_true rfl) rfl dX8_findRound_142 (fun x20 bx20 hx20 => ?_)
              have hlo3 : x20 = loM M iz := by unfold loM; rw [← v61, ← v63]; exact hx20
              refine z_goto (tgt := 149) dX8_findRound_145 (by decide) ?_
              refine z_istore_n (loc2 := [fr 60, fi 1, fi x20, fi tz, fi iz, fu]) dX8_findRound_149 (by decide) rfl ?_
              refine z_iinc (loc2 := fun vq => [fr 60, fi 1, fi x20, fi tz, fi vq, fu]) dX8_findRound_150 rfl (by decide) (by omega) (fun _ => rfl) (fun x21 hx21 => ?_)
              refine z_goto (tgt := 50) dX8_findRound_153 (by decide) ?_
              have hgo : ∃ tc pc, RM M Mz17 tc pc (s + 2 * (iz + 1)) ∧ ((x20 = -1 ∧ ∀ v, tc v < s) ∨ (nd x20 ∧ s ≤ tc x20)) := by
                first
                | (have a1 := RM_void hi1 (fun a b w he => by
                     have hq := he.2.2.1
                     rw [emod_pos hsm (by omega) (by unfold KM; omega), show 2 * iz / 2 = iz by omega] at hq
                     unfold inM at hq
                     omega)
                   have a2 := RM_void a1 (fun a b w he => by
                     have hq := he.2.2.1
                     rw [show s + 2 * iz + 1 = s + (2 * iz + 1) by omega, emod_pos hsm (by omega) (by unfold KM; omega), show (2 * iz + 1) / 2 = iz by omega] at hq
                     unfold inM at hq
                     omega)
                   rw [show s + 2 * iz + 1 + 1 = s + 2 * (iz + 1) by omega] at a2
                   exact ⟨tb, pb, a2, hi2⟩)
                | (refine ⟨td, pd, hRd, ?_⟩
                   rcases hud with ⟨z1, z2⟩ | ⟨z1, z2⟩
                   · rw [z2]
                     rcases huc with ⟨y1, y2⟩ | ⟨y1, y2⟩
                     · rw [y2]
                       first
                       | (exfalso; omega)
                       | exact hi2
                     · rw [y2]
                       first
                       | (exfalso; omega)
                       | (right
                          rw [show x20 = upM M iz by omega, up_s]
                          exact ⟨hnn.1, by omega⟩)
                   · rw [z2]
                     first
                     | (exfalso; omega)
                     | (right
                        rw [show x20 = loM M iz by omega, up_s]
                        exact ⟨hnn.2.1, by omega⟩))
              obtain ⟨tc, pc, hR3, hl3⟩ := hgo
              exact ih50 _ (by omega) x20 x21 Mz17 tc pc rfl (by omega) (by rw [hx21]; exact hR3) (hl3)
          · refine z_aload_nr dX8_findRound_99 rfl ?_
            refine z_iload dX8_findRound_100 rfl ?_
            refine z_callVip (n2 := 93) (A_X8_upper l g Mz11 iz (by omega) (by omega)) cb_X8_upper cl_X8_316 (clr0 rfl rfl (by decide) (by decide)) rfl (by decide) ⟨_, rfl, rfl⟩ rfl (by decide) rfl (Nat.le_of_ble_eq_true rfl) rfl dX8_findRound_102 (fun x22 bx22 hx22 => ?_)
            have hup3 : x22 = upM M iz := by unfold upM; rw [← r61, ← r64]; exact hx22
            refine z_goto (tgt := 109) dX8_findRound_105 (by decide) ?_
            refine z_istore_n (loc2 := [fr 60, fi 1, fi x22, fi tz, fi iz, fu]) dX8_findRound_109 (by decide) rfl ?_
            refine z_aload_nr dX8_findRound_110 rfl ?_
            refine z_iload dX8_findRound_111 rfl ?_
            refine z_aload_nr dX8_findRound_113 rfl ?_
            refine z_iload dX8_findRound_114 rfl ?_
            refine z_callVip (n2 := 93) (A_X8_upper l g Mz11 iz (by omega) (by omega)) cb_X8_upper cl_X8_316 (clr0 rfl rfl (by decide) (by decide)) rfl (by decide) ⟨_, rfl, rfl⟩ rfl (by decide) rfl (Nat.le_of_ble_eq_true rfl) rfl dX8_findRound_116 (fun x23 bx23 hx23 => ?_)
            refine z_aload_nr dX8_findRound_119 rfl ?_
            refine z_iload dX8_findRound_120 rfl ?_
            refine z_callVip (n2 := 93) (A_X8_lower l g Mz11 iz (by omega) (by omega)) cb_X8_lower cl_X8_312 (clr0 rfl rfl (by decide) (by decide)) rfl (by decide) ⟨_, rfl, rfl⟩ rfl (by decide) rfl (Nat.le_of_ble_eq_true rfl) rfl dX8_findRound_122 (fun x24 bx24 hx24 => ?_)
            have hup2 : x23 = upM M iz := by unfold upM; rw [← r61, ← r64]; assumption
            have hlo2 : x24 = loM M iz := by unfold loM; rw [← r61, ← r63]; assumption
            refine z_lconst0 dX8_findRound_125 ?_
            refine z_aload_nr dX8_findRound_126 rfl ?_
            refine z_iload dX8_findRound_127 rfl ?_
            refine z_callVlp (n2 := 93) (A_X8_lowOf l g Mz11 iz (by omega) (htel2) (hTj.2.2.1) (hTj.2.2.2)) cb_X8_lowOf cl_X8_327 (clr0 rfl rfl (by decide) (by decide)) rfl (by decide) ⟨_, rfl, rfl⟩ rfl (by decide) rfl (Nat.le_of_ble_eq_true rfl) rfl dX8_findRound_129 (fun x25 bx25 hx25 => ?_)
            have hlw : x25 = lowM M iz := by rw [hx25.1]; exact hlhj.1
            have hlb := hx25.2
            first | refine z_lsubN dX8_findRound_132 (by omega) (fun x26 hx26 => ?_) | refine z_lsub dX8_findRound_132 (fun x26 hx26 => ?_)
            have hneg : x26 = -(lowM M iz) := by omega
            refine z_callVi (n2 := 93) (A_X8_raise l g Mz11 iz x23 x24 x26 (by rw [hup2]; exact hnn.1) (by rw [hlo2]; exact hnn.2.1) (by omega) (by rw [hup2]; omega)) cb_X8_raise cl_X8_375 (clr0 rfl rfl (by decide) (by decide)) rfl (by decide) ⟨_, rfl, rfl⟩ rfl (by decide) rfl (Nat.le_of_ble_eq_true rfl) rfl dX8_findRound_133 (fun x27 Mz27 bx27 kMz27 hc27 => ?_)
            have hrb := hc27
            rw [hlo2, hup2, hneg] at hrb
            obtain ⟨td, pd, hRd, hud⟩ := RM_step hT hRc (by omega) (a := upM M iz) (b := loM M iz) (w := -(lowM M iz)) (i := iz) (by
              rw [show s + 2 * iz + 1 = s + (2 * iz + 1) by omega, emod_pos hsm (by omega) (by unfold KM; omega)]
              exact ⟨by omega, by omega, by rw [show (2 * iz + 1) / 2 = iz by omega]; exact hin2, Or.inr ⟨by omega, by rw [show (2 * iz + 1) / 2 = iz by omega], by rw [show (2 * iz + 1) / 2 = iz by omega], by rw [show (2 * iz + 1) / 2 = iz by omega]⟩⟩) (by rw [show s + 2 * iz + 1 = s + (2 * iz + 1) by omega, emod_pos hsm (by omega) (by unfold KM; omega)]; omega) hrb
            rw [show s + 2 * iz + 1 + 1 = s + 2 * (iz + 1) by omega] at hRd
            have v61 := hRd.1 61 iz (by decide) (by decide) (by decide)
            have v63 := hRd.1 63 iz (by decide) (by decide) (by decide)
            refine z_if_eq (tgt := 148) dX8_findRound_136 (by decide) (fun c28 => ?_) (fun c28 => ?_)
            · refine z_iload_n dX8_findRound_148 rfl ?_
              refine z_istore_n (loc2 := [fr 60, fi 1, fi x22, fi tz, fi iz, fu]) dX8_findRound_149 (by decide) rfl ?_
              refine z_iinc (loc2 := fun vq => [fr 60, fi 1, fi x22, fi tz, fi vq, fu]) dX8_findRound_150 rfl (by decide) (by omega) (fun _ => rfl) (fun x29 hx29 => ?_)
              refine z_goto (tgt := 50) dX8_findRound_153 (by decide) ?_
              have hgo : ∃ tc pc, RM M Mz27 tc pc (s + 2 * (iz + 1)) ∧ ((x22 = -1 ∧ ∀ v, tc v < s) ∨ (nd x22 ∧ s ≤ tc x22)) := by
                first
                | (have a1 := RM_void hi1 (fun a b w he => by
                     have hq := he.2.2.1
                     rw [emod_pos hsm (by omega) (by unfold KM; omega), show 2 * iz / 2 = iz by omega] at hq
                     unfold inM at hq
                     omega)
                   have a2 := RM_void a1 (fun a b w he => by
                     have hq := he.2.2.1
                     rw [show s + 2 * iz + 1 = s + (2 * iz + 1) by omega, emod_pos hsm (by omega) (by unfold KM; omega), show (2 * iz + 1) / 2 = iz by omega] at hq
                     unfold inM at hq
                     omega)
                   rw [show s + 2 * iz + 1 + 1 = s + 2 * (iz + 1) by omega] at a2
                   exact ⟨tb, pb, a2, hi2⟩)
                | (refine ⟨td, pd, hRd, ?_⟩
                   rcases hud with ⟨z1, z2⟩ | ⟨z1, z2⟩
                   · rw [z2]
                     rcases huc with ⟨y1, y2⟩ | ⟨y1, y2⟩
                     · rw [y2]
                       first
                       | (exfalso; omega)
                       | exact hi2
                     · rw [y2]
                       first
                       | (exfalso; omega)
                       | (right
                          rw [show x22 = upM M iz by omega, up_s]
                          exact ⟨hnn.1, by omega⟩)
                   · rw [z2]
                     first
                     | (exfalso; omega)
                     | (right
                        rw [show x22 = loM M iz by omega, up_s]
                        exact ⟨hnn.2.1, by omega⟩))
              obtain ⟨tc, pc, hR3, hl3⟩ := hgo
              exact ih50 _ (by omega) x22 x29 Mz27 tc pc rfl (by omega) (by rw [hx29]; exact hR3) (hl3)
            · refine z_aload_nr dX8_findRound_139 rfl ?_
              refine z_iload dX8_findRound_140 rfl ?_
              refine z_callVip (n2 := 93) (A_X8_lower l g Mz27 iz (by omega) (by omega)) cb_X8_lower cl_X8_312 (clr0 rfl rfl (by decide) (by decide)) rfl (by decide) ⟨_, rfl, rfl⟩ rfl (by decide) rfl (Nat.le_of_ble_eq_true rfl) rfl dX8_findRound_142 (fun x30 bx30 hx30 => ?_)
              have hlo3 : x30 = loM M iz := by unfold loM; rw [← v61, ← v63]; exact hx30
              refine z_goto (tgt := 149) dX8_findRound_145 (by decide) ?_
              refine z_istore_n (loc2 := [fr 60, fi 1, fi x30, fi tz, fi iz, fu]) dX8_findRound_149 (by decide) rfl ?_
              refine z_iinc (loc2 := fun vq => [fr 60, fi 1, fi x30, fi tz, fi vq, fu]) dX8_findRound_150 rfl (by decide) (by omega) (fun _ => rfl) (fun x31 hx31 => ?_)
              refine z_goto (tgt := 50) dX8_findRound_153 (by decide) ?_
              have hgo : ∃ tc pc, RM M Mz27 tc pc (s + 2 * (iz + 1)) ∧ ((x30 = -1 ∧ ∀ v, tc v < s) ∨ (nd x30 ∧ s ≤ tc x30)) := by
                first
                | (have a1 := RM_void hi1 (fun a b w he => by
                     have hq := he.2.2.1
                     rw [emod_pos hsm (by omega) (by unfold KM; omega), show 2 * iz / 2 = iz by omega] at hq
                     unfold inM at hq
                     omega)
                   have a2 := RM_void a1 (fun a b w he => by
                     have hq := he.2.2.1
                     rw [show s + 2 * iz + 1 = s + (2 * iz + 1) by omega, emod_pos hsm (by omega) (by unfold KM; omega), show (2 * iz + 1) / 2 = iz by omega] at hq
                     unfold inM at hq
                     omega)
                   rw [show s + 2 * iz + 1 + 1 = s + 2 * (iz + 1) by omega] at a2
                   exact ⟨tb, pb, a2, hi2⟩)
                | (refine ⟨td, pd, hRd, ?_⟩
                   rcases hud with ⟨z1, z2⟩ | ⟨z1, z2⟩
                   · rw [z2]
                     rcases huc with ⟨y1, y2⟩ | ⟨y1, y2⟩
                     · rw [y2]
                       first
                       | (exfalso; omega)
                       | exact hi2
                     · rw [y2]
                       first
                       | (exfalso; omega)
                       | (right
                          rw [show x30 = upM M iz by omega, up_s]
                          exact ⟨hnn.1, by omega⟩)
                   · rw [z2]
                     first
                     | (exfalso; omega)
                     | (right
                        rw [show x30 = loM M iz by omega, up_s]
                        exact ⟨hnn.2.1, by omega⟩))
              obtain ⟨tc, pc, hR3, hl3⟩ := hgo
              exact ih50 _ (by omega) x30 x31 Mz27 tc pc rfl (by omega) (by rw [hx31]; exact hR3) (hl3)
    refine z_iload_n dX8_findRound_39 rfl ?_
    refine z_bipush dX8_findRound_40 ⟨by decide, by decide⟩ (by decide) ?_
    refine z_icmp_gt (tgt := 162) dX8_findRound_42 (by decide) (fun c32 => ?_) (fun c32 => ?_)
    · have hz18 : s - KM M = 17 * KM M := by rw [hs, show tz = 18 by omega]; omega
      have e91 : ∀ b j, b ≠ 91 → M1 b j = M1 b j := fun _ _ _ => rfl
      refine z_aload_nr dX8_findRound_162 rfl ?_
      refine z_getr (b := 91) fl_X8_115 rfl (by decide) rf_60_50 rfl dX8_findRound_163 ?_
      refine z_iload_n dX8_findRound_166 rfl ?_
      refine z_iconst dX8_findRound_167 ⟨by decide, by decide⟩ ?_
      refine z_iast rfl (by decide) (by omega) (by omega) dX8_findRound_168 (fun Mz33 hMz33 => ?_)
      obtain ⟨Mr, hMr⟩ : ∃ z, z = Mz33 := ⟨_, rfl⟩
      have hRr : RM M Mz33 ta pa s ∨ True := Or.inr trivial
      have hcl : ∀ b j, b ≠ 91 → Mz33 b j = M1 b j := fun b j q => by rw [hMz33, st_cell q]
      have hsz : Mz33 91 1 = 0 := by rw [hMz33]; exact st_same _ _ _ _
      have hsz2 : ∀ j, j ≠ 1 → Mz33 91 j = M 91 j := fun j q => by rw [hMz33, st_at, if_neg q]; exact h1.1 91 j (by decide) (by decide) (by decide)
      have hofr : ∀ b j, b ≠ 87 → b ≠ 88 → b ≠ 89 → b ≠ 91 → Mz33 b j = M b j := fun b j q1 q2 q3 q4 => by rw [hcl b j q4]; exact h1.1 b j q1 q2 q3
      refine z_iload_n dX8_findRound_169 rfl ?_
      refine z_if_ge (tgt := 175) dX8_findRound_170 (by decide) (fun c34 => ?_) (fun c34 => ?_)
      · have hl17 : nd laz ∧ 16 * KM M ≤ ta laz := by
          rcases h2 with z | z | z
          · omega
          · omega
          · exact ⟨z.1, by omega⟩
        have hpar := RM_par hT h1
        obtain ⟨hall, q0, hq1, hq2, hcy⟩ := chain_ring h1.2.1 hok hpar (chain_late h1.2.1 (by omega) hpar hl17.2)
        have hlf : ∀ v, Mz33 89 v = M1 89 v := fun v => hcl 89 v (by decide)
        have hld : ∀ v, Mz33 88 v = M1 88 v := fun v => hcl 88 v (by decide)
        have lp206 : ∀ (kq : Nat) (knz bez moz : Int) (m : Nat) (M2 : FMem), (36 - 2 * m + moz.toNat) = kq → (m ≤ 17 ∧ (moz = 0 ∨ moz = 1)) → (bez = chain (fun v => M1 89 v) laz 17) → (knz = chain (fun v => M1 89 v) laz (17 + m)) → ((moz = 1 ∧ ∀ j : Nat, 1 ≤ j → j ≤ m → chain (fun v => M1 89 v) laz (17 + j) ≠ bez) ∨ (moz = 0 ∧ 1 ≤ m ∧ knz = bez)) → (∀ b j, b ≠ 90 → b ≠ 91 → M2 b j = Mz33 b j) → (M2 91 1 = m) → (∀ j, j ≠ 1 → M2 91 j = M 91 j) → (∀ j : Nat, j < m → M2 90 (17 + j) = M1 88 (chain (fun v => M1 89 v) laz (17 + j))) → (∀ j, (j < 17 ∨ 34 ≤ j) → M2 90 j = M 90 j) → Wa l g true fi_X8_findRound 93 μ (Zi g true fi_X8_findRound 93 μ (fun q M2 => OffF 1 M M2 ∧ ((q = 0 ∧ M2 91 1 = 0 ∧ Feas (SolK M (M 60 0) (M 60 0))) ∨ (q = 1 ∧ RngM M 1 M2)))) 206 [] [fr 60, fi 1, fu, fi knz, fi bez, fi moz] 93 M2 := by
          intro kq
          induction kq using Nat.strongRecOn with
          | _ kq ih206 =>
          intro knz bez moz m M2 hk206 hm hbe hkn hmo hof2 hs1 hs2 hr1 hr2
          have hv := hall (17 + m)
          rw [← hkn] at hv
          have hle := RM_led h1 hv.2 hv.1
          have hpn := par_nd hT h1 hv.2 hv.1
          have e88 : M2 88 knz = M1 88 knz := by rw [hof2 88 knz (by decide) (by decide)]; exact hld knz
          have e89 : M2 89 knz = M1 89 knz := by rw [hof2 89 knz (by decide) (by decide)]; exact hlf knz
          have hm17 : moz = 1 → m < 17 := by
            intro hz
            rcases hmo with z | z
            · by_cases e : m < 17
              · exact e
              · exact absurd (hcy.trans hbe.symm) (z.2 q0 hq1 (by omega))
            · omega
          refine z_iload dX8_findRound_206 rfl ?_
          refine z_if_eq (tgt := 266) dX8_findRound_208 (by decide) (fun c35 => ?_) (fun c35 => ?_)
          · refine z_iconst dX8_findRound_266 ⟨by decide, by decide⟩ ?_
            refine z_zret rfl (by omega) (by decide) rfl (Nat.sub_self _) dX8_findRound_267 ?_
            have hmz : moz = 0 := by omega
            have hring := (show 1 ≤ m ∧ knz = bez by rcases hmo with z | z; omega; exact z.2)
            refine ⟨⟨fun b j q1 q2 q3 q4 q5 => ?_, hs2, fun j q => hr2 j (by omega)⟩, Or.inr ⟨rfl, by rw [hs1]; omega, fun k k0 k1 => ?_, fun y hy => ?_⟩⟩
            · rw [hof2 b j q4 q5]; exact hofr b j q1 q2 q3 q5
            · rw [hs1] at k1
              obtain ⟨kn, rfl⟩ : ∃ kn : Nat, k = kn := ⟨k.toNat, by omega⟩
              have hb := RM_led h1 (hall (17 + kn)).2 (hall (17 + kn)).1
              rw [show (17 : Int) * 1 + (kn : Int) = 17 + kn by omega, hr1 kn (by omega)]
              exact ⟨hb.1, hb.2.1⟩
            · refine chain_no h1.2.1 hok hpar (m0 := 17) (q := m) (fun m => (hall m).1) hring.1 (by rw [← hkn, ← hbe]; exact hring.2) (x := y) (fun i i0 i1 w hw2 => ?_)
              refine TK1_edge hw hw2 ?_
              have hb := RM_led h1 (hall i).2 (hall i).1
              rw [← hb.2.2]
              have hr := hr1 (i - 17) (by omega)
              rw [show 17 + (i - 17) = i by omega] at hr
              rw [← hr]
              have hyk := hy ((i - 17 : Nat) : Int) (by omega) (by rw [hs1]; omega)
              rw [show (17 : Int) * 1 + ((i - 17 : Nat) : Int) = 17 + ((i - 17 : Nat) : Int) by omega] at hyk
              exact hyk
          · have hm18 := hm17 (by omega)
            refine z_aload_nr dX8_findRound_211 rfl ?_
            refine z_getr (b := 90) fl_X8_112 rfl (by decide) rf_60_49 rfl dX8_findRound_212 ?_
            refine z_bipush dX8_findRound_215 ⟨by decide, by decide⟩ (by decide) ?_
            refine z_iload_n dX8_findRound_217 rfl ?_
            first | refine z_imulN dX8_findRound_218 (by omega) (fun x36 hx36 => ?_) | refine z_imul dX8_findRound_218 (fun x36 hx36 => ?_)
            refine z_aload_nr dX8_findRound_219 rfl ?_
            refine z_getr (b := 91) fl_X8_115 rfl (by decide) rf_60_50 rfl dX8_findRound_220 ?_
            refine z_iload_n dX8_findRound_223 rfl ?_
            refine z_iald rfl (by decide) (by omega) (by omega) dX8_findRound_224 (fun x37 hx37 bx37 => ?_)
            first | refine z_iaddN dX8_findRound_225 (by omega) (fun x38 hx38 => ?_) | refine z_iadd dX8_findRound_225 (fun x38 hx38 => ?_)
            refine z_aload_nr dX8_findRound_226 rfl ?_
            refine z_getr (b := 88) fl_X8_106 rfl (by decide) rf_60_47 rfl dX8_findRound_227 ?_
            refine z_iload_n dX8_findRound_230 rfl ?_
            refine z_iald rfl (by decide) (by omega) (by omega) dX8_findRound_231 (fun x39 hx39 bx39 => ?_)
            refine z_iast rfl (by decide) (by omega) (by omega) dX8_findRound_232 (fun Mz40 hMz40 => ?_)
            refine z_aload_nr dX8_findRound_233 rfl ?_
            refine z_getr (b := 91) fl_X8_115 rfl (by decide) rf_60_50 rfl dX8_findRound_234 ?_
            refine z_iload_n dX8_findRound_237 rfl ?_
            refine z_dup2 rfl rfl dX8_findRound_238 ?_
            refine z_iald rfl (by decide) (by omega) (by omega) dX8_findRound_239 (fun x41 hx41 bx41 => ?_)
            rw [hMz40, st_cell (by decide)] at hx41
            refine z_iconst dX8_findRound_240 ⟨by decide, by decide⟩ ?_
            first | refine z_iaddN dX8_findRound_241 (by omega) (fun x42 hx42 => ?_) | refine z_iadd dX8_findRound_241 (fun x42 hx42 => ?_)
            refine z_iast rfl (by decide) (by omega) (by omega) dX8_findRound_242 (fun Mz43 hMz43 => ?_)
            refine z_aload_nr dX8_findRound_243 rfl ?_
            refine z_getr (b := 89) fl_X8_109 rfl (by decide) rf_60_48 rfl dX8_findRound_244 ?_
            refine z_iload_n dX8_findRound_247 rfl ?_
            refine z_iald rfl (by decide) (by omega) (by omega) dX8_findRound_248 (fun x44 hx44 bx44 => ?_)
            rw [hMz43, st_cell (by decide), hMz40, st_cell (by decide)] at hx44
            refine z_istore_n (loc2 := [fr 60, fi 1, fu, fi x44, fi bez, fi moz]) dX8_findRound_249 (by decide) rfl ?_
            refine z_iload_n dX8_findRound_250 rfl ?_
            refine z_iload dX8_findRound_251 rfl ?_
            refine z_icmp_eq (tgt := 260) dX8_findRound_253 (by decide) (fun c45 => ?_) (fun c45 => ?_)
            · refine z_iconst dX8_findRound_260 ⟨by decide, by decide⟩ ?_
              refine z_istore (loc2 := [fr 60, fi 1, fu, fi x44, fi bez, fi 0]) dX8_findRound_261 (by decide) rfl ?_
              refine z_goto (tgt := 206) dX8_findRound_263 (by decide) ?_
              have hkx : x44 = chain (fun v => M1 89 v) laz (17 + m + 1) := by
                show _ = M1 89 (chain (fun v => M1 89 v) laz (17 + m))
                rw [← hkn]
                omega
              have hmx : ((0 : Int) = 1 ∧ ∀ j : Nat, 1 ≤ j → j ≤ m + 1 → chain (fun v => M1 89 v) laz (17 + j) ≠ bez) ∨ ((0 : Int) = 0 ∧ 1 ≤ m + 1 ∧ x44 = bez) := by
                first
                | (refine Or.inl ⟨rfl, fun j a b => ?_⟩
                   by_cases e : j = m + 1
                   · subst e
                     show chain _ _ (17 + m + 1) ≠ _
                     rw [← hkx]; omega
                   · rcases hmo with z | z
                     · exact z.2 j a (by omega)
                     · omega)
                | exact Or.inr ⟨rfl, by omega, by omega⟩
              have ho2 : ∀ b j, b ≠ 90 → b ≠ 91 → Mz43 b j = Mz33 b j := fun b j p q => by rw [hMz43, hMz40, st_cell q, st_cell p]; exact hof2 b j p q
              have hx1 : Mz43 91 1 = ((m + 1 : Nat) : Int) := by rw [hMz43, hMz40, st_same]; omega
              have hx2 : ∀ j, j ≠ 1 → Mz43 91 j = M 91 j := fun j q => by rw [hMz43, hMz40, st_at, if_neg q, st_cell (by decide)]; exact hs2 j q
              have hx3 : ∀ j : Nat, j < m + 1 → Mz43 90 (17 + j) = M1 88 (chain (fun v => M1 89 v) laz (17 + j)) := by
                intro j q
                rw [hMz43, hMz40, st_cell (by decide), st_at]
                by_cases e : j = m
                · subst e
                  rw [if_pos (by omega), ← hkn]; omega
                · rw [if_neg (by omega)]
                  exact hr1 j (by omega)
              have hx4 : ∀ j, (j < 17 ∨ 34 ≤ j) → Mz43 90 j = M 90 j := by
                intro j q
                rw [hMz43, hMz40, st_cell (by decide), st_at, if_neg (by omega)]
                exact hr2 j q
              exact ih206 _ (by omega) x44 bez 0 (m + 1) Mz43 rfl (by omega) (hbe) (hkx) (hmx) (ho2) (hx1) (hx2) (hx3) (hx4)
            · refine z_iconst dX8_findRound_256 ⟨by decide, by decide⟩ ?_
              refine z_goto (tgt := 261) dX8_findRound_257 (by decide) ?_
              refine z_istore (loc2 := [fr 60, fi 1, fu, fi x44, fi bez, fi 1]) dX8_findRound_261 (by decide) rfl ?_
              refine z_goto (tgt := 206) dX8_findRound_263 (by decide) ?_
              have hkx : x44 = chain (fun v => M1 89 v) laz (17 + m + 1) := by
                show _ = M1 89 (chain (fun v => M1 89 v) laz (17 + m))
                rw [← hkn]
                omega
              have hmx : ((1 : Int) = 1 ∧ ∀ j : Nat, 1 ≤ j → j ≤ m + 1 → chain (fun v => M1 89 v) laz (17 + j) ≠ bez) ∨ ((1 : Int) = 0 ∧ 1 ≤ m + 1 ∧ x44 = bez) := by
                first
                | (refine Or.inl ⟨rfl, fun j a b => ?_⟩
                   by_cases e : j = m + 1
                   · subst e
                     show chain _ _ (17 + m + 1) ≠ _
                     rw [← hkx]; omega
                   · rcases hmo with z | z
                     · exact z.2 j a (by omega)
                     · omega)
                | exact Or.inr ⟨rfl, by omega, by omega⟩
              have ho2 : ∀ b j, b ≠ 90 → b ≠ 91 → Mz43 b j = Mz33 b j := fun b j p q => by rw [hMz43, hMz40, st_cell q, st_cell p]; exact hof2 b j p q
              have hx1 : Mz43 91 1 = ((m + 1 : Nat) : Int) := by rw [hMz43, hMz40, st_same]; omega
              have hx2 : ∀ j, j ≠ 1 → Mz43 91 j = M 91 j := fun j q => by rw [hMz43, hMz40, st_at, if_neg q, st_cell (by decide)]; exact hs2 j q
              have hx3 : ∀ j : Nat, j < m + 1 → Mz43 90 (17 + j) = M1 88 (chain (fun v => M1 89 v) laz (17 + j)) := by
                intro j q
                rw [hMz43, hMz40, st_cell (by decide), st_at]
                by_cases e : j = m
                · subst e
                  rw [if_pos (by omega), ← hkn]; omega
                · rw [if_neg (by omega)]
                  exact hr1 j (by omega)
              have hx4 : ∀ j, (j < 17 ∨ 34 ≤ j) → Mz43 90 j = M 90 j := by
                intro j q
                rw [hMz43, hMz40, st_cell (by decide), st_at, if_neg (by omega)]
                exact hr2 j q
              exact ih206 _ (by omega) x44 bez 1 (m + 1) Mz43 rfl (by omega) (hbe) (hkx) (hmx) (ho2) (hx1) (hx2) (hx3) (hx4)
        have lp180 : ∀ (kq : Nat) (knz sz : Int) (m : Nat), (17 - m) = kq → (sz = m ∧ m ≤ 17) → (knz = chain (fun v => M1 89 v) laz m) → Wa l g true fi_X8_findRound 93 μ (Zi g true fi_X8_findRound 93 μ (fun q M2 => OffF 1 M M2 ∧ ((q = 0 ∧ M2 91 1 = 0 ∧ Feas (SolK M (M 60 0) (M 60 0))) ∨ (q = 1 ∧ RngM M 1 M2)))) 180 [] [fr 60, fi 1, fu, fi knz, fi sz, fu] 93 Mz33 := by
          intro kq
          induction kq using Nat.strongRecOn with
          | _ kq ih180 =>
          intro knz sz m hk180 hm h180
          have hv := hall m
          rw [← h180] at hv
          have e89 := hlf knz
          refine z_iload dX8_findRound_180 rfl ?_
          refine z_bipush dX8_findRound_182 ⟨by decide, by decide⟩ (by decide) ?_
          refine z_icmp_ge (tgt := 200) dX8_findRound_184 (by decide) (fun c46 => ?_) (fun c46 => ?_)
          · refine z_iload_n dX8_findRound_200 rfl ?_
            refine z_istore (loc2 := [fr 60, fi 1, fu, fi knz, fi knz, fu]) dX8_findRound_201 (by decide) rfl ?_
            refine z_iconst dX8_findRound_203 ⟨by decide, by decide⟩ ?_
            refine z_istore (loc2 := [fr 60, fi 1, fu, fi knz, fi knz, fi 1]) dX8_findRound_204 (by decide) rfl ?_
            exact lp206 _ knz knz 1 0 Mz33 rfl (by omega) (by rw [h180]; congr 1; omega) (by rw [h180]; congr 1; omega) (Or.inl ⟨rfl, fun j a b => by omega⟩) (fun _ _ _ _ => rfl) (hsz) (hsz2) (fun j h => by omega) (fun j _ => hofr 90 j (by decide) (by decide) (by decide) (by decide))
          · refine z_aload_nr dX8_findRound_187 rfl ?_
            refine z_getr (b := 89) fl_X8_109 rfl (by decide) rf_60_48 rfl dX8_findRound_188 ?_
            refine z_iload_n dX8_findRound_191 rfl ?_
            refine z_iald rfl (by decide) (by omega) (by omega) dX8_findRound_192 (fun x47 hx47 bx47 => ?_)
            rw [hMz33, st_cell (by decide)] at hx47
            refine z_istore_n (loc2 := [fr 60, fi 1, fu, fi x47, fi sz, fu]) dX8_findRound_193 (by decide) rfl ?_
            refine z_iinc (loc2 := fun vq => [fr 60, fi 1, fu, fi x47, fi vq, fu]) dX8_findRound_194 rfl (by decide) (by omega) (fun _ => rfl) (fun x48 hx48 => ?_)
            refine z_goto (tgt := 180) dX8_findRound_197 (by decide) ?_
            exact ih180 _ (by omega) x47 x48 (m + 1) rfl (by omega) (by show _ = M1 89 (chain (fun v => M1 89 v) laz m); rw [← h180]; omega)
        refine z_iload_n dX8_findRound_175 rfl ?_
        refine z_istore_n (loc2 := [fr 60, fi 1, fi laz, fi laz, fu, fu]) dX8_findRound_176 (by decide) rfl ?_
        refine z_iconst dX8_findRound_177 ⟨by decide, by decide⟩ ?_
        refine z_istore (loc2 := [fr 60, fi 1, fi laz, fi laz, fi 0, fu]) dX8_findRound_178 (by decide) rfl ?_
        refine z_few [fr 60, fi 1, fu, fi laz, fi 0, fu] (by simp [fle, kn]) ?_
        exact lp180 _ laz 0 0 rfl (by omega) (rfl)
      · refine z_iconst dX8_findRound_173 ⟨by decide, by decide⟩ ?_
        refine z_zret rfl (by omega) (by decide) rfl (Nat.sub_self _) dX8_findRound_174 ?_
        refine ⟨⟨fun b j q1 q2 q3 q4 q5 => hofr b j q1 q2 q3 q5, hsz2, fun j _ => hofr 90 j (by decide) (by decide) (by decide) (by decide)⟩, Or.inl ⟨rfl, hsz, ?_⟩⟩
        refine ⟨fun v => M1 87 v, EdM_sat hw (fun p a b w he => ?_)⟩
        have hq : ∀ v, ta v < s - KM M := by
          rcases h2 with z | z | z
          · omega
          · exact z.2
          · have := z.1; omega
        have h1b := h1.2.1
        rw [show s = (s - KM M) + KM M by omega] at h1b
        exact (BG_quiet h1b hok (by omega) (by omega) hq p a b w he (by
          have := h1.2.2.2 a ((hok.1 _ _ _ _ he).2.2.1)
          show M1 87 a ≠ 2147483647
          omega)).2
    · refine z_iconst dX8_findRound_45 ⟨by decide, by decide⟩ ?_
      refine z_istore_n (loc2 := [fr 60, fi 1, fi (-1), fi tz, fu, fu]) dX8_findRound_46 (by decide) rfl ?_
      refine z_iconst dX8_findRound_47 ⟨by decide, by decide⟩ ?_
      refine z_istore (loc2 := [fr 60, fi 1, fi (-1), fi tz, fi 0, fu]) dX8_findRound_48 (by decide) rfl ?_
      exact lp50 _ (-1) 0 M1 ta pa rfl (by omega) (by rw [show s + 2 * 0 = s by omega]; exact h1) (Or.inl ⟨rfl, fun v => (h1.2.1.1 v).2⟩)
  have lp2 : ∀ (kq : Nat) (az : Int) (M1 : FMem), (17 - az).toNat = kq → (0 ≤ az ∧ az ≤ 17) → (∀ b j, b ≠ 87 → b ≠ 88 → b ≠ 89 → M1 b j = M b j) → (∀ v, 0 ≤ v → v < az → M1 87 v = 0) → Wa l g true fi_X8_findRound 93 μ (Zi g true fi_X8_findRound 93 μ (fun q M2 => OffF 1 M M2 ∧ ((q = 0 ∧ M2 91 1 = 0 ∧ Feas (SolK M (M 60 0) (M 60 0))) ∨ (q = 1 ∧ RngM M 1 M2)))) 2 [] [fr 60, fi 1, fi az, fu, fu, fu] 93 M1 := by
    intro kq
    induction kq using Nat.strongRecOn with
    | _ kq ih2 =>
    intro az M1 hk2 h0 h1 h2
    refine z_iload_n dX8_findRound_2 rfl ?_
    refine z_bipush dX8_findRound_3 ⟨by decide, by decide⟩ (by decide) ?_
    refine z_icmp_ge (tgt := 35) dX8_findRound_5 (by decide) (fun c49 => ?_) (fun c49 => ?_)
    · refine z_iconst dX8_findRound_35 ⟨by decide, by decide⟩ ?_
      refine z_istore_n (loc2 := [fr 60, fi 1, fi (-1), fu, fu, fu]) dX8_findRound_36 (by decide) rfl ?_
      refine z_iconst dX8_findRound_37 ⟨by decide, by decide⟩ ?_
      refine z_istore_n (loc2 := [fr 60, fi 1, fi (-1), fi 0, fu, fu]) dX8_findRound_38 (by decide) rfl ?_
      exact lp39 _ (-1) 0 0 M1 (fun _ => -1) (fun _ => 0) rfl (by omega) (by rw [Int.zero_mul]) (RM_0 h1 (fun v hv => h2 v hv.1 (by have := hv.2; omega))) (Or.inl rfl)
    · refine z_aload_nr dX8_findRound_8 rfl ?_
      refine z_getr (b := 87) fl_X8_103 rfl (by decide) rf_60_46 rfl dX8_findRound_9 ?_
      refine z_iload_n dX8_findRound_12 rfl ?_
      refine z_lconst0 dX8_findRound_13 ?_
      refine z_last rfl (by decide) (by omega) (by omega) dX8_findRound_14 (fun Mz50 hMz50 => ?_)
      refine z_aload_nr dX8_findRound_15 rfl ?_
      refine z_getr (b := 88) fl_X8_106 rfl (by decide) rf_60_47 rfl dX8_findRound_16 ?_
      refine z_iload_n dX8_findRound_19 rfl ?_
      refine z_iconst dX8_findRound_20 ⟨by decide, by decide⟩ ?_
      refine z_iast rfl (by decide) (by omega) (by omega) dX8_findRound_21 (fun Mz51 hMz51 => ?_)
      refine z_aload_nr dX8_findRound_22 rfl ?_
      refine z_getr (b := 89) fl_X8_109 rfl (by decide) rf_60_48 rfl dX8_findRound_23 ?_
      refine z_iload_n dX8_findRound_26 rfl ?_
      refine z_iconst dX8_findRound_27 ⟨by decide, by decide⟩ ?_
      refine z_iast rfl (by decide) (by omega) (by omega) dX8_findRound_28 (fun Mz52 hMz52 => ?_)
      refine z_iinc (loc2 := fun vq => [fr 60, fi 1, fi vq, fu, fu, fu]) dX8_findRound_29 rfl (by decide) (by omega) (fun _ => rfl) (fun x53 hx53 => ?_)
      refine z_goto (tgt := 2) dX8_findRound_32 (by decide) ?_
      exact ih2 _ (by omega) x53 Mz52 rfl (by omega) (fun b j q1 q2 q3 => by rw [hMz52, hMz51, hMz50, st_cell q3, st_cell q2, st_cell q1]; exact h1 b j q1 q2 q3) (fun v q1 q2 => by rw [hMz52, hMz51, hMz50, st_cell (by decide), st_cell (by decide), st_at]; split; rfl; exact h2 v q1 (by omega))
  refine z_iconst dX8_findRound_0 ⟨by decide, by decide⟩ ?_
  refine z_istore_n (loc2 := [fr 60, fi 1, fi 0, fu, fu, fu]) dX8_findRound_1 (by decide) rfl ?_
  exact lp2 _ 0 M rfl (by omega) (fun b j _ _ _ => rfl) (fun v _ h => by omega)
