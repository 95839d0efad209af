/-! ===== the reference: ends, between, loose ones, claims ===== -/
def inR (M : FMem) (k li one two i : Int) : Prop := i < k ∧ M 70 i = 0 ∧ M 69 i = 0 ∧ i ≠ one ∧ i ≠ two ∧ M 62 i ≠ li
def SolR (M : FMem) (k li one two w : Int) (x : Int → Int) : Prop := ∀ i, 0 ≤ i → i < M 60 0 → inR M k li one two i → x (un (upM M i)) ≤ x (un (loM M i)) + (highM M i + w) ∧ x (un (loM M i)) ≤ x (un (upM M i)) + (w - lowM M i)
theorem SolM_R {M M' : FMem} (h : OffM M M') (k : Int) : SolM M' k = SolR M k (M' 60 44) (M' 60 42) (M' 60 43) (M' 60 45) := by
  funext x
  unfold SolM SolK SolR inM inR TK1 upM loM
  rw [OffM_o h (j := 0) (by decide), OffM_c h (b := 61) (by decide), OffM_c h (b := 64) (by decide), OffM_c h (b := 63) (by decide), OffM_c h (b := 70) (by decide), OffM_c h (b := 69) (by decide), OffM_c h (b := 62) (by decide)]
  simp only [(lowM_off h _).1, (lowM_off h _).2]
theorem SolM_MT {M : FMem} (h : MT M) (k : Int) : SolM M k = SolR M k (-1) (-1) (-1) 0 := by
  rw [SolM_R (OffM_rfl M) k, h.2.1, h.2.2.1, h.2.2.2.1, h.2.2.2.2]
def OffN (M M2 : FMem) : Prop := OffM M M2 ∧ M2 60 42 = -1 ∧ M2 60 43 = -1 ∧ M2 60 44 = -1 ∧ M2 60 45 = 0
theorem OffN_w {M M2 : FMem} (hT : MT M) (h : ∀ b j, b ≠ 86 → M2 b j = M b j) : OffN M M2 :=
  ⟨OffM_w h, (h 60 42 (by decide)).trans hT.2.1, (h 60 43 (by decide)).trans hT.2.2.1, (h 60 44 (by decide)).trans hT.2.2.2.1, (h 60 45 (by decide)).trans hT.2.2.2.2⟩
theorem OffN_rfl {M : FMem} (hT : MT M) : OffN M M := OffN_w hT (fun _ _ _ => rfl)
theorem wide0 {M : FMem} (hT : MT M) : 0 ≤ M 60 45 ∧ M 60 45 ≤ 400000 := by rw [hT.2.2.2.2]; decide
/-- both ends of a home, as the sums have them -/
def ES (S : (Int → Int) → Prop) (M : FMem) (h : Int) : Prop := (M 86 (1 + h) = 1000000000000 ∧ FreeD S 16 h) ∨ ((-10000000 ≤ M 86 (1 + h) ∧ M 86 (1 + h) ≤ 10000000) ∧ (-10000000 ≤ M 86 (17 * (1 + h)) ∧ M 86 (17 * (1 + h)) ≤ 10000000) ∧ Ends2 S h (-(M 86 (17 * (1 + h)))) (M 86 (1 + h)))
theorem WF_es {S : (Int → Int) → Prop} {M : FMem} (hW : WF S M) {h : Int} (h0 : 0 ≤ h) (h9 : h ≤ 9) : ES S M h := by
  have hn : nd h := ⟨h0, by omega⟩
  have e1 := hW 16 h (by omega) hn
  have e2 := hW h 16 hn (by omega)
  have k1 : 17 * kt 16 + kt h = 1 + h := by unfold kt; rw [if_pos rfl, if_neg (by omega)]; omega
  have k2 : 17 * kt h + kt 16 = 17 * (1 + h) := by unfold kt; rw [if_pos rfl, if_neg (by omega)]; omega
  rw [k1] at e1
  rw [k2] at e2
  rcases e1 with e1 | e1
  · exact Or.inl e1
  · rcases e2 with e2 | e2
    · exact absurd e1.2 (fun z => MaxD_free z (FreeD_sym e2.2))
    · refine Or.inr ⟨e1.1, e2.1, e1.2, ?_⟩
      rw [show -(-(M 86 (17 * (1 + h)))) = M 86 (17 * (1 + h)) by omega]
      exact e2.2
set_option maxHeartbeats 400000 in
theorem A_X8_isLoose (l : Launch) (g : Cx) (M : FMem) (h : Int) (hh : 0 ≤ h ∧ h ≤ 9) : AMi l g true fi_X8_isLoose [fr 60, fi h] 93 M (fun r M2 => M2 = M ∧ (fun r => r = if 1000000000000 ≤ M 86 (1 + h) then 1 else 0) r) := by
  refine AMi_intro [fr 60, fi h] (by decide) (knall rfl) (Nat.le_of_ble_eq_true rfl) rfl ?_
  intro hNV hM0 μ
  have bh : N32 h := hNV (fi h) (by simp)
  refine z_aload_nr dX8_isLoose_0 rfl ?_
  refine z_getr (b := 86) fl_X8_90 rfl (by decide) rf_60_41 rfl dX8_isLoose_1 ?_
  refine z_iconst dX8_isLoose_4 ⟨by decide, by decide⟩ ?_
  refine z_iconst dX8_isLoose_5 ⟨by decide, by decide⟩ ?_
  refine z_iload_n dX8_isLoose_6 rfl ?_
  first | refine z_iaddN dX8_isLoose_7 (by omega) (fun x1 hx1 => ?_) | refine z_iadd dX8_isLoose_7 (fun x1 hx1 => ?_)
  refine z_callSip (n2 := 93) (A_X8_cell l g M 0 x1 (by omega) (by omega)) cb_X8_cell cl_X8_305 (clr0 rfl rfl (by decide) (by decide)) rfl (by decide) rfl (Nat.le_of_ble_eq_true rfl) rfl dX8_isLoose_8 (fun x2 bx2 hx2 => ?_)
  have hix : x2 = 1 + h := by omega
  refine z_lald rfl (by decide) (by omega) (by omega) dX8_isLoose_11 (fun x3 hx3 bx3 => ?_)
  have hv := hx3
  rw [hix] at hv
  refine z_ldc2 (c := 1000000000000) cn_X8_303 ⟨by decide, by decide⟩ dX8_isLoose_12 ?_
  refine z_lcmp_lt (tgt := 23) dX8_isLoose_15 dX8_isLoose_16 (by decide) (fun c4 => ?_) (fun c4 => ?_)
  · refine z_iconst dX8_isLoose_23 ⟨by decide, by decide⟩ ?_
    refine z_zret rfl (by omega) (by decide) rfl (Nat.sub_self _) dX8_isLoose_24 ?_
    refine ⟨rfl, ?_⟩
    first | rw [if_pos (by omega)] | rw [if_neg (by omega)]
  · refine z_iconst dX8_isLoose_19 ⟨by decide, by decide⟩ ?_
    refine z_goto (tgt := 24) dX8_isLoose_20 (by decide) ?_
    refine z_zret rfl (by omega) (by decide) rfl (Nat.sub_self _) dX8_isLoose_24 ?_
    refine ⟨rfl, ?_⟩
    first | rw [if_pos (by omega)] | rw [if_neg (by omega)]
set_option maxHeartbeats 400000 in
theorem A_X8_lowEnd (l : Launch) (g : Cx) (M : FMem) (h : Int) (hh : 0 ≤ h ∧ h ≤ 9) (hb : -10000000 ≤ M 86 (17 * (1 + h)) ∧ M 86 (17 * (1 + h)) ≤ 10000000) : AMi l g true fi_X8_lowEnd [fr 60, fi h] 93 M (fun r M2 => M2 = M ∧ (fun r => r = -(M 86 (17 * (1 + h)))) r) := by
  refine AMi_intro [fr 60, fi h] (by decide) (knall rfl) (Nat.le_of_ble_eq_true rfl) rfl ?_
  intro hNV hM0 μ
  have bh : N32 h := hNV (fi h) (by simp)
  refine z_lconst0 dX8_lowEnd_0 ?_
  refine z_aload_nr dX8_lowEnd_1 rfl ?_
  refine z_getr (b := 86) fl_X8_90 rfl (by decide) rf_60_41 rfl dX8_lowEnd_2 ?_
  refine z_iconst dX8_lowEnd_5 ⟨by decide, by decide⟩ ?_
  refine z_iload_n dX8_lowEnd_6 rfl ?_
  first | refine z_iaddN dX8_lowEnd_7 (by omega) (fun x1 hx1 => ?_) | refine z_iadd dX8_lowEnd_7 (fun x1 hx1 => ?_)
  refine z_iconst dX8_lowEnd_8 ⟨by decide, by decide⟩ ?_
  refine z_callSip (n2 := 93) (A_X8_cell l g M x1 0 (by omega) (by omega)) cb_X8_cell cl_X8_305 (clr0 rfl rfl (by decide) (by decide)) rfl (by decide) rfl (Nat.le_of_ble_eq_true rfl) rfl dX8_lowEnd_9 (fun x2 bx2 hx2 => ?_)
  have hix : x2 = 17 * (1 + h) := by omega
  refine z_lald rfl (by decide) (by omega) (by omega) dX8_lowEnd_12 (fun x3 hx3 bx3 => ?_)
  have hv := hx3
  rw [hix] at hv
  first | refine z_lsubN dX8_lowEnd_13 (by omega) (fun x4 hx4 => ?_) | refine z_lsub dX8_lowEnd_13 (fun x4 hx4 => ?_)
  first | refine z_l2iN dX8_lowEnd_14 (by omega) (fun x5 hx5 => ?_) | refine z_l2i dX8_lowEnd_14 (fun x5 hx5 => ?_)
  refine z_iret rfl (by decide) rfl (Nat.sub_self _) dX8_lowEnd_15 ?_
  refine ⟨rfl, ?_⟩
  omega
set_option maxHeartbeats 400000 in
theorem A_X8_highEnd (l : Launch) (g : Cx) (M : FMem) (h : Int) (hh : 0 ≤ h ∧ h ≤ 9) (hb : -10000000 ≤ M 86 (1 + h) ∧ M 86 (1 + h) ≤ 10000000) : AMi l g true fi_X8_highEnd [fr 60, fi h] 93 M (fun r M2 => M2 = M ∧ (fun r => r = M 86 (1 + h)) r) := by
  refine AMi_intro [fr 60, fi h] (by decide) (knall rfl) (Nat.le_of_ble_eq_true rfl) rfl ?_
  intro hNV hM0 μ
  have bh : N32 h := hNV (fi h) (by simp)
  refine z_aload_nr dX8_highEnd_0 rfl ?_
  refine z_getr (b := 86) fl_X8_90 rfl (by decide) rf_60_41 rfl dX8_highEnd_1 ?_
  refine z_iconst dX8_highEnd_4 ⟨by decide, by decide⟩ ?_
  refine z_iconst dX8_highEnd_5 ⟨by decide, by decide⟩ ?_
  refine z_iload_n dX8_highEnd_6 rfl ?_
  first | refine z_iaddN dX8_highEnd_7 (by omega) (fun x1 hx1 => ?_) | refine z_iadd dX8_highEnd_7 (fun x1 hx1 => ?_)
  refine z_callSip (n2 := 93) (A_X8_cell l g M 0 x1 (by omega) (by omega)) cb_X8_cell cl_X8_305 (clr0 rfl rfl (by decide) (by decide)) rfl (by decide) rfl (Nat.le_of_ble_eq_true rfl) rfl dX8_highEnd_8 (fun x2 bx2 hx2 => ?_)
  have hix : x2 = 1 + h := by omega
  refine z_lald rfl (by decide) (by omega) (by omega) dX8_highEnd_11 (fun x3 hx3 bx3 => ?_)
  have hv := hx3
  rw [hix] at hv
  first | refine z_l2iN dX8_highEnd_12 (by omega) (fun x4 hx4 => ?_) | refine z_l2i dX8_highEnd_12 (fun x4 hx4 => ?_)
  refine z_iret rfl (by decide) rfl (Nat.sub_self _) dX8_highEnd_13 ?_
  refine ⟨rfl, ?_⟩
  omega
set_option maxHeartbeats 1600000 in
theorem A_X8_ends (l : Launch) (g : Cx) (M : FMem) (home k what : Int) (hT : MT M) (hid : -999 ≤ M 60 54 ∧ M 60 54 ≤ 999) : AMi l g true fi_X8_ends [fr 60, fi home, fi k, fi what] 93 M (fun q M2 => OffN M M2 ∧ PEnds (M 60 0) (fun kw => SolR M kw (-1) (-1) (-1) 0) home k what (if M 60 55 = 1 ∧ M 60 56 = 0 then M 60 54 else 0) q) := by
  refine AMi_intro [fr 60, fi home, fi k, fi what, fu] (by decide) (knall rfl) (Nat.le_of_ble_eq_true rfl) rfl ?_
  intro hNV hM0 μ
  have bhome : N32 home := hNV (fi home) (by simp)
  have bk : N32 k := hNV (fi k) (by simp)
  have bwhat : N32 what := hNV (fi what) (by simp)
  have hT0 := hT.1.1
  refine z_iload_n dX8_ends_0 rfl ?_
  refine z_callSip (n2 := 93) (A_X8_isHome l g M home) cb_X8_isHome cl_X8_150 (clr0 rfl rfl (by decide) (by decide)) rfl (by decide) rfl (Nat.le_of_ble_eq_true rfl) rfl dX8_ends_1 (fun x1 bx1 hx1 => ?_)
  have i1 := if01 hx1
  refine z_if_ne (tgt := 10) dX8_ends_4 (by decide) (fun c2 => ?_) (fun c2 => ?_)
  · refine z_aload_nr dX8_ends_10 rfl ?_
    refine z_iload_n dX8_ends_11 rfl ?_
    refine z_callVip (n2 := 93) (A_X8_isKnown l g M k) cb_X8_isKnown cl_X8_351 (clr0 rfl rfl (by decide) (by decide)) rfl (by decide) ⟨_, rfl, rfl⟩ rfl (by decide) rfl (Nat.le_of_ble_eq_true rfl) rfl dX8_ends_12 (fun x3 bx3 hx3 => ?_)
    have i3 := if01 hx3
    refine z_if_eq (tgt := 28) dX8_ends_15 (by decide) (fun c4 => ?_) (fun c4 => ?_)
    · refine z_ldc (c := -1000002) cn_X8_164 ⟨by decide, by decide⟩ dX8_ends_28 ?_
      refine z_iret rfl (by decide) rfl (Nat.sub_self _) dX8_ends_30 ?_
      refine ⟨OffN_rfl hT, ?_⟩
      unfold PEnds
      rw [if_neg (by omega), if_pos (by omega)]
    · refine z_iload_n dX8_ends_18 rfl ?_
      refine z_i2l dX8_ends_19 ?_
      refine z_lconst0 dX8_ends_20 ?_
      refine z_lconst1 dX8_ends_21 ?_
      refine z_callSip (n2 := 93) (A_X8_in l g M what 0 1) cb_X8_in cl_X8_130 (clr0 rfl rfl (by decide) (by decide)) rfl (by decide) rfl (Nat.le_of_ble_eq_true rfl) rfl dX8_ends_22 (fun x5 bx5 hx5 => ?_)
      have i5 := if01 hx5
      refine z_if_ne (tgt := 31) dX8_ends_25 (by decide) (fun c6 => ?_) (fun c6 => ?_)
      · refine z_aload_nr dX8_ends_31 rfl ?_
        refine z_aload_nr dX8_ends_32 rfl ?_
        refine z_iload_n dX8_ends_33 rfl ?_
        refine z_callVip (n2 := 93) (A_X8_known l g M k) cb_X8_known cl_X8_354 (clr0 rfl rfl (by decide) (by decide)) rfl (by decide) ⟨_, rfl, rfl⟩ rfl (by decide) rfl (Nat.le_of_ble_eq_true rfl) rfl dX8_ends_34 (fun x7 bx7 hx7 => ?_)
        have hkn := hx7
        refine z_callVi (n2 := 93) (A_X8_sumWays l g M x7 (hT.1) (wide0 hT)) cb_X8_sumWays cl_X8_335 (clr0 rfl rfl (by decide) (by decide)) rfl (by decide) ⟨_, rfl, rfl⟩ rfl (by decide) rfl (Nat.le_of_ble_eq_true rfl) rfl dX8_ends_37 (fun x8 Mz8 bx8 kMz8 hc8 => ?_)
        have hsw := hc8
        rw [SolM_MT hT _] at hsw
        have hoN := OffN_w hT hsw.1
        rw [hkn] at hsw
        refine z_if_ne (tgt := 47) dX8_ends_40 (by decide) (fun c9 => ?_) (fun c9 => ?_)
        · have hsf : Feas (SolR M (if k < 0 then M 60 0 else k) (-1) (-1) (-1) 0) ∧ WF (SolR M (if k < 0 then M 60 0 else k) (-1) (-1) (-1) 0) Mz8 := by
            rcases hsw.2 with z | z
            · exact z.2
            · exfalso; omega
          have hes := WF_es hsf.2 (h := home) (by omega) (by omega)
          have q55 := hsw.1 60 55 (by decide)
          have q56 := hsw.1 60 56 (by decide)
          have q54 := hsw.1 60 54 (by decide)
          refine z_aload_nr dX8_ends_47 rfl ?_
          refine z_getz (kz := 55) fl_X8_344 rfl (by decide) rfl dX8_ends_48 (fun x10 hx10 bx10 => ?_)
          refine z_if_eq (tgt := 68) dX8_ends_51 (by decide) (fun c11 => ?_) (fun c11 => ?_)
          · refine z_iconst dX8_ends_68 ⟨by decide, by decide⟩ ?_
            refine z_istore (loc2 := [fr 60, fi home, fi k, fi what, fi 0]) dX8_ends_69 (by decide) rfl ?_
            have hhid : 0 = (if M 60 55 = 1 ∧ M 60 56 = 0 then M 60 54 else 0) := by
              first
              | rw [if_pos (by omega)]; omega
              | rw [if_neg (by omega)]
            refine z_aload_nr dX8_ends_71 rfl ?_
            refine z_iload_n dX8_ends_72 rfl ?_
            refine z_callVip (n2 := 93) (A_X8_isLoose l g Mz8 home (by omega)) cb_X8_isLoose cl_X8_338 (clr0 rfl rfl (by decide) (by decide)) rfl (by decide) ⟨_, rfl, rfl⟩ rfl (by decide) rfl (Nat.le_of_ble_eq_true rfl) rfl dX8_ends_73 (fun x12 bx12 hx12 => ?_)
            have i12 := if01 hx12
            have hls := hx12
            refine z_if_eq (tgt := 85) dX8_ends_76 (by decide) (fun c13 => ?_) (fun c13 => ?_)
            · refine z_iload dX8_ends_85 rfl ?_
              refine z_iload_n dX8_ends_87 rfl ?_
              refine z_if_ne (tgt := 99) dX8_ends_88 (by decide) (fun c14 => ?_) (fun c14 => ?_)
              · have hes2 : (-10000000 ≤ Mz8 86 (1 + home) ∧ Mz8 86 (1 + home) ≤ 10000000) ∧ (-10000000 ≤ Mz8 86 (17 * (1 + home)) ∧ Mz8 86 (17 * (1 + home)) ≤ 10000000) ∧ Ends2 (SolR M (if k < 0 then M 60 0 else k) (-1) (-1) (-1) 0) home (-(Mz8 86 (17 * (1 + home)))) (Mz8 86 (1 + home)) := by
                  rcases hes with z | z
                  · exfalso; omega
                  · exact z
                have hhb : -999 ≤ 0 ∧ 0 ≤ 999 := by rw [hhid]; split <;> omega
                refine z_aload_nr dX8_ends_99 rfl ?_
                refine z_iload_n dX8_ends_100 rfl ?_
                refine z_callVip (n2 := 93) (A_X8_highEnd l g Mz8 home (by omega) (by omega)) cb_X8_highEnd cl_X8_365 (clr0 rfl rfl (by decide) (by decide)) rfl (by decide) ⟨_, rfl, rfl⟩ rfl (by decide) rfl (Nat.le_of_ble_eq_true rfl) rfl dX8_ends_101 (fun x15 bx15 hx15 => ?_)
                first | refine z_iaddN dX8_ends_104 (by omega) (fun x16 hx16 => ?_) | refine z_iadd dX8_ends_104 (fun x16 hx16 => ?_)
                refine z_iret rfl (by decide) rfl (Nat.sub_self _) dX8_ends_105 ?_
                refine ⟨hoN, ?_⟩
                unfold PEnds
                rw [if_neg (by omega), if_neg (by omega)]
                have hke : (if k = -1 then M 60 0 else k) = (if k < 0 then M 60 0 else k) := by
                  by_cases e : k = -1
                  · rw [if_pos e, if_pos (by omega)]
                  · rw [if_neg e, if_neg (by omega)]
                rw [hke]
                first
                | (refine Or.inr (Or.inl ⟨hsf.1, ?_, rfl⟩)
                   rcases hes with z | z
                   · exact z.2
                   · exfalso; omega)
                | (refine Or.inr (Or.inr ⟨hsf.1, _, Or.inl ⟨by omega, hes2.2.2.1⟩, ?_⟩)
                   rw [← hhid]; omega)
                | (refine Or.inr (Or.inr ⟨hsf.1, _, Or.inr ⟨by omega, hes2.2.2.2⟩, ?_⟩)
                   rw [← hhid]; omega)
              · have hes2 : (-10000000 ≤ Mz8 86 (1 + home) ∧ Mz8 86 (1 + home) ≤ 10000000) ∧ (-10000000 ≤ Mz8 86 (17 * (1 + home)) ∧ Mz8 86 (17 * (1 + home)) ≤ 10000000) ∧ Ends2 (SolR M (if k < 0 then M 60 0 else k) (-1) (-1) (-1) 0) home (-(Mz8 86 (17 * (1 + home)))) (Mz8 86 (1 + home)) := by
                  rcases hes with z | z
                  · exfalso; omega
                  · exact z
                have hhb : -999 ≤ 0 ∧ 0 ≤ 999 := by rw [hhid]; split <;> omega
                refine z_aload_nr dX8_ends_91 rfl ?_
                refine z_iload_n dX8_ends_92 rfl ?_
                refine z_callVip (n2 := 93) (A_X8_lowEnd l g Mz8 home (by omega) (by omega)) cb_X8_lowEnd cl_X8_362 (clr0 rfl rfl (by decide) (by decide)) rfl (by decide) ⟨_, rfl, rfl⟩ rfl (by decide) rfl (Nat.le_of_ble_eq_true rfl) rfl dX8_ends_93 (fun x17 bx17 hx17 => ?_)
                refine z_goto (tgt := 104) dX8_ends_96 (by decide) ?_
                first | refine z_iaddN dX8_ends_104 (by omega) (fun x18 hx18 => ?_) | refine z_iadd dX8_ends_104 (fun x18 hx18 => ?_)
                refine z_iret rfl (by decide) rfl (Nat.sub_self _) dX8_ends_105 ?_
                refine ⟨hoN, ?_⟩
                unfold PEnds
                rw [if_neg (by omega), if_neg (by omega)]
                have hke : (if k = -1 then M 60 0 else k) = (if k < 0 then M 60 0 else k) := by
                  by_cases e : k = -1
                  · rw [if_pos e, if_pos (by omega)]
                  · rw [if_neg e, if_neg (by omega)]
                rw [hke]
                first
                | (refine Or.inr (Or.inl ⟨hsf.1, ?_, rfl⟩)
                   rcases hes with z | z
                   · exact z.2
                   · exfalso; omega)
                | (refine Or.inr (Or.inr ⟨hsf.1, _, Or.inl ⟨by omega, hes2.2.2.1⟩, ?_⟩)
                   rw [← hhid]; omega)
                | (refine Or.inr (Or.inr ⟨hsf.1, _, Or.inr ⟨by omega, hes2.2.2.2⟩, ?_⟩)
                   rw [← hhid]; omega)
            · refine z_ldc_w (c := -1000006) cn_X8_361 ⟨by decide, by decide⟩ dX8_ends_79 ?_
              refine z_goto (tgt := 105) dX8_ends_82 (by decide) ?_
              refine z_iret rfl (by decide) rfl (Nat.sub_self _) dX8_ends_105 ?_
              refine ⟨hoN, ?_⟩
              unfold PEnds
              rw [if_neg (by omega), if_neg (by omega)]
              have hke : (if k = -1 then M 60 0 else k) = (if k < 0 then M 60 0 else k) := by
                by_cases e : k = -1
                · rw [if_pos e, if_pos (by omega)]
                · rw [if_neg e, if_neg (by omega)]
              rw [hke]
              first
              | (refine Or.inr (Or.inl ⟨hsf.1, ?_, rfl⟩)
                 rcases hes with z | z
                 · exact z.2
                 · exfalso; omega)
              | (refine Or.inr (Or.inr ⟨hsf.1, _, Or.inl ⟨by omega, hes2.2.2.1⟩, ?_⟩)
                 rw [← hhid]; omega)
              | (refine Or.inr (Or.inr ⟨hsf.1, _, Or.inr ⟨by omega, hes2.2.2.2⟩, ?_⟩)
                 rw [← hhid]; omega)
          · refine z_aload_nr dX8_ends_54 rfl ?_
            refine z_getz (kz := 56) fl_X8_348 rfl (by decide) rfl dX8_ends_55 (fun x19 hx19 bx19 => ?_)
            refine z_if_ne (tgt := 68) dX8_ends_58 (by decide) (fun c20 => ?_) (fun c20 => ?_)
            · refine z_iconst dX8_ends_68 ⟨by decide, by decide⟩ ?_
              refine z_istore (loc2 := [fr 60, fi home, fi k, fi what, fi 0]) dX8_ends_69 (by decide) rfl ?_
              have hhid : 0 = (if M 60 55 = 1 ∧ M 60 56 = 0 then M 60 54 else 0) := by
                first
                | rw [if_pos (by omega)]; omega
                | rw [if_neg (by omega)]
              refine z_aload_nr dX8_ends_71 rfl ?_
              refine z_iload_n dX8_ends_72 rfl ?_
              refine z_callVip (n2 := 93) (A_X8_isLoose l g Mz8 home (by omega)) cb_X8_isLoose cl_X8_338 (clr0 rfl rfl (by decide) (by decide)) rfl (by decide) ⟨_, rfl, rfl⟩ rfl (by decide) rfl (Nat.le_of_ble_eq_true rfl) rfl dX8_ends_73 (fun x21 bx21 hx21 => ?_)
              have i21 := if01 hx21
              have hls := hx21
              refine z_if_eq (tgt := 85) dX8_ends_76 (by decide) (fun c22 => ?_) (fun c22 => ?_)
              · refine z_iload dX8_ends_85 rfl ?_
                refine z_iload_n dX8_ends_87 rfl ?_
                refine z_if_ne (tgt := 99) dX8_ends_88 (by decide) (fun c23 => ?_) (fun c23 => ?_)
                · have hes2 : (-10000000 ≤ Mz8 86 (1 + home) ∧ Mz8 86 (1 + home) ≤ 10000000) ∧ (-10000000 ≤ Mz8 86 (17 * (1 + home)) ∧ Mz8 86 (17 * (1 + home)) ≤ 10000000) ∧ Ends2 (SolR M (if k < 0 then M 60 0 else k) (-1) (-1) (-1) 0) home (-(Mz8 86 (17 * (1 + home)))) (Mz8 86 (1 + home)) := by
                    rcases hes with z | z
                    · exfalso; omega
                    · exact z
                  have hhb : -999 ≤ 0 ∧ 0 ≤ 999 := by rw [hhid]; split <;> omega
                  refine z_aload_nr dX8_ends_99 rfl ?_
                  refine z_iload_n dX8_ends_100 rfl ?_
                  refine z_callVip (n2 := 93) (A_X8_highEnd l g Mz8 home (by omega) (by omega)) cb_X8_highEnd cl_X8_365 (clr0 rfl rfl (by decide) (by decide)) rfl (by decide) ⟨_, rfl, rfl⟩ rfl (by decide) rfl (Nat.le_of_ble_eq_true rfl) rfl dX8_ends_101 (fun x24 bx24 hx24 => ?_)
                  first | refine z_iaddN dX8_ends_104 (by omega) (fun x25 hx25 => ?_) | refine z_iadd dX8_ends_104 (fun x25 hx25 => ?_)
                  refine z_iret rfl (by decide) rfl (Nat.sub_self _) dX8_ends_105 ?_
                  refine ⟨hoN, ?_⟩
                  unfold PEnds
                  rw [if_neg (by omega), if_neg (by omega)]
                  have hke : (if k = -1 then M 60 0 else k) = (if k < 0 then M 60 0 else k) := by
                    by_cases e : k = -1
                    · rw [if_pos e, if_pos (by omega)]
                    · rw [if_neg e, if_neg (by omega)]
                  rw [hke]
                  first
                  | (refine Or.inr (Or.inl ⟨hsf.1, ?_, rfl⟩)
                     rcases hes with z | z
                     · exact z.2
                     · exfalso; omega)
                  | (refine Or.inr (Or.inr ⟨hsf.1, _, Or.inl ⟨by omega, hes2.2.2.1⟩, ?_⟩)
                     rw [← hhid]; omega)
                  | (refine Or.inr (Or.inr ⟨hsf.1, _, Or.inr ⟨by omega, hes2.2.2.2⟩, ?_⟩)
                     rw [← hhid]; omega)
                · have hes2 : (-10000000 ≤ Mz8 86 (1 + home) ∧ Mz8 86 (1 + home) ≤ 10000000) ∧ (-10000000 ≤ Mz8 86 (17 * (1 + home)) ∧ Mz8 86 (17 * (1 + home)) ≤ 10000000) ∧ Ends2 (SolR M (if k < 0 then M 60 0 else k) (-1) (-1) (-1) 0) home (-(Mz8 86 (17 * (1 + home)))) (Mz8 86 (1 + home)) := by
                    rcases hes with z | z
                    · exfalso; omega
                    · exact z
                  have hhb : -999 ≤ 0 ∧ 0 ≤ 999 := by rw [hhid]; split <;> omega
                  refine z_aload_nr dX8_ends_91 rfl ?_
                  refine z_iload_n dX8_ends_92 rfl ?_
                  refine z_callVip (n2 := 93) (A_X8_lowEnd l g Mz8 home (by omega) (by omega)) cb_X8_lowEnd cl_X8_362 (clr0 rfl rfl (by decide) (by decide)) rfl (by decide) ⟨_, rfl, rfl⟩ rfl (by decide) rfl (Nat.le_of_ble_eq_true rfl) rfl dX8_ends_93 (fun x26 bx26 hx26 => ?_)
                  refine z_goto (tgt := 104) dX8_ends_96 (by decide) ?_
                  first | refine z_iaddN dX8_ends_104 (by omega) (fun x27 hx27 => ?_) | refine z_iadd dX8_ends_104 (fun x27 hx27 => ?_)
                  refine z_iret rfl (by decide) rfl (Nat.sub_self _) dX8_ends_105 ?_
                  refine ⟨hoN, ?_⟩
                  unfold PEnds
                  rw [if_neg (by omega), if_neg (by omega)]
                  have hke : (if k = -1 then M 60 0 else k) = (if k < 0 then M 60 0 else k) := by
                    by_cases e : k = -1
                    · rw [if_pos e, if_pos (by omega)]
                    · rw [if_neg e, if_neg (by omega)]
                  rw [hke]
                  first
                  | (refine Or.inr (Or.inl ⟨hsf.1, ?_, rfl⟩)
                     rcases hes with z | z
                     · exact z.2
                     · exfalso; omega)
                  | (refine Or.inr (Or.inr ⟨hsf.1, _, Or.inl ⟨by omega, hes2.2.2.1⟩, ?_⟩)
                     rw [← hhid]; omega)
                  | (refine Or.inr (Or.inr ⟨hsf.1, _, Or.inr ⟨by omega, hes2.2.2.2⟩, ?_⟩)
                     rw [← hhid]; omega)
              · refine z_ldc_w (c := -1000006) cn_X8_361 ⟨by decide, by decide⟩ dX8_ends_79 ?_
                refine z_goto (tgt := 105) dX8_ends_82 (by decide) ?_
                refine z_iret rfl (by decide) rfl (Nat.sub_self _) dX8_ends_105 ?_
                refine ⟨hoN, ?_⟩
                unfold PEnds
                rw [if_neg (by omega), if_neg (by omega)]
                have hke : (if k = -1 then M 60 0 else k) = (if k < 0 then M 60 0 else k) := by
                  by_cases e : k = -1
                  · rw [if_pos e, if_pos (by omega)]
                  · rw [if_neg e, if_neg (by omega)]
                rw [hke]
                first
                | (refine Or.inr (Or.inl ⟨hsf.1, ?_, rfl⟩)
                   rcases hes with z | z
                   · exact z.2
                   · exfalso; omega)
                | (refine Or.inr (Or.inr ⟨hsf.1, _, Or.inl ⟨by omega, hes2.2.2.1⟩, ?_⟩)
                   rw [← hhid]; omega)
                | (refine Or.inr (Or.inr ⟨hsf.1, _, Or.inr ⟨by omega, hes2.2.2.2⟩, ?_⟩)
                   rw [← hhid]; omega)
            · refine z_aload_nr dX8_ends_61 rfl ?_
              refine z_geti (kz := 54) fl_X8_358 rfl (by decide) rfl dX8_ends_62 (fun x28 hx28 bx28 => ?_)
              refine z_goto (tgt := 69) dX8_ends_65 (by decide) ?_
              refine z_istore (loc2 := [fr 60, fi home, fi k, fi what, fi x28]) dX8_ends_69 (by decide) rfl ?_
              have hhid : x28 = (if M 60 55 = 1 ∧ M 60 56 = 0 then M 60 54 else 0) := by
                first
                | rw [if_pos (by omega)]; omega
                | rw [if_neg (by omega)]
              refine z_aload_nr dX8_ends_71 rfl ?_
              refine z_iload_n dX8_ends_72 rfl ?_
              refine z_callVip (n2 := 93) (A_X8_isLoose l g Mz8 home (by omega)) cb_X8_isLoose cl_X8_338 (clr0 rfl rfl (by decide) (by decide)) rfl (by decide) ⟨_, rfl, rfl⟩ rfl (by decide) rfl (Nat.le_of_ble_eq_true rfl) rfl dX8_ends_73 (fun x29 bx29 hx29 => ?_)
              have i29 := if01 hx29
              have hls := hx29
              refine z_if_eq (tgt := 85) dX8_ends_76 (by decide) (fun c30 => ?_) (fun c30 => ?_)
              · refine z_iload dX8_ends_85 rfl ?_
                refine z_iload_n dX8_ends_87 rfl ?_
                refine z_if_ne (tgt := 99) dX8_ends_88 (by decide) (fun c31 => ?_) (fun c31 => ?_)
                · have hes2 : (-10000000 ≤ Mz8 86 (1 + home) ∧ Mz8 86 (1 + home) ≤ 10000000) ∧ (-10000000 ≤ Mz8 86 (17 * (1 + home)) ∧ Mz8 86 (17 * (1 + home)) ≤ 10000000) ∧ Ends2 (SolR M (if k < 0 then M 60 0 else k) (-1) (-1) (-1) 0) home (-(Mz8 86 (17 * (1 + home)))) (Mz8 86 (1 + home)) := by
                    rcases hes with z | z
                    · exfalso; omega
                    · exact z
                  have hhb : -999 ≤ x28 ∧ x28 ≤ 999 := by rw [hhid]; split <;> omega
                  refine z_aload_nr dX8_ends_99 rfl ?_
                  refine z_iload_n dX8_ends_100 rfl ?_
                  refine z_callVip (n2 := 93) (A_X8_highEnd l g Mz8 home (by omega) (by omega)) cb_X8_highEnd cl_X8_365 (clr0 rfl rfl (by decide) (by decide)) rfl (by decide) ⟨_, rfl, rfl⟩ rfl (by decide) rfl (Nat.le_of_ble_eq_true rfl) rfl dX8_ends_101 (fun x32 bx32 hx32 => ?_)
                  first | refine z_iaddN dX8_ends_104 (by omega) (fun x33 hx33 => ?_) | refine z_iadd dX8_ends_104 (fun x33 hx33 => ?_)
                  refine z_iret rfl (by decide) rfl (Nat.sub_self _) dX8_ends_105 ?_
                  refine ⟨hoN, ?_⟩
                  unfold PEnds
                  rw [if_neg (by omega), if_neg (by omega)]
                  have hke : (if k = -1 then M 60 0 else k) = (if k < 0 then M 60 0 else k) := by
                    by_cases e : k = -1
                    · rw [if_pos e, if_pos (by omega)]
                    · rw [if_neg e, if_neg (by omega)]
                  rw [hke]
                  first
                  | (refine Or.inr (Or.inl ⟨hsf.1, ?_, rfl⟩)
                     rcases hes with z | z
                     · exact z.2
                     · exfalso; omega)
                  | (refine Or.inr (Or.inr ⟨hsf.1, _, Or.inl ⟨by omega, hes2.2.2.1⟩, ?_⟩)
                     rw [← hhid]; omega)
                  | (refine Or.inr (Or.inr ⟨hsf.1, _, Or.inr ⟨by omega, hes2.2.2.2⟩, ?_⟩)
                     rw [← hhid]; omega)
                · have hes2 : (-10000000 ≤ Mz8 86 (1 + home) ∧ Mz8 86 (1 + home) ≤ 10000000) ∧ (-10000000 ≤ Mz8 86 (17 * (1 + home)) ∧ Mz8 86 (17 * (1 + home)) ≤ 10000000) ∧ Ends2 (SolR M (if k < 0 then M 60 0 else k) (-1) (-1) (-1) 0) home (-(Mz8 86 (17 * (1 + home)))) (Mz8 86 (1 + home)) := by
                    rcases hes with z | z
                    · exfalso; omega
                    · exact z
                  have hhb : -999 ≤ x28 ∧ x28 ≤ 999 := by rw [hhid]; split <;> omega
                  refine z_aload_nr dX8_ends_91 rfl ?_
                  refine z_iload_n dX8_ends_92 rfl ?_
                  refine z_callVip (n2 := 93) (A_X8_lowEnd l g Mz8 home (by omega) (by omega)) cb_X8_lowEnd cl_X8_362 (clr0 rfl rfl (by decide) (by decide)) rfl (by decide) ⟨_, rfl, rfl⟩ rfl (by decide) rfl (Nat.le_of_ble_eq_true rfl) rfl dX8_ends_93 (fun x34 bx34 hx34 => ?_)
                  refine z_goto (tgt := 104) dX8_ends_96 (by decide) ?_
                  first | refine z_iaddN dX8_ends_104 (by omega) (fun x35 hx35 => ?_) | refine z_iadd dX8_ends_104 (fun x35 hx35 => ?_)
                  refine z_iret rfl (by decide) rfl (Nat.sub_self _) dX8_ends_105 ?_
                  refine ⟨hoN, ?_⟩
                  unfold PEnds
                  rw [if_neg (by omega), if_neg (by omega)]
                  have hke : (if k = -1 then M 60 0 else k) = (if k < 0 then M 60 0 else k) := by
                    by_cases e : k = -1
                    · rw [if_pos e, if_pos (by omega)]
                    · rw [if_neg e, if_neg (by omega)]
                  rw [hke]
                  first
                  | (refine Or.inr (Or.inl ⟨hsf.1, ?_, rfl⟩)
                     rcases hes with z | z
                     · exact z.2
                     · exfalso; omega)
                  | (refine Or.inr (Or.inr ⟨hsf.1, _, Or.inl ⟨by omega, hes2.2.2.1⟩, ?_⟩)
                     rw [← hhid]; omega)
                  | (refine Or.inr (Or.inr ⟨hsf.1, _, Or.inr ⟨by omega, hes2.2.2.2⟩, ?_⟩)
                     rw [← hhid]; omega)
              · refine z_ldc_w (c := -1000006) cn_X8_361 ⟨by decide, by decide⟩ dX8_ends_79 ?_
                refine z_goto (tgt := 105) dX8_ends_82 (by decide) ?_
                refine z_iret rfl (by decide) rfl (Nat.sub_self _) dX8_ends_105 ?_
                refine ⟨hoN, ?_⟩
                unfold PEnds
                rw [if_neg (by omega), if_neg (by omega)]
                have hke : (if k = -1 then M 60 0 else k) = (if k < 0 then M 60 0 else k) := by
                  by_cases e : k = -1
                  · rw [if_pos e, if_pos (by omega)]
                  · rw [if_neg e, if_neg (by omega)]
                rw [hke]
                first
                | (refine Or.inr (Or.inl ⟨hsf.1, ?_, rfl⟩)
                   rcases hes with z | z
                   · exact z.2
                   · exfalso; omega)
                | (refine Or.inr (Or.inr ⟨hsf.1, _, Or.inl ⟨by omega, hes2.2.2.1⟩, ?_⟩)
                   rw [← hhid]; omega)
                | (refine Or.inr (Or.inr ⟨hsf.1, _, Or.inr ⟨by omega, hes2.2.2.2⟩, ?_⟩)
                   rw [← hhid]; omega)
        · refine z_ldc_w (c := -1000005) cn_X8_357 ⟨by decide, by decide⟩ dX8_ends_43 ?_
          refine z_iret rfl (by decide) rfl (Nat.sub_self _) dX8_ends_46 ?_
          refine ⟨hoN, ?_⟩
          unfold PEnds
          rw [if_neg (by omega), if_neg (by omega)]
          refine Or.inl ⟨?_, rfl⟩
          rcases hsw.2 with z | z
          · exfalso; omega
          · by_cases e : k = -1
            · rw [if_pos e]; rw [if_pos (by omega)] at z; exact z.2
            · rw [if_neg e]; rw [if_neg (by omega)] at z; exact z.2
      · refine z_ldc (c := -1000002) cn_X8_164 ⟨by decide, by decide⟩ dX8_ends_28 ?_
        refine z_iret rfl (by decide) rfl (Nat.sub_self _) dX8_ends_30 ?_
        refine ⟨OffN_rfl hT, ?_⟩
        unfold PEnds
        rw [if_neg (by omega), if_pos (by omega)]
  · refine z_ldc (c := -1000001) cn_X8_153 ⟨by decide, by decide⟩ dX8_ends_7 ?_
    refine z_iret rfl (by decide) rfl (Nat.sub_self _) dX8_ends_9 ?_
    refine ⟨OffN_rfl hT, ?_⟩
    unfold PEnds
    rw [if_pos (by omega)]
set_option maxHeartbeats 1600000 in
theorem A_X8_between (l : Launch) (g : Cx) (M : FMem) (a b what : Int) (hT : MT M) : AMi l g true fi_X8_between [fr 60, fi a, fi b, fi what] 93 M (fun q M2 => OffN M M2 ∧ PBetw (SolR M (M 60 0) (-1) (-1) (-1) 0) a b what q) := by
  refine AMi_intro [fr 60, fi a, fi b, fi what, fu, fu, fu, fu] (by decide) (knall rfl) (Nat.le_of_ble_eq_true rfl) rfl ?_
  intro hNV hM0 μ
  have ba : N32 a := hNV (fi a) (by simp)
  have bb : N32 b := hNV (fi b) (by simp)
  have bwhat : N32 what := hNV (fi what) (by simp)
  refine z_iload_n dX8_between_0 rfl ?_
  refine z_callSip (n2 := 93) (A_X8_isHome l g M a) cb_X8_isHome cl_X8_150 (clr0 rfl rfl (by decide) (by decide)) rfl (by decide) rfl (Nat.le_of_ble_eq_true rfl) rfl dX8_between_1 (fun x1 bx1 hx1 => ?_)
  have i1 := if01 hx1
  refine z_if_eq (tgt := 14) dX8_between_4 (by decide) (fun c2 => ?_) (fun c2 => ?_)
  · refine z_ldc (c := -1000001) cn_X8_153 ⟨by decide, by decide⟩ dX8_between_14 ?_
    refine z_iret rfl (by decide) rfl (Nat.sub_self _) dX8_between_16 ?_
    refine ⟨OffN_rfl hT, ?_⟩
    unfold PBetw
    rw [if_pos (by omega)]
  · refine z_iload_n dX8_between_7 rfl ?_
    refine z_callSip (n2 := 93) (A_X8_isHome l g M b) cb_X8_isHome cl_X8_150 (clr0 rfl rfl (by decide) (by decide)) rfl (by decide) rfl (Nat.le_of_ble_eq_true rfl) rfl dX8_between_8 (fun x3 bx3 hx3 => ?_)
    have i3 := if01 hx3
    refine z_if_ne (tgt := 17) dX8_between_11 (by decide) (fun c4 => ?_) (fun c4 => ?_)
    · refine z_iload_n dX8_between_17 rfl ?_
      refine z_i2l dX8_between_18 ?_
      refine z_lconst0 dX8_between_19 ?_
      refine z_lconst1 dX8_between_20 ?_
      refine z_callSip (n2 := 93) (A_X8_in l g M what 0 1) cb_X8_in cl_X8_130 (clr0 rfl rfl (by decide) (by decide)) rfl (by decide) rfl (Nat.le_of_ble_eq_true rfl) rfl dX8_between_21 (fun x5 bx5 hx5 => ?_)
      have i5 := if01 hx5
      refine z_if_ne (tgt := 30) dX8_between_24 (by decide) (fun c6 => ?_) (fun c6 => ?_)
      · refine z_aload_nr dX8_between_30 rfl ?_
        refine z_aload_nr dX8_between_31 rfl ?_
        refine z_geti (kz := 0) fl_X8_136 rfl (by decide) rfl dX8_between_32 (fun x7 hx7 bx7 => ?_)
        have hnn : x7 = M 60 0 := by assumption
        refine z_callVi (n2 := 93) (A_X8_sumWays l g M x7 (hT.1) (wide0 hT)) cb_X8_sumWays cl_X8_335 (clr0 rfl rfl (by decide) (by decide)) rfl (by decide) ⟨_, rfl, rfl⟩ rfl (by decide) rfl (Nat.le_of_ble_eq_true rfl) rfl dX8_between_35 (fun x8 Mz8 bx8 kMz8 hc8 => ?_)
        have hsw := hc8
        rw [SolM_MT hT _] at hsw
        have hoN := OffN_w hT hsw.1
        refine z_if_ne (tgt := 45) dX8_between_38 (by decide) (fun c9 => ?_) (fun c9 => ?_)
        · rw [hnn] at hsw
          have hsf : Feas (SolR M (M 60 0) (-1) (-1) (-1) 0) ∧ WF (SolR M (M 60 0) (-1) (-1) (-1) 0) Mz8 := by
            rcases hsw.2 with z | z
            · exact z.2
            · exfalso; omega
          have ka : 17 * kt a + kt b = 17 * (1 + a) + (1 + b) := by unfold kt; rw [if_neg (by omega), if_neg (by omega)]; omega
          have kb : 17 * kt b + kt a = 17 * (1 + b) + (1 + a) := by unfold kt; rw [if_neg (by omega), if_neg (by omega)]; omega
          have w1 := hsf.2 a b (by omega) (by omega)
          have w2 := hsf.2 b a (by omega) (by omega)
          rw [ka] at w1
          rw [kb] at w2
          refine z_aload_nr dX8_between_45 rfl ?_
          refine z_getr (b := 86) fl_X8_90 rfl (by decide) rf_60_41 rfl dX8_between_46 ?_
          refine z_iconst dX8_between_49 ⟨by decide, by decide⟩ ?_
          refine z_iload_n dX8_between_50 rfl ?_
          first | refine z_iaddN dX8_between_51 (by omega) (fun x10 hx10 => ?_) | refine z_iadd dX8_between_51 (fun x10 hx10 => ?_)
          refine z_iconst dX8_between_52 ⟨by decide, by decide⟩ ?_
          refine z_iload_n dX8_between_53 rfl ?_
          first | refine z_iaddN dX8_between_54 (by omega) (fun x11 hx11 => ?_) | refine z_iadd dX8_between_54 (fun x11 hx11 => ?_)
          refine z_callSip (n2 := 93) (A_X8_cell l g Mz8 x10 x11 (by omega) (by omega)) cb_X8_cell cl_X8_305 (clr0 rfl rfl (by decide) (by decide)) rfl (by decide) rfl (Nat.le_of_ble_eq_true rfl) rfl dX8_between_55 (fun x12 bx12 hx12 => ?_)
          have c55 := hx12
          refine z_lald rfl (by decide) (by omega) (by omega) dX8_between_58 (fun x13 hx13 bx13 => ?_)
          have v1 : x13 = Mz8 86 (17 * (1 + a) + (1 + b)) := by rw [hx13]; congr 1; omega
          refine z_lstore (loc2 := [fr 60, fi a, fi b, fi what, fl x13, fu, fu, fu]) dX8_between_59 (by decide) rfl ?_
          refine z_aload_nr dX8_between_61 rfl ?_
          refine z_getr (b := 86) fl_X8_90 rfl (by decide) rf_60_41 rfl dX8_between_62 ?_
          refine z_iconst dX8_between_65 ⟨by decide, by decide⟩ ?_
          refine z_iload_n dX8_between_66 rfl ?_
          first | refine z_iaddN dX8_between_67 (by omega) (fun x14 hx14 => ?_) | refine z_iadd dX8_between_67 (fun x14 hx14 => ?_)
          refine z_iconst dX8_between_68 ⟨by decide, by decide⟩ ?_
          refine z_iload_n dX8_between_69 rfl ?_
          first | refine z_iaddN dX8_between_70 (by omega) (fun x15 hx15 => ?_) | refine z_iadd dX8_between_70 (fun x15 hx15 => ?_)
          refine z_callSip (n2 := 93) (A_X8_cell l g Mz8 x14 x15 (by omega) (by omega)) cb_X8_cell cl_X8_305 (clr0 rfl rfl (by decide) (by decide)) rfl (by decide) rfl (Nat.le_of_ble_eq_true rfl) rfl dX8_between_71 (fun x16 bx16 hx16 => ?_)
          have c71 := hx16
          refine z_lald rfl (by decide) (by omega) (by omega) dX8_between_74 (fun x17 hx17 bx17 => ?_)
          have v2 : x17 = Mz8 86 (17 * (1 + b) + (1 + a)) := by rw [hx17]; congr 1; omega
          refine z_lstore (loc2 := [fr 60, fi a, fi b, fi what, fl x13, fu, fl x17, fu]) dX8_between_75 (by decide) rfl ?_
          refine z_lload dX8_between_77 rfl ?_
          refine z_ldc2 (c := 1000000000000) cn_X8_303 ⟨by decide, by decide⟩ dX8_between_79 ?_
          refine z_lcmp_lt (tgt := 92) dX8_between_82 dX8_between_83 (by decide) (fun c18 => ?_) (fun c18 => ?_)
          · have w3 : ((-10000000 ≤ Mz8 86 (17 * (1 + a) + (1 + b)) ∧ Mz8 86 (17 * (1 + a) + (1 + b)) ≤ 10000000) ∧ MaxD (SolR M (M 60 0) (-1) (-1) (-1) 0) a b (Mz8 86 (17 * (1 + a) + (1 + b)))) ∧ ((-10000000 ≤ Mz8 86 (17 * (1 + b) + (1 + a)) ∧ Mz8 86 (17 * (1 + b) + (1 + a)) ≤ 10000000) ∧ MaxD (SolR M (M 60 0) (-1) (-1) (-1) 0) b a (Mz8 86 (17 * (1 + b) + (1 + a)))) := by
              rcases w1 with z | z
              · exfalso; omega
              · refine ⟨z, ?_⟩
                rcases w2 with y | y
                · exact absurd z.2 (fun q => MaxD_free q (FreeD_sym y.2))
                · exact y
            refine z_iload_n dX8_between_92 rfl ?_
            refine z_if_ne (tgt := 103) dX8_between_93 (by decide) (fun c19 => ?_) (fun c19 => ?_)
            · refine z_lload dX8_between_103 rfl ?_
              first | refine z_l2iN dX8_between_105 (by omega) (fun x20 hx20 => ?_) | refine z_l2i dX8_between_105 (fun x20 hx20 => ?_)
              refine z_iret rfl (by decide) rfl (Nat.sub_self _) dX8_between_106 ?_
              refine ⟨hoN, ?_⟩
              unfold PBetw
              rw [if_neg (by omega), if_neg (by omega)]
              first
              | (refine Or.inr (Or.inl ⟨hsf.1, ?_, rfl⟩)
                 rcases w1 with z | z
                 · exact z.2
                 · exfalso; omega)
              | (refine Or.inr (Or.inr ⟨hsf.1, Or.inl ⟨by omega, ?_⟩⟩)
                 rw [show x20 = Mz8 86 (17 * (1 + a) + (1 + b)) by omega]
                 exact w3.1.2)
              | (refine Or.inr (Or.inr ⟨hsf.1, Or.inr ⟨by omega, ?_⟩⟩)
                 rw [show -x20 = Mz8 86 (17 * (1 + b) + (1 + a)) by omega]
                 exact w3.2.2)
            · refine z_lconst0 dX8_between_96 ?_
              refine z_lload dX8_between_97 rfl ?_
              first | refine z_lsubN dX8_between_99 (by omega) (fun x21 hx21 => ?_) | refine z_lsub dX8_between_99 (fun x21 hx21 => ?_)
              refine z_goto (tgt := 105) dX8_between_100 (by decide) ?_
              first | refine z_l2iN dX8_between_105 (by omega) (fun x22 hx22 => ?_) | refine z_l2i dX8_between_105 (fun x22 hx22 => ?_)
              refine z_iret rfl (by decide) rfl (Nat.sub_self _) dX8_between_106 ?_
              refine ⟨hoN, ?_⟩
              unfold PBetw
              rw [if_neg (by omega), if_neg (by omega)]
              first
              | (refine Or.inr (Or.inl ⟨hsf.1, ?_, rfl⟩)
                 rcases w1 with z | z
                 · exact z.2
                 · exfalso; omega)
              | (refine Or.inr (Or.inr ⟨hsf.1, Or.inl ⟨by omega, ?_⟩⟩)
                 rw [show x22 = Mz8 86 (17 * (1 + a) + (1 + b)) by omega]
                 exact w3.1.2)
              | (refine Or.inr (Or.inr ⟨hsf.1, Or.inr ⟨by omega, ?_⟩⟩)
                 rw [show -x22 = Mz8 86 (17 * (1 + b) + (1 + a)) by omega]
                 exact w3.2.2)
          · refine z_ldc_w (c := -1000006) cn_X8_361 ⟨by decide, by decide⟩ dX8_between_86 ?_
            refine z_goto (tgt := 106) dX8_between_89 (by decide) ?_
            refine z_iret rfl (by decide) rfl (Nat.sub_self _) dX8_between_106 ?_
            refine ⟨hoN, ?_⟩
            unfold PBetw
            rw [if_neg (by omega), if_neg (by omega)]
            first
            | (refine Or.inr (Or.inl ⟨hsf.1, ?_, rfl⟩)
               rcases w1 with z | z
               · exact z.2
               · exfalso; omega)
            | (refine Or.inr (Or.inr ⟨hsf.1, Or.inl ⟨by omega, ?_⟩⟩)
               rw [show (-1000006) = Mz8 86 (17 * (1 + a) + (1 + b)) by omega]
               exact w3.1.2)
            | (refine Or.inr (Or.inr ⟨hsf.1, Or.inr ⟨by omega, ?_⟩⟩)
               rw [show -(-1000006) = Mz8 86 (17 * (1 + b) + (1 + a)) by omega]
               exact w3.2.2)
        · refine z_ldc_w (c := -1000005) cn_X8_357 ⟨by decide, by decide⟩ dX8_between_41 ?_
          refine z_iret rfl (by decide) rfl (Nat.sub_self _) dX8_between_44 ?_
          refine ⟨hoN, ?_⟩
          unfold PBetw
          rw [if_neg (by omega), if_neg (by omega)]
          refine Or.inl ⟨?_, rfl⟩
          rw [hnn] at hsw
          rcases hsw.2 with z | z
          · exfalso; omega
          · exact z.2
      · refine z_ldc (c := -1000002) cn_X8_164 ⟨by decide, by decide⟩ dX8_between_27 ?_
        refine z_iret rfl (by decide) rfl (Nat.sub_self _) dX8_between_29 ?_
        refine ⟨OffN_rfl hT, ?_⟩
        unfold PBetw
        rw [if_neg (by omega), if_pos (by omega)]
    · refine z_ldc (c := -1000001) cn_X8_153 ⟨by decide, by decide⟩ dX8_between_14 ?_
      refine z_iret rfl (by decide) rfl (Nat.sub_self _) dX8_between_16 ?_
      refine ⟨OffN_rfl hT, ?_⟩
      unfold PBetw
      rw [if_pos (by omega)]
set_option maxHeartbeats 400000 in
theorem A_X8_looseOnes (l : Launch) (g : Cx) (M : FMem) (hT : MT M) : AMi l g true fi_X8_looseOnes [fr 60] 93 M (fun q M2 => OffN M M2 ∧ ALoose (SolR M (M 60 0) (-1) (-1) (-1) 0) q) := by
  refine AMi_intro [fr 60, fu, fu] (by decide) (knall rfl) (Nat.le_of_ble_eq_true rfl) rfl ?_
  intro hNV hM0 μ
  have lp17 : ∀ (kq : Nat) (nz hz : Int) (M1 : FMem), (10 - hz).toNat = kq → (0 ≤ hz ∧ hz ≤ 10) → (OffN M M1) → (Feas (SolR M (M 60 0) (-1) (-1) (-1) 0) ∧ WF (SolR M (M 60 0) (-1) (-1) (-1) 0) M1) → (nz = sumI (fun h => c01 (FreeD (SolR M (M 60 0) (-1) (-1) (-1) 0) 16 h)) hz) → Wa l g true fi_X8_looseOnes 93 μ (Zi g true fi_X8_looseOnes 93 μ (fun q M2 => OffN M M2 ∧ ALoose (SolR M (M 60 0) (-1) (-1) (-1) 0) q)) 17 [] [fr 60, fi nz, fi hz] 93 M1 := by
    intro kq
    induction kq using Nat.strongRecOn with
    | _ kq ih17 =>
    intro nz hz M1 hk17 h0 h1 h2 h3
    have hsl := sumI_le (f := fun h => c01 (FreeD (SolR M (M 60 0) (-1) (-1) (-1) 0) 16 h)) (fun h => c01_r _) hz
    refine z_iload_n dX8_looseOnes_17 rfl ?_
    refine z_bipush dX8_looseOnes_18 ⟨by decide, by decide⟩ (by decide) ?_
    refine z_icmp_ge (tgt := 40) dX8_looseOnes_20 (by decide) (fun c1 => ?_) (fun c1 => ?_)
    · refine z_iload_n dX8_looseOnes_40 rfl ?_
      refine z_iret rfl (by decide) rfl (Nat.sub_self _) dX8_looseOnes_41 ?_
      refine ⟨h1, Or.inr ⟨h2.1, ?_⟩⟩
      rw [h3, show hz = 10 by omega]
    · refine z_iload_n dX8_looseOnes_23 rfl ?_
      refine z_aload_nr dX8_looseOnes_24 rfl ?_
      refine z_iload_n dX8_looseOnes_25 rfl ?_
      refine z_callVip (n2 := 93) (A_X8_isLoose l g M1 hz (by omega)) cb_X8_isLoose cl_X8_338 (clr0 rfl rfl (by decide) (by decide)) rfl (by decide) ⟨_, rfl, rfl⟩ rfl (by decide) rfl (Nat.le_of_ble_eq_true rfl) rfl dX8_looseOnes_26 (fun x2 bx2 hx2 => ?_)
      have i2 := if01 hx2
      have hls := hx2
      refine z_callSip (n2 := 93) (A_X8_one l g M1 x2 (by omega)) cb_X8_one cl_X8_184 (clr0 rfl rfl (by decide) (by decide)) rfl (by decide) rfl (Nat.le_of_ble_eq_true rfl) rfl dX8_looseOnes_29 (fun x3 bx3 hx3 => ?_)
      first | refine z_iaddN dX8_looseOnes_32 (by omega) (fun x4 hx4 => ?_) | refine z_iadd dX8_looseOnes_32 (fun x4 hx4 => ?_)
      refine z_istore_n (loc2 := [fr 60, fi x4, fi hz]) dX8_looseOnes_33 (by decide) rfl ?_
      refine z_iinc (loc2 := fun vq => [fr 60, fi x4, fi vq]) dX8_looseOnes_34 rfl (by decide) (by omega) (fun _ => rfl) (fun x5 hx5 => ?_)
      refine z_goto (tgt := 17) dX8_looseOnes_37 (by decide) ?_
      have g3 : x4 = sumI (fun h => c01 (FreeD (SolR M (M 60 0) (-1) (-1) (-1) 0) 16 h)) (hz + 1) := by
        rw [sumI_succ h0.1, ← h3]
        have hes := WF_es h2.2 (h := hz) (by omega) (by omega)
        rcases hes with z | z
        · rw [c01_t z.2]; rw [if_pos (by omega)] at hls; omega
        · rw [c01_f (fun y => Ends2_free z.2.2 y)]; rw [if_neg (by omega)] at hls; omega
      exact ih17 _ (by omega) x4 x5 M1 rfl (by omega) (h1) (h2) (by rw [hx5]; exact g3)
  refine z_aload_nr dX8_looseOnes_0 rfl ?_
  refine z_aload_nr dX8_looseOnes_1 rfl ?_
  refine z_geti (kz := 0) fl_X8_136 rfl (by decide) rfl dX8_looseOnes_2 (fun x6 hx6 bx6 => ?_)
  have hnn : x6 = M 60 0 := by assumption
  refine z_callVi (n2 := 93) (A_X8_sumWays l g M x6 (hT.1) (wide0 hT)) cb_X8_sumWays cl_X8_335 (clr0 rfl rfl (by decide) (by decide)) rfl (by decide) ⟨_, rfl, rfl⟩ rfl (by decide) rfl (Nat.le_of_ble_eq_true rfl) rfl dX8_looseOnes_5 (fun x7 Mz7 bx7 kMz7 hc7 => ?_)
  have hsw := hc7
  rw [SolM_MT hT _] at hsw
  have hoN := OffN_w hT hsw.1
  refine z_if_ne (tgt := 13) dX8_looseOnes_8 (by decide) (fun c8 => ?_) (fun c8 => ?_)
  · refine z_iconst dX8_looseOnes_13 ⟨by decide, by decide⟩ ?_
    refine z_istore_n (loc2 := [fr 60, fi 0, fu]) dX8_looseOnes_14 (by decide) rfl ?_
    refine z_iconst dX8_looseOnes_15 ⟨by decide, by decide⟩ ?_
    refine z_istore_n (loc2 := [fr 60, fi 0, fi 0]) dX8_looseOnes_16 (by decide) rfl ?_
    rw [hnn] at hsw
    have hsf : Feas (SolR M (M 60 0) (-1) (-1) (-1) 0) ∧ WF (SolR M (M 60 0) (-1) (-1) (-1) 0) Mz7 := by
      rcases hsw.2 with z | z
      · exact z.2
      · exfalso; omega
    exact lp17 _ 0 0 Mz7 rfl (by omega) (hoN) (hsf) (rfl)
  · refine z_iconst dX8_looseOnes_11 ⟨by decide, by decide⟩ ?_
    refine z_iret rfl (by decide) rfl (Nat.sub_self _) dX8_looseOnes_12 ?_
    refine ⟨hoN, Or.inl ⟨?_, rfl⟩⟩
    rw [hnn] at hsw
    rcases hsw.2 with z | z
    · exfalso; omega
    · exact z.2
set_option maxHeartbeats 1600000 in
theorem A_X8_stateOf (l : Launch) (g : Cx) (M : FMem) (i : Int) (hi : 0 ≤ i ∧ i < 8) (hh : 0 ≤ M 77 i ∧ M 77 i ≤ 9) (S : (Int → Int) → Prop) (hf : Feas S) (hW : WF S M) : AMi l g true fi_X8_stateOf [fr 60, fi i] 93 M (fun r M2 => M2 = M ∧ (fun q => AClaim S (M 77 i) (M 78 i) (M 79 i) q) r) := by
  refine AMi_intro [fr 60, fi i, fu, fu, fu, fu, fu] (by decide) (knall rfl) (Nat.le_of_ble_eq_true rfl) rfl ?_
  intro hNV hM0 μ
  have bi : N32 i := hNV (fi i) (by simp)
  have hes := WF_es hW hh.1 hh.2
  refine z_aload_nr dX8_stateOf_0 rfl ?_
  refine z_getr (b := 77) fl_X8_59 rfl (by decide) rf_60_22 rfl dX8_stateOf_1 ?_
  refine z_iload_n dX8_stateOf_4 rfl ?_
  refine z_iald rfl (by decide) (by omega) (by omega) dX8_stateOf_5 (fun x1 hx1 bx1 => ?_)
  refine z_istore_n (loc2 := [fr 60, fi i, fi x1, fu, fu, fu, fu]) dX8_stateOf_6 (by decide) rfl ?_
  refine z_aload_nr dX8_stateOf_7 rfl ?_
  refine z_iload_n dX8_stateOf_8 rfl ?_
  have hho : x1 = M 77 i := by assumption
  refine z_callVip (n2 := 93) (A_X8_isLoose l g M x1 (by omega)) cb_X8_isLoose cl_X8_338 (clr0 rfl rfl (by decide) (by decide)) rfl (by decide) ⟨_, rfl, rfl⟩ rfl (by decide) rfl (Nat.le_of_ble_eq_true rfl) rfl dX8_stateOf_9 (fun x2 bx2 hx2 => ?_)
  have i2 := if01 hx2
  have hls := hx2
  refine z_if_eq (tgt := 17) dX8_stateOf_12 (by decide) (fun c3 => ?_) (fun c3 => ?_)
  · have hes2 : (-10000000 ≤ M 86 (1 + M 77 i) ∧ M 86 (1 + M 77 i) ≤ 10000000) ∧ (-10000000 ≤ M 86 (17 * (1 + M 77 i)) ∧ M 86 (17 * (1 + M 77 i)) ≤ 10000000) ∧ Ends2 S (M 77 i) (-(M 86 (17 * (1 + M 77 i)))) (M 86 (1 + M 77 i)) := by
      rcases hes with z | z
      · exfalso
        rw [hho] at hls
        rw [if_pos (by omega)] at hls
        omega
      · exact z
    refine z_aload_nr dX8_stateOf_17 rfl ?_
    refine z_iload_n dX8_stateOf_18 rfl ?_
    refine z_callVip (n2 := 93) (A_X8_lowEnd l g M x1 (by omega) (by rw [hho]; omega)) cb_X8_lowEnd cl_X8_362 (clr0 rfl rfl (by decide) (by decide)) rfl (by decide) ⟨_, rfl, rfl⟩ rfl (by decide) rfl (Nat.le_of_ble_eq_true rfl) rfl dX8_stateOf_19 (fun x4 bx4 hx4 => ?_)
    have hlo := hx4
    rw [hho] at hlo
    refine z_istore_n (loc2 := [fr 60, fi i, fi x1, fi x4, fu, fu, fu]) dX8_stateOf_22 (by decide) rfl ?_
    refine z_aload_nr dX8_stateOf_23 rfl ?_
    refine z_iload_n dX8_stateOf_24 rfl ?_
    refine z_callVip (n2 := 93) (A_X8_highEnd l g M x1 (by omega) (by rw [hho]; omega)) cb_X8_highEnd cl_X8_365 (clr0 rfl rfl (by decide) (by decide)) rfl (by decide) ⟨_, rfl, rfl⟩ rfl (by decide) rfl (Nat.le_of_ble_eq_true rfl) rfl dX8_stateOf_25 (fun x5 bx5 hx5 => ?_)
    have hhi := hx5
    rw [hho] at hhi
    refine z_istore (loc2 := [fr 60, fi i, fi x1, fi x4, fi x5, fu, fu]) dX8_stateOf_28 (by decide) rfl ?_
    refine z_aload_nr dX8_stateOf_30 rfl ?_
    refine z_getr (b := 79) fl_X8_65 rfl (by decide) rf_60_24 rfl dX8_stateOf_31 ?_
    refine z_iload_n dX8_stateOf_34 rfl ?_
    refine z_zald rfl (by decide) (by omega) (by omega) dX8_stateOf_35 (fun x6 hx6 bx6 => ?_)
    refine z_if_eq (tgt := 57) dX8_stateOf_36 (by decide) (fun c7 => ?_) (fun c7 => ?_)
    · refine z_iload dX8_stateOf_57 rfl ?_
      refine z_aload_nr dX8_stateOf_59 rfl ?_
      refine z_getr (b := 78) fl_X8_62 rfl (by decide) rf_60_23 rfl dX8_stateOf_60 ?_
      refine z_iload_n dX8_stateOf_63 rfl ?_
      refine z_iald rfl (by decide) (by omega) (by omega) dX8_stateOf_64 (fun x8 hx8 bx8 => ?_)
      refine z_icmp_ge (tgt := 72) dX8_stateOf_65 (by decide) (fun c9 => ?_) (fun c9 => ?_)
      · refine z_iconst dX8_stateOf_72 ⟨by decide, by decide⟩ ?_
        refine z_istore (loc2 := [fr 60, fi i, fi x1, fi x4, fi x5, fi 0, fu]) dX8_stateOf_73 (by decide) rfl ?_
        refine z_aload_nr dX8_stateOf_75 rfl ?_
        refine z_getr (b := 79) fl_X8_65 rfl (by decide) rf_60_24 rfl dX8_stateOf_76 ?_
        refine z_iload_n dX8_stateOf_79 rfl ?_
        refine z_zald rfl (by decide) (by omega) (by omega) dX8_stateOf_80 (fun x10 hx10 bx10 => ?_)
        refine z_if_eq (tgt := 103) dX8_stateOf_81 (by decide) (fun c11 => ?_) (fun c11 => ?_)
        · refine z_iload_n dX8_stateOf_103 rfl ?_
          refine z_aload_nr dX8_stateOf_104 rfl ?_
          refine z_getr (b := 78) fl_X8_62 rfl (by decide) rf_60_23 rfl dX8_stateOf_105 ?_
          refine z_iload_n dX8_stateOf_108 rfl ?_
          refine z_iald rfl (by decide) (by omega) (by omega) dX8_stateOf_109 (fun x12 hx12 bx12 => ?_)
          refine z_icmp_lt (tgt := 117) dX8_stateOf_110 (by decide) (fun c13 => ?_) (fun c13 => ?_)
          · refine z_iconst dX8_stateOf_117 ⟨by decide, by decide⟩ ?_
            refine z_istore (loc2 := [fr 60, fi i, fi x1, fi x4, fi x5, fi 0, fi 0]) dX8_stateOf_118 (by decide) rfl ?_
            refine z_iload dX8_stateOf_120 rfl ?_
            refine z_if_eq (tgt := 129) dX8_stateOf_122 (by decide) (fun c14 => ?_) (fun c14 => ?_)
            · refine z_iload dX8_stateOf_129 rfl ?_
              refine z_if_eq (tgt := 138) dX8_stateOf_131 (by decide) (fun c15 => ?_) (fun c15 => ?_)
              · refine z_iconst dX8_stateOf_138 ⟨by decide, by decide⟩ ?_
                refine z_iret rfl (by decide) rfl (Nat.sub_self _) dX8_stateOf_139 ?_
                have hab := mok_z hM0 (a := 79) rfl i
                refine ⟨rfl, Or.inr (Or.inr ⟨hf, _, _, hes2.2.2, ?_⟩)⟩
                first
                | (exfalso; omega)
                | (rw [if_pos (by omega), if_pos (by omega)])
                | (rw [if_pos (by omega), if_neg (by omega), if_pos (by omega)])
                | (rw [if_pos (by omega), if_neg (by omega), if_neg (by omega)])
                | (rw [if_neg (by omega), if_pos (by omega)])
                | (rw [if_neg (by omega), if_neg (by omega), if_pos (by omega)])
                | (rw [if_neg (by omega), if_neg (by omega), if_neg (by omega)])
                | (exfalso; omega)
              · exfalso; omega
            · exfalso; omega
          · refine z_iconst dX8_stateOf_113 ⟨by decide, by decide⟩ ?_
            refine z_goto (tgt := 118) dX8_stateOf_114 (by decide) ?_
            refine z_istore (loc2 := [fr 60, fi i, fi x1, fi x4, fi x5, fi 0, fi 1]) dX8_stateOf_118 (by decide) rfl ?_
            refine z_iload dX8_stateOf_120 rfl ?_
            refine z_if_eq (tgt := 129) dX8_stateOf_122 (by decide) (fun c16 => ?_) (fun c16 => ?_)
            · refine z_iload dX8_stateOf_129 rfl ?_
              refine z_if_eq (tgt := 138) dX8_stateOf_131 (by decide) (fun c17 => ?_) (fun c17 => ?_)
              · exfalso; omega
              · refine z_iconst dX8_stateOf_134 ⟨by decide, by decide⟩ ?_
                refine z_goto (tgt := 139) dX8_stateOf_135 (by decide) ?_
                refine z_iret rfl (by decide) rfl (Nat.sub_self _) dX8_stateOf_139 ?_
                have hab := mok_z hM0 (a := 79) rfl i
                refine ⟨rfl, Or.inr (Or.inr ⟨hf, _, _, hes2.2.2, ?_⟩)⟩
                first
                | (exfalso; omega)
                | (rw [if_pos (by omega), if_pos (by omega)])
                | (rw [if_pos (by omega), if_neg (by omega), if_pos (by omega)])
                | (rw [if_pos (by omega), if_neg (by omega), if_neg (by omega)])
                | (rw [if_neg (by omega), if_pos (by omega)])
                | (rw [if_neg (by omega), if_neg (by omega), if_pos (by omega)])
                | (rw [if_neg (by omega), if_neg (by omega), if_neg (by omega)])
                | (exfalso; omega)
            · exfalso; omega
        · refine z_iload dX8_stateOf_84 rfl ?_
          refine z_aload_nr dX8_stateOf_86 rfl ?_
          refine z_getr (b := 78) fl_X8_62 rfl (by decide) rf_60_23 rfl dX8_stateOf_87 ?_
          refine z_iload_n dX8_stateOf_90 rfl ?_
          refine z_iald rfl (by decide) (by omega) (by omega) dX8_stateOf_91 (fun x18 hx18 bx18 => ?_)
          refine z_icmp_gt (tgt := 99) dX8_stateOf_92 (by decide) (fun c19 => ?_) (fun c19 => ?_)
          · refine z_iconst dX8_stateOf_99 ⟨by decide, by decide⟩ ?_
            refine z_goto (tgt := 118) dX8_stateOf_100 (by decide) ?_
            refine z_istore (loc2 := [fr 60, fi i, fi x1, fi x4, fi x5, fi 0, fi 0]) dX8_stateOf_118 (by decide) rfl ?_
            refine z_iload dX8_stateOf_120 rfl ?_
            refine z_if_eq (tgt := 129) dX8_stateOf_122 (by decide) (fun c20 => ?_) (fun c20 => ?_)
            · refine z_iload dX8_stateOf_129 rfl ?_
              refine z_if_eq (tgt := 138) dX8_stateOf_131 (by decide) (fun c21 => ?_) (fun c21 => ?_)
              · refine z_iconst dX8_stateOf_138 ⟨by decide, by decide⟩ ?_
                refine z_iret rfl (by decide) rfl (Nat.sub_self _) dX8_stateOf_139 ?_
                have hab := mok_z hM0 (a := 79) rfl i
                refine ⟨rfl, Or.inr (Or.inr ⟨hf, _, _, hes2.2.2, ?_⟩)⟩
                first
                | (exfalso; omega)
                | (rw [if_pos (by omega), if_pos (by omega)])
                | (rw [if_pos (by omega), if_neg (by omega), if_pos (by omega)])
                | (rw [if_pos (by omega), if_neg (by omega), if_neg (by omega)])
                | (rw [if_neg (by omega), if_pos (by omega)])
                | (rw [if_neg (by omega), if_neg (by omega), if_pos (by omega)])
                | (rw [if_neg (by omega), if_neg (by omega), if_neg (by omega)])
                | (exfalso; omega)
              · exfalso; omega
            · exfalso; omega
          · refine z_iconst dX8_stateOf_95 ⟨by decide, by decide⟩ ?_
            refine z_goto (tgt := 118) dX8_stateOf_96 (by decide) ?_
            refine z_istore (loc2 := [fr 60, fi i, fi x1, fi x4, fi x5, fi 0, fi 1]) dX8_stateOf_118 (by decide) rfl ?_
            refine z_iload dX8_stateOf_120 rfl ?_
            refine z_if_eq (tgt := 129) dX8_stateOf_122 (by decide) (fun c22 => ?_) (fun c22 => ?_)
            · refine z_iload dX8_stateOf_129 rfl ?_
              refine z_if_eq (tgt := 138) dX8_stateOf_131 (by decide) (fun c23 => ?_) (fun c23 => ?_)
              · exfalso; omega
              · refine z_iconst dX8_stateOf_134 ⟨by decide, by decide⟩ ?_
                refine z_goto (tgt := 139) dX8_stateOf_135 (by decide) ?_
                refine z_iret rfl (by decide) rfl (Nat.sub_self _) dX8_stateOf_139 ?_
                have hab := mok_z hM0 (a := 79) rfl i
                refine ⟨rfl, Or.inr (Or.inr ⟨hf, _, _, hes2.2.2, ?_⟩)⟩
                first
                | (exfalso; omega)
                | (rw [if_pos (by omega), if_pos (by omega)])
                | (rw [if_pos (by omega), if_neg (by omega), if_pos (by omega)])
                | (rw [if_pos (by omega), if_neg (by omega), if_neg (by omega)])
                | (rw [if_neg (by omega), if_pos (by omega)])
                | (rw [if_neg (by omega), if_neg (by omega), if_pos (by omega)])
                | (rw [if_neg (by omega), if_neg (by omega), if_neg (by omega)])
                | (exfalso; omega)
            · exfalso; omega
      · refine z_iconst dX8_stateOf_68 ⟨by decide, by decide⟩ ?_
        refine z_goto (tgt := 73) dX8_stateOf_69 (by decide) ?_
        refine z_istore (loc2 := [fr 60, fi i, fi x1, fi x4, fi x5, fi 1, fu]) dX8_stateOf_73 (by decide) rfl ?_
        refine z_aload_nr dX8_stateOf_75 rfl ?_
        refine z_getr (b := 79) fl_X8_65 rfl (by decide) rf_60_24 rfl dX8_stateOf_76 ?_
        refine z_iload_n dX8_stateOf_79 rfl ?_
        refine z_zald rfl (by decide) (by omega) (by omega) dX8_stateOf_80 (fun x24 hx24 bx24 => ?_)
        refine z_if_eq (tgt := 103) dX8_stateOf_81 (by decide) (fun c25 => ?_) (fun c25 => ?_)
        · refine z_iload_n dX8_stateOf_103 rfl ?_
          refine z_aload_nr dX8_stateOf_104 rfl ?_
          refine z_getr (b := 78) fl_X8_62 rfl (by decide) rf_60_23 rfl dX8_stateOf_105 ?_
          refine z_iload_n dX8_stateOf_108 rfl ?_
          refine z_iald rfl (by decide) (by omega) (by omega) dX8_stateOf_109 (fun x26 hx26 bx26 => ?_)
          refine z_icmp_lt (tgt := 117) dX8_stateOf_110 (by decide) (fun c27 => ?_) (fun c27 => ?_)
          · refine z_iconst dX8_stateOf_117 ⟨by decide, by decide⟩ ?_
            refine z_istore (loc2 := [fr 60, fi i, fi x1, fi x4, fi x5, fi 1, fi 0]) dX8_stateOf_118 (by decide) rfl ?_
            refine z_iload dX8_stateOf_120 rfl ?_
            refine z_if_eq (tgt := 129) dX8_stateOf_122 (by decide) (fun c28 => ?_) (fun c28 => ?_)
            · exfalso; omega
            · refine z_iconst dX8_stateOf_125 ⟨by decide, by decide⟩ ?_
              refine z_goto (tgt := 139) dX8_stateOf_126 (by decide) ?_
              refine z_iret rfl (by decide) rfl (Nat.sub_self _) dX8_stateOf_139 ?_
              have hab := mok_z hM0 (a := 79) rfl i
              refine ⟨rfl, Or.inr (Or.inr ⟨hf, _, _, hes2.2.2, ?_⟩)⟩
              first
              | (exfalso; omega)
              | (rw [if_pos (by omega), if_pos (by omega)])
              | (rw [if_pos (by omega), if_neg (by omega), if_pos (by omega)])
              | (rw [if_pos (by omega), if_neg (by omega), if_neg (by omega)])
              | (rw [if_neg (by omega), if_pos (by omega)])
              | (rw [if_neg (by omega), if_neg (by omega), if_pos (by omega)])
              | (rw [if_neg (by omega), if_neg (by omega), if_neg (by omega)])
              | (exfalso; omega)
          · refine z_iconst dX8_stateOf_113 ⟨by decide, by decide⟩ ?_
            refine z_goto (tgt := 118) dX8_stateOf_114 (by decide) ?_
            refine z_istore (loc2 := [fr 60, fi i, fi x1, fi x4, fi x5, fi 1, fi 1]) dX8_stateOf_118 (by decide) rfl ?_
            refine z_iload dX8_stateOf_120 rfl ?_
            refine z_if_eq (tgt := 129) dX8_stateOf_122 (by decide) (fun c29 => ?_) (fun c29 => ?_)
            · exfalso; omega
            · refine z_iconst dX8_stateOf_125 ⟨by decide, by decide⟩ ?_
              refine z_goto (tgt := 139) dX8_stateOf_126 (by decide) ?_
              refine z_iret rfl (by decide) rfl (Nat.sub_self _) dX8_stateOf_139 ?_
              have hab := mok_z hM0 (a := 79) rfl i
              refine ⟨rfl, Or.inr (Or.inr ⟨hf, _, _, hes2.2.2, ?_⟩)⟩
              first
              | (exfalso; omega)
              | (rw [if_pos (by omega), if_pos (by omega)])
              | (rw [if_pos (by omega), if_neg (by omega), if_pos (by omega)])
              | (rw [if_pos (by omega), if_neg (by omega), if_neg (by omega)])
              | (rw [if_neg (by omega), if_pos (by omega)])
              | (rw [if_neg (by omega), if_neg (by omega), if_pos (by omega)])
              | (rw [if_neg (by omega), if_neg (by omega), if_neg (by omega)])
              | (exfalso; omega)
        · refine z_iload dX8_stateOf_84 rfl ?_
          refine z_aload_nr dX8_stateOf_86 rfl ?_
          refine z_getr (b := 78) fl_X8_62 rfl (by decide) rf_60_23 rfl dX8_stateOf_87 ?_
          refine z_iload_n dX8_stateOf_90 rfl ?_
          refine z_iald rfl (by decide) (by omega) (by omega) dX8_stateOf_91 (fun x30 hx30 bx30 => ?_)
          refine z_icmp_gt (tgt := 99) dX8_stateOf_92 (by decide) (fun c31 => ?_) (fun c31 => ?_)
          · refine z_iconst dX8_stateOf_99 ⟨by decide, by decide⟩ ?_
            refine z_goto (tgt := 118) dX8_stateOf_100 (by decide) ?_
            refine z_istore (loc2 := [fr 60, fi i, fi x1, fi x4, fi x5, fi 1, fi 0]) dX8_stateOf_118 (by decide) rfl ?_
            refine z_iload dX8_stateOf_120 rfl ?_
            refine z_if_eq (tgt := 129) dX8_stateOf_122 (by decide) (fun c32 => ?_) (fun c32 => ?_)
            · exfalso; omega
            · refine z_iconst dX8_stateOf_125 ⟨by decide, by decide⟩ ?_
              refine z_goto (tgt := 139) dX8_stateOf_126 (by decide) ?_
              refine z_iret rfl (by decide) rfl (Nat.sub_self _) dX8_stateOf_139 ?_
              have hab := mok_z hM0 (a := 79) rfl i
              refine ⟨rfl, Or.inr (Or.inr ⟨hf, _, _, hes2.2.2, ?_⟩)⟩
              first
              | (exfalso; omega)
              | (rw [if_pos (by omega), if_pos (by omega)])
              | (rw [if_pos (by omega), if_neg (by omega), if_pos (by omega)])
              | (rw [if_pos (by omega), if_neg (by omega), if_neg (by omega)])
              | (rw [if_neg (by omega), if_pos (by omega)])
              | (rw [if_neg (by omega), if_neg (by omega), if_pos (by omega)])
              | (rw [if_neg (by omega), if_neg (by omega), if_neg (by omega)])
              | (exfalso; omega)
          · refine z_iconst dX8_stateOf_95 ⟨by decide, by decide⟩ ?_
            refine z_goto (tgt := 118) dX8_stateOf_96 (by decide) ?_
            refine z_istore (loc2 := [fr 60, fi i, fi x1, fi x4, fi x5, fi 1, fi 1]) dX8_stateOf_118 (by decide) rfl ?_
            refine z_iload dX8_stateOf_120 rfl ?_
            refine z_if_eq (tgt := 129) dX8_stateOf_122 (by decide) (fun c33 => ?_) (fun c33 => ?_)
            · exfalso; omega
            · refine z_iconst dX8_stateOf_125 ⟨by decide, by decide⟩ ?_
              refine z_goto (tgt := 139) dX8_stateOf_126 (by decide) ?_
              refine z_iret rfl (by decide) rfl (Nat.sub_self _) dX8_stateOf_139 ?_
              have hab := mok_z hM0 (a := 79) rfl i
              refine ⟨rfl, Or.inr (Or.inr ⟨hf, _, _, hes2.2.2, ?_⟩)⟩
              first
              | (exfalso; omega)
              | (rw [if_pos (by omega), if_pos (by omega)])
              | (rw [if_pos (by omega), if_neg (by omega), if_pos (by omega)])
              | (rw [if_pos (by omega), if_neg (by omega), if_neg (by omega)])
              | (rw [if_neg (by omega), if_pos (by omega)])
              | (rw [if_neg (by omega), if_neg (by omega), if_pos (by omega)])
              | (rw [if_neg (by omega), if_neg (by omega), if_neg (by omega)])
              | (exfalso; omega)
    · refine z_iload_n dX8_stateOf_39 rfl ?_
      refine z_aload_nr dX8_stateOf_40 rfl ?_
      refine z_getr (b := 78) fl_X8_62 rfl (by decide) rf_60_23 rfl dX8_stateOf_41 ?_
      refine z_iload_n dX8_stateOf_44 rfl ?_
      refine z_iald rfl (by decide) (by omega) (by omega) dX8_stateOf_45 (fun x34 hx34 bx34 => ?_)
      refine z_icmp_le (tgt := 53) dX8_stateOf_46 (by decide) (fun c35 => ?_) (fun c35 => ?_)
      · refine z_iconst dX8_stateOf_53 ⟨by decide, by decide⟩ ?_
        refine z_goto (tgt := 73) dX8_stateOf_54 (by decide) ?_
        refine z_istore (loc2 := [fr 60, fi i, fi x1, fi x4, fi x5, fi 0, fu]) dX8_stateOf_73 (by decide) rfl ?_
        refine z_aload_nr dX8_stateOf_75 rfl ?_
        refine z_getr (b := 79) fl_X8_65 rfl (by decide) rf_60_24 rfl dX8_stateOf_76 ?_
        refine z_iload_n dX8_stateOf_79 rfl ?_
        refine z_zald rfl (by decide) (by omega) (by omega) dX8_stateOf_80 (fun x36 hx36 bx36 => ?_)
        refine z_if_eq (tgt := 103) dX8_stateOf_81 (by decide) (fun c37 => ?_) (fun c37 => ?_)
        · refine z_iload_n dX8_stateOf_103 rfl ?_
          refine z_aload_nr dX8_stateOf_104 rfl ?_
          refine z_getr (b := 78) fl_X8_62 rfl (by decide) rf_60_23 rfl dX8_stateOf_105 ?_
          refine z_iload_n dX8_stateOf_108 rfl ?_
          refine z_iald rfl (by decide) (by omega) (by omega) dX8_stateOf_109 (fun x38 hx38 bx38 => ?_)
          refine z_icmp_lt (tgt := 117) dX8_stateOf_110 (by decide) (fun c39 => ?_) (fun c39 => ?_)
          · refine z_iconst dX8_stateOf_117 ⟨by decide, by decide⟩ ?_
            refine z_istore (loc2 := [fr 60, fi i, fi x1, fi x4, fi x5, fi 0, fi 0]) dX8_stateOf_118 (by decide) rfl ?_
            refine z_iload dX8_stateOf_120 rfl ?_
            refine z_if_eq (tgt := 129) dX8_stateOf_122 (by decide) (fun c40 => ?_) (fun c40 => ?_)
            · refine z_iload dX8_stateOf_129 rfl ?_
              refine z_if_eq (tgt := 138) dX8_stateOf_131 (by decide) (fun c41 => ?_) (fun c41 => ?_)
              · refine z_iconst dX8_stateOf_138 ⟨by decide, by decide⟩ ?_
                refine z_iret rfl (by decide) rfl (Nat.sub_self _) dX8_stateOf_139 ?_
                have hab := mok_z hM0 (a := 79) rfl i
                refine ⟨rfl, Or.inr (Or.inr ⟨hf, _, _, hes2.2.2, ?_⟩)⟩
                first
                | (exfalso; omega)
                | (rw [if_pos (by omega), if_pos (by omega)])
                | (rw [if_pos (by omega), if_neg (by omega), if_pos (by omega)])
                | (rw [if_pos (by omega), if_neg (by omega), if_neg (by omega)])
                | (rw [if_neg (by omega), if_pos (by omega)])
                | (rw [if_neg (by omega), if_neg (by omega), if_pos (by omega)])
                | (rw [if_neg (by omega), if_neg (by omega), if_neg (by omega)])
                | (exfalso; omega)
              · exfalso; omega
            · exfalso; omega
          · refine z_iconst dX8_stateOf_113 ⟨by decide, by decide⟩ ?_
            refine z_goto (tgt := 118) dX8_stateOf_114 (by decide) ?_
            refine z_istore (loc2 := [fr 60, fi i, fi x1, fi x4, fi x5, fi 0, fi 1]) dX8_stateOf_118 (by decide) rfl ?_
            refine z_iload dX8_stateOf_120 rfl ?_
            refine z_if_eq (tgt := 129) dX8_stateOf_122 (by decide) (fun c42 => ?_) (fun c42 => ?_)
            · refine z_iload dX8_stateOf_129 rfl ?_
              refine z_if_eq (tgt := 138) dX8_stateOf_131 (by decide) (fun c43 => ?_) (fun c43 => ?_)
              · exfalso; omega
              · refine z_iconst dX8_stateOf_134 ⟨by decide, by decide⟩ ?_
                refine z_goto (tgt := 139) dX8_stateOf_135 (by decide) ?_
                refine z_iret rfl (by decide) rfl (Nat.sub_self _) dX8_stateOf_139 ?_
                have hab := mok_z hM0 (a := 79) rfl i
                refine ⟨rfl, Or.inr (Or.inr ⟨hf, _, _, hes2.2.2, ?_⟩)⟩
                first
                | (exfalso; omega)
                | (rw [if_pos (by omega), if_pos (by omega)])
                | (rw [if_pos (by omega), if_neg (by omega), if_pos (by omega)])
                | (rw [if_pos (by omega), if_neg (by omega), if_neg (by omega)])
                | (rw [if_neg (by omega), if_pos (by omega)])
                | (rw [if_neg (by omega), if_neg (by omega), if_pos (by omega)])
                | (rw [if_neg (by omega), if_neg (by omega), if_neg (by omega)])
                | (exfalso; omega)
            · exfalso; omega
        · refine z_iload dX8_stateOf_84 rfl ?_
          refine z_aload_nr dX8_stateOf_86 rfl ?_
          refine z_getr (b := 78) fl_X8_62 rfl (by decide) rf_60_23 rfl dX8_stateOf_87 ?_
          refine z_iload_n dX8_stateOf_90 rfl ?_
          refine z_iald rfl (by decide) (by omega) (by omega) dX8_stateOf_91 (fun x44 hx44 bx44 => ?_)
          refine z_icmp_gt (tgt := 99) dX8_stateOf_92 (by decide) (fun c45 => ?_) (fun c45 => ?_)
          · refine z_iconst dX8_stateOf_99 ⟨by decide, by decide⟩ ?_
            refine z_goto (tgt := 118) dX8_stateOf_100 (by decide) ?_
            refine z_istore (loc2 := [fr 60, fi i, fi x1, fi x4, fi x5, fi 0, fi 0]) dX8_stateOf_118 (by decide) rfl ?_
            refine z_iload dX8_stateOf_120 rfl ?_
            refine z_if_eq (tgt := 129) dX8_stateOf_122 (by decide) (fun c46 => ?_) (fun c46 => ?_)
            · refine z_iload dX8_stateOf_129 rfl ?_
              refine z_if_eq (tgt := 138) dX8_stateOf_131 (by decide) (fun c47 => ?_) (fun c47 => ?_)
              · refine z_iconst dX8_stateOf_138 ⟨by decide, by decide⟩ ?_
                refine z_iret rfl (by decide) rfl (Nat.sub_self _) dX8_stateOf_139 ?_
                have hab := mok_z hM0 (a := 79) rfl i
                refine ⟨rfl, Or.inr (Or.inr ⟨hf, _, _, hes2.2.2, ?_⟩)⟩
                first
                | (exfalso; omega)
                | (rw [if_pos (by omega), if_pos (by omega)])
                | (rw [if_pos (by omega), if_neg (by omega), if_pos (by omega)])
                | (rw [if_pos (by omega), if_neg (by omega), if_neg (by omega)])
                | (rw [if_neg (by omega), if_pos (by omega)])
                | (rw [if_neg (by omega), if_neg (by omega), if_pos (by omega)])
                | (rw [if_neg (by omega), if_neg (by omega), if_neg (by omega)])
                | (exfalso; omega)
              · exfalso; omega
            · exfalso; omega
          · refine z_iconst dX8_stateOf_95 ⟨by decide, by decide⟩ ?_
            refine z_goto (tgt := 118) dX8_stateOf_96 (by decide) ?_
            refine z_istore (loc2 := [fr 60, fi i, fi x1, fi x4, fi x5, fi 0, fi 1]) dX8_stateOf_118 (by decide) rfl ?_
            refine z_iload dX8_stateOf_120 rfl ?_
            refine z_if_eq (tgt := 129) dX8_stateOf_122 (by decide) (fun c48 => ?_) (fun c48 => ?_)
            · refine z_iload dX8_stateOf_129 rfl ?_
              refine z_if_eq (tgt := 138) dX8_stateOf_131 (by decide) (fun c49 => ?_) (fun c49 => ?_)
              · exfalso; omega
              · refine z_iconst dX8_stateOf_134 ⟨by decide, by decide⟩ ?_
                refine z_goto (tgt := 139) dX8_stateOf_135 (by decide) ?_
                refine z_iret rfl (by decide) rfl (Nat.sub_self _) dX8_stateOf_139 ?_
                have hab := mok_z hM0 (a := 79) rfl i
                refine ⟨rfl, Or.inr (Or.inr ⟨hf, _, _, hes2.2.2, ?_⟩)⟩
                first
                | (exfalso; omega)
                | (rw [if_pos (by omega), if_pos (by omega)])
                | (rw [if_pos (by omega), if_neg (by omega), if_pos (by omega)])
                | (rw [if_pos (by omega), if_neg (by omega), if_neg (by omega)])
                | (rw [if_neg (by omega), if_pos (by omega)])
                | (rw [if_neg (by omega), if_neg (by omega), if_pos (by omega)])
                | (rw [if_neg (by omega), if_neg (by omega), if_neg (by omega)])
                | (exfalso; omega)
            · exfalso; omega
      · refine z_iconst dX8_stateOf_49 ⟨by decide, by decide⟩ ?_
        refine z_goto (tgt := 73) dX8_stateOf_50 (by decide) ?_
        refine z_istore (loc2 := [fr 60, fi i, fi x1, fi x4, fi x5, fi 1, fu]) dX8_stateOf_73 (by decide) rfl ?_
        refine z_aload_nr dX8_stateOf_75 rfl ?_
        refine z_getr (b := 79) fl_X8_65 rfl (by decide) rf_60_24 rfl dX8_stateOf_76 ?_
        refine z_iload_n dX8_stateOf_79 rfl ?_
        refine z_zald rfl (by decide) (by omega) (by omega) dX8_stateOf_80 (fun x50 hx50 bx50 => ?_)
        refine z_if_eq (tgt := 103) dX8_stateOf_81 (by decide) (fun c51 => ?_) (fun c51 => ?_)
        · refine z_iload_n dX8_stateOf_103 rfl ?_
          refine z_aload_nr dX8_stateOf_104 rfl ?_
          refine z_getr (b := 78) fl_X8_62 rfl (by decide) rf_60_23 rfl dX8_stateOf_105 ?_
          refine z_iload_n dX8_stateOf_108 rfl ?_
          refine z_iald rfl (by decide) (by omega) (by omega) dX8_stateOf_109 (fun x52 hx52 bx52 => ?_)
          refine z_icmp_lt (tgt := 117) dX8_stateOf_110 (by decide) (fun c53 => ?_) (fun c53 => ?_)
          · refine z_iconst dX8_stateOf_117 ⟨by decide, by decide⟩ ?_
            refine z_istore (loc2 := [fr 60, fi i, fi x1, fi x4, fi x5, fi 1, fi 0]) dX8_stateOf_118 (by decide) rfl ?_
            refine z_iload dX8_stateOf_120 rfl ?_
            refine z_if_eq (tgt := 129) dX8_stateOf_122 (by decide) (fun c54 => ?_) (fun c54 => ?_)
            · exfalso; omega
            · refine z_iconst dX8_stateOf_125 ⟨by decide, by decide⟩ ?_
              refine z_goto (tgt := 139) dX8_stateOf_126 (by decide) ?_
              refine z_iret rfl (by decide) rfl (Nat.sub_self _) dX8_stateOf_139 ?_
              have hab := mok_z hM0 (a := 79) rfl i
              refine ⟨rfl, Or.inr (Or.inr ⟨hf, _, _, hes2.2.2, ?_⟩)⟩
              first
              | (exfalso; omega)
              | (rw [if_pos (by omega), if_pos (by omega)])
              | (rw [if_pos (by omega), if_neg (by omega), if_pos (by omega)])
              | (rw [if_pos (by omega), if_neg (by omega), if_neg (by omega)])
              | (rw [if_neg (by omega), if_pos (by omega)])
              | (rw [if_neg (by omega), if_neg (by omega), if_pos (by omega)])
              | (rw [if_neg (by omega), if_neg (by omega), if_neg (by omega)])
              | (exfalso; omega)
          · refine z_iconst dX8_stateOf_113 ⟨by decide, by decide⟩ ?_
            refine z_goto (tgt := 118) dX8_stateOf_114 (by decide) ?_
            refine z_istore (loc2 := [fr 60, fi i, fi x1, fi x4, fi x5, fi 1, fi 1]) dX8_stateOf_118 (by decide) rfl ?_
            refine z_iload dX8_stateOf_120 rfl ?_
            refine z_if_eq (tgt := 129) dX8_stateOf_122 (by decide) (fun c55 => ?_) (fun c55 => ?_)
            · exfalso; omega
            · refine z_iconst dX8_stateOf_125 ⟨by decide, by decide⟩ ?_
              refine z_goto (tgt := 139) dX8_stateOf_126 (by decide) ?_
              refine z_iret rfl (by decide) rfl (Nat.sub_self _) dX8_stateOf_139 ?_
              have hab := mok_z hM0 (a := 79) rfl i
              refine ⟨rfl, Or.inr (Or.inr ⟨hf, _, _, hes2.2.2, ?_⟩)⟩
              first
              | (exfalso; omega)
              | (rw [if_pos (by omega), if_pos (by omega)])
              | (rw [if_pos (by omega), if_neg (by omega), if_pos (by omega)])
              | (rw [if_pos (by omega), if_neg (by omega), if_neg (by omega)])
              | (rw [if_neg (by omega), if_pos (by omega)])
              | (rw [if_neg (by omega), if_neg (by omega), if_pos (by omega)])
              | (rw [if_neg (by omega), if_neg (by omega), if_neg (by omega)])
              | (exfalso; omega)
        · refine z_iload dX8_stateOf_84 rfl ?_
          refine z_aload_nr dX8_stateOf_86 rfl ?_
          refine z_getr (b := 78) fl_X8_62 rfl (by decide) rf_60_23 rfl dX8_stateOf_87 ?_
          refine z_iload_n dX8_stateOf_90 rfl ?_
          refine z_iald rfl (by decide) (by omega) (by omega) dX8_stateOf_91 (fun x56 hx56 bx56 => ?_)
          refine z_icmp_gt (tgt := 99) dX8_stateOf_92 (by decide) (fun c57 => ?_) (fun c57 => ?_)
          · refine z_iconst dX8_stateOf_99 ⟨by decide, by decide⟩ ?_
            refine z_goto (tgt := 118) dX8_stateOf_100 (by decide) ?_
            refine z_istore (loc2 := [fr 60, fi i, fi x1, fi x4, fi x5, fi 1, fi 0]) dX8_stateOf_118 (by decide) rfl ?_
            refine z_iload dX8_stateOf_120 rfl ?_
            refine z_if_eq (tgt := 129) dX8_stateOf_122 (by decide) (fun c58 => ?_) (fun c58 => ?_)
            · exfalso; omega
            · refine z_iconst dX8_stateOf_125 ⟨by decide, by decide⟩ ?_
              refine z_goto (tgt := 139) dX8_stateOf_126 (by decide) ?_
              refine z_iret rfl (by decide) rfl (Nat.sub_self _) dX8_stateOf_139 ?_
              have hab := mok_z hM0 (a := 79) rfl i
              refine ⟨rfl, Or.inr (Or.inr ⟨hf, _, _, hes2.2.2, ?_⟩)⟩
              first
              | (exfalso; omega)
              | (rw [if_pos (by omega), if_pos (by omega)])
              | (rw [if_pos (by omega), if_neg (by omega), if_pos (by omega)])
              | (rw [if_pos (by omega), if_neg (by omega), if_neg (by omega)])
              | (rw [if_neg (by omega), if_pos (by omega)])
              | (rw [if_neg (by omega), if_neg (by omega), if_pos (by omega)])
              | (rw [if_neg (by omega), if_neg (by omega), if_neg (by omega)])
              | (exfalso; omega)
          · refine z_iconst dX8_stateOf_95 ⟨by decide, by decide⟩ ?_
            refine z_goto (tgt := 118) dX8_stateOf_96 (by decide) ?_
            refine z_istore (loc2 := [fr 60, fi i, fi x1, fi x4, fi x5, fi 1, fi 1]) dX8_stateOf_118 (by decide) rfl ?_
            refine z_iload dX8_stateOf_120 rfl ?_
            refine z_if_eq (tgt := 129) dX8_stateOf_122 (by decide) (fun c59 => ?_) (fun c59 => ?_)
            · exfalso; omega
            · refine z_iconst dX8_stateOf_125 ⟨by decide, by decide⟩ ?_
              refine z_goto (tgt := 139) dX8_stateOf_126 (by decide) ?_
              refine z_iret rfl (by decide) rfl (Nat.sub_self _) dX8_stateOf_139 ?_
              have hab := mok_z hM0 (a := 79) rfl i
              refine ⟨rfl, Or.inr (Or.inr ⟨hf, _, _, hes2.2.2, ?_⟩)⟩
              first
              | (exfalso; omega)
              | (rw [if_pos (by omega), if_pos (by omega)])
              | (rw [if_pos (by omega), if_neg (by omega), if_pos (by omega)])
              | (rw [if_pos (by omega), if_neg (by omega), if_neg (by omega)])
              | (rw [if_neg (by omega), if_pos (by omega)])
              | (rw [if_neg (by omega), if_neg (by omega), if_pos (by omega)])
              | (rw [if_neg (by omega), if_neg (by omega), if_neg (by omega)])
              | (exfalso; omega)
  · refine z_iconst dX8_stateOf_15 ⟨by decide, by decide⟩ ?_
    refine z_iret rfl (by decide) rfl (Nat.sub_self _) dX8_stateOf_16 ?_
    refine ⟨rfl, Or.inr (Or.inl ⟨hf, ?_, rfl⟩)⟩
    rcases hes with z | z
    · exact z.2
    · exfalso
      rw [hho, if_neg (by omega)] at hls
      omega
