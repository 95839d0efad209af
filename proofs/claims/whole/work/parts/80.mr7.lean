/-! ===== the reference's reader: a clause ===== -/
set_option maxHeartbeats 3200000 in
theorem A_X8_readClause (l : Launch) (g : Cx) (M : FMem) (which : Int) (t : Int → Int) (n : Int) (s : PS) (hQ : Qs t n s M) (hS : SOk n s) (hn : 0 ≤ n ∧ n ≤ 240) (hw : 0 ≤ which ∧ which ≤ 4) (hz : s.2.1 = 0) (hcl : which = 4 → 0 ≤ M 60 30 ∧ M 60 30 < 8) : AMv l g true fi_X8_readClause [fr 60, fi which] 93 M (fun M2 => offK M M2 ∧ Qs t n (clM t n which s) M2 ∧ ((clM t n which s).1.1 = 0 → DrP (dm M2) (eff which (clM t n which s).2.2 (abv t n (opN t n 0 0 9 s)) (dm M)))) := by
  refine AMv_intro [fr 60, fi which, fu] (by decide) (knall rfl) (Nat.le_of_ble_eq_true rfl) rfl ?_
  intro hNV hM0 μ
  have bwhich : N32 which := hNV (fi which) (by simp)
  refine z_iload_n dX8_readClause_0 rfl ?_
  refine z_if_ne (tgt := 11) dX8_readClause_1 (by decide) (fun c1 => ?_) (fun c1 => ?_)
  · refine z_iload_n dX8_readClause_11 rfl ?_
    refine z_iconst dX8_readClause_12 ⟨by decide, by decide⟩ ?_
    refine z_icmp_ne (tgt := 51) dX8_readClause_13 (by decide) (fun c2 => ?_) (fun c2 => ?_)
    · refine z_iload_n dX8_readClause_51 rfl ?_
      refine z_iconst dX8_readClause_52 ⟨by decide, by decide⟩ ?_
      refine z_icmp_ne (tgt := 63) dX8_readClause_53 (by decide) (fun c3 => ?_) (fun c3 => ?_)
      · refine z_iload_n dX8_readClause_63 rfl ?_
        refine z_iconst dX8_readClause_64 ⟨by decide, by decide⟩ ?_
        refine z_icmp_ne (tgt := 84) dX8_readClause_65 (by decide) (fun c4 => ?_) (fun c4 => ?_)
        · refine z_aload_nr dX8_readClause_84 rfl ?_
          refine z_callVv (n2 := 93) (A_X8_readClaim l g M _ _ (s) (hQ) (hS) (hn) (hz) (hcl (by omega))) cb_X8_readClaim cl_X8_270 (clr0 rfl rfl (by decide) (by decide)) rfl (by decide) ⟨_, rfl, rfl⟩ rfl (by decide) rfl (Nat.le_of_ble_eq_true rfl) rfl dX8_readClause_85 (fun Mz5 kMz5 hc5 => ?_)
          have p1 := hc5
          obtain ⟨e9, he9⟩ : ∃ z, z = srC t n s := ⟨_, rfl⟩
          rw [← he9] at p1
          have q9 := p1.2.1
          have ok9 : SOk n e9 := by rw [he9]; unfold srC; exact opN_ok (opA_ok (opN_ok hS))
          have o9 : offK M Mz5 := fun b j u1 u2 => p1.1 b j (by omega) (by omega) (by omega) (by omega)
          have d9 : e9.1.1 = 0 → DrP (dm Mz5) (eff which e9.2.2 (abv t n (opN t n 0 0 9 s)) (dm M)) := fun z => by
            have := p1.2.2 z
            rw [show which = 4 by omega]
            exact dm_claim p1.1 this.1 this.2
          have hC : clM t n which s = opE t n e9 := by
            unfold clM
            rw [if_neg (by omega), if_neg (by omega), if_neg (by omega), if_neg (by omega), he9]
            rfl
          refine z_aload_nr dX8_readClause_88 rfl ?_
          refine z_geti (kz := 37) fl_X8_205 rfl (by decide) rfl dX8_readClause_89 (fun x6 hx6 bx6 => ?_)
          refine z_if_ne (tgt := 132) dX8_readClause_92 (by decide) (fun c7 => ?_) (fun c7 => ?_)
          · refine z_vret rfl (by decide) rfl (Nat.sub_self _) dX8_readClause_132 ?_
            rw [hC]
            first
            | (have hzz : e9.1.1 ≠ 0 := by have := Qs_f q9; omega
               rw [opE_f hzz]
               exact ⟨o9, q9, fun z => absurd z hzz⟩)
            | (have hend := cl_end (M4 := Mz5) q9 hs9 hhe hhr hgd hwh wt (by rw [hNONE]; congr 1; omega)
               refine ⟨offK_tr o9 (offK_S hend.1), hend.2, fun z => ?_⟩
               have hv := opE_v (t := t) (n := n) (s := e9)
               rw [dm_S hend.1, hv.1]
               exact d9 hs9)
          · have hs9 : e9.1.1 = 0 := by have := Qs_f q9; omega
            have r9 := q9.2.2.2.1 hs9
            have b9 := ok9 hs9
            have n9 := q9.2.1
            obtain ⟨Ma, hMa⟩ : ∃ z, z = Mz5 := ⟨_, rfl⟩
            refine z_aload_nr dX8_readClause_95 rfl ?_
            refine z_callVi (n2 := 93) (A_X8_here l g Mz5 (by omega) (by omega)) cb_X8_here cl_X8_208 (clr0 rfl rfl (by decide) (by decide)) rfl (by decide) ⟨_, rfl, rfl⟩ rfl (by decide) rfl (Nat.le_of_ble_eq_true rfl) rfl dX8_readClause_96 (fun x8 Mz8 bx8 kMz8 hc8 => ?_)
            have hhe := hc8.1
            have hhr := hc8.2
            rw [q9.1, q9.2.1, r9.1] at hhe hhr
            obtain ⟨Mh, hMh⟩ : ∃ z, z = Mz8 := ⟨_, rfl⟩
            have hat : Mz8 60 36 = sk t n e9.1.2.2 := by rw [hhe]; exact st_same _ _ _ _
            have htx : Ma 85 (sk t n e9.1.2.2) = t (sk t n e9.1.2.2) := by rw [hMa]; exact congrFun q9.1 _
            rw [← hMa, htx] at hhr
            refine z_istore_n (loc2 := [fr 60, fi which, fi x8]) dX8_readClause_99 (by decide) rfl ?_
            refine z_aload_nr dX8_readClause_100 rfl ?_
            refine z_dup rfl dX8_readClause_101 ?_
            refine z_geti (kz := 36) fl_X8_202 rfl (by decide) rfl dX8_readClause_102 (fun x9 hx9 bx9 => ?_)
            refine z_aload_nr dX8_readClause_105 rfl ?_
            refine z_iload_n dX8_readClause_106 rfl ?_
            refine z_bipush dX8_readClause_107 ⟨by decide, by decide⟩ (by decide) ?_
            refine z_icmp_ne (tgt := 116) dX8_readClause_109 (by decide) (fun c10 => ?_) (fun c10 => ?_)
            · refine z_iconst dX8_readClause_116 ⟨by decide, by decide⟩ ?_
              refine z_iconst dX8_readClause_117 ⟨by decide, by decide⟩ ?_
              refine z_aload_nr dX8_readClause_118 rfl ?_
              refine z_geti (kz := 36) fl_X8_202 rfl (by decide) rfl dX8_readClause_119 (fun x11 hx11 bx11 => ?_)
              have hwh : x11 = sk t n e9.1.2.2 := by omega
              have hgd : ((0 : Int) = 1 ∧ x8 = 59) ∨ ((0 : Int) = 0 ∧ x8 ≠ 59) := by omega
              refine z_callVi (n2 := 93) (A_X8_want l g Mz8 0 1 x11 (by omega) (by decide)) cb_X8_want cl_X8_226 (clr0 rfl rfl (by decide) (by decide)) rfl (by decide) ⟨_, rfl, rfl⟩ rfl (by decide) rfl (Nat.le_of_ble_eq_true rfl) rfl dX8_readClause_122 (fun x12 Mz12 bx12 kMz12 hc12 => ?_)
              have wt := hc12
              have wq : x12 = 0 ∨ x12 = 1 := by rcases wt with z | z <;> omega
              refine z_callSip (n2 := 93) (A_X8_one l g Mz12 x12 (by omega)) cb_X8_one cl_X8_184 (clr0 rfl rfl (by decide) (by decide)) rfl (by decide) rfl (Nat.le_of_ble_eq_true rfl) rfl dX8_readClause_125 (fun x13 bx13 hx13 => ?_)
              first | refine z_iaddN dX8_readClause_128 (by omega) (fun x14 hx14 => ?_) | refine z_iadd dX8_readClause_128 (fun x14 hx14 => ?_)
              refine z_puti (kz := 36) fl_X8_202 rfl (by decide) rfl nr_60_36 dX8_readClause_129 (fun Mz15 hMz15 => ?_)
              refine z_vret rfl (by decide) rfl (Nat.sub_self _) dX8_readClause_132 ?_
              rw [hC]
              first
              | (have hzz : e9.1.1 ≠ 0 := by have := Qs_f q9; omega
                 rw [opE_f hzz]
                 exact ⟨o9, q9, fun z => absurd z hzz⟩)
              | (have hend := cl_end (M4 := Mz15) q9 hs9 hhe hhr hgd hwh wt (by rw [hMz15]; congr 1; omega)
                 refine ⟨offK_tr o9 (offK_S hend.1), hend.2, fun z => ?_⟩
                 have hv := opE_v (t := t) (n := n) (s := e9)
                 rw [dm_S hend.1, hv.1]
                 exact d9 hs9)
            · refine z_iconst dX8_readClause_112 ⟨by decide, by decide⟩ ?_
              refine z_goto (tgt := 117) dX8_readClause_113 (by decide) ?_
              refine z_iconst dX8_readClause_117 ⟨by decide, by decide⟩ ?_
              refine z_aload_nr dX8_readClause_118 rfl ?_
              refine z_geti (kz := 36) fl_X8_202 rfl (by decide) rfl dX8_readClause_119 (fun x16 hx16 bx16 => ?_)
              have hwh : x16 = sk t n e9.1.2.2 := by omega
              have hgd : ((1 : Int) = 1 ∧ x8 = 59) ∨ ((1 : Int) = 0 ∧ x8 ≠ 59) := by omega
              refine z_callVi (n2 := 93) (A_X8_want l g Mz8 1 1 x16 (by omega) (by decide)) cb_X8_want cl_X8_226 (clr0 rfl rfl (by decide) (by decide)) rfl (by decide) ⟨_, rfl, rfl⟩ rfl (by decide) rfl (Nat.le_of_ble_eq_true rfl) rfl dX8_readClause_122 (fun x17 Mz17 bx17 kMz17 hc17 => ?_)
              have wt := hc17
              have wq : x17 = 0 ∨ x17 = 1 := by rcases wt with z | z <;> omega
              refine z_callSip (n2 := 93) (A_X8_one l g Mz17 x17 (by omega)) cb_X8_one cl_X8_184 (clr0 rfl rfl (by decide) (by decide)) rfl (by decide) rfl (Nat.le_of_ble_eq_true rfl) rfl dX8_readClause_125 (fun x18 bx18 hx18 => ?_)
              first | refine z_iaddN dX8_readClause_128 (by omega) (fun x19 hx19 => ?_) | refine z_iadd dX8_readClause_128 (fun x19 hx19 => ?_)
              refine z_puti (kz := 36) fl_X8_202 rfl (by decide) rfl nr_60_36 dX8_readClause_129 (fun Mz20 hMz20 => ?_)
              refine z_vret rfl (by decide) rfl (Nat.sub_self _) dX8_readClause_132 ?_
              rw [hC]
              first
              | (have hzz : e9.1.1 ≠ 0 := by have := Qs_f q9; omega
                 rw [opE_f hzz]
                 exact ⟨o9, q9, fun z => absurd z hzz⟩)
              | (have hend := cl_end (M4 := Mz20) q9 hs9 hhe hhr hgd hwh wt (by rw [hMz20]; congr 1; omega)
                 refine ⟨offK_tr o9 (offK_S hend.1), hend.2, fun z => ?_⟩
                 have hv := opE_v (t := t) (n := n) (s := e9)
                 rw [dm_S hend.1, hv.1]
                 exact d9 hs9)
        · refine z_aload_nr dX8_readClause_68 rfl ?_
          refine z_aload_nr dX8_readClause_69 rfl ?_
          refine z_iconst dX8_readClause_70 ⟨by decide, by decide⟩ ?_
          refine z_sipush dX8_readClause_71 ⟨by decide, by decide⟩ (by decide) ?_
          refine z_iconst dX8_readClause_74 ⟨by decide, by decide⟩ ?_
          refine z_callVi (n2 := 93) (A_X8_takeNumber l g M 0 9999 0 _ _ (s) (hQ) (hS) (hn) (by omega)) cb_X8_takeNumber cl_X8_238 (clr0 rfl rfl (by decide) (by decide)) rfl (by decide) ⟨_, rfl, rfl⟩ rfl (by decide) rfl (Nat.le_of_ble_eq_true rfl) rfl dX8_readClause_75 (fun x21 Mz21 bx21 kMz21 hc21 => ?_)
          have p1 := hc21
          refine z_puti (kz := 29) fl_X8_267 rfl (by decide) rfl nr_60_29 dX8_readClause_78 (fun Mz22 hMz22 => ?_)
          obtain ⟨e9, he9⟩ : ∃ z, z = opN t n 0 0 9999 s := ⟨_, rfl⟩
          rw [← he9] at p1
          have fb := Qs_f p1.2.1
          have q9 : Qs t n e9 Mz22 := Qs_cg p1.2.1 (fun i => by rw [hMz22, st_cell (by decide)]) (fun j a b => by rw [hMz22, st_at, if_neg (by omega)])
          have ok9 : SOk n e9 := by rw [he9]; exact opN_ok hS
          have o9 : offK M Mz22 := fun b j u1 u2 => by
            rw [hMz22]; unfold st; rw [if_neg (by omega)]; exact p1.1 b j (by omega)
          have d9 : e9.1.1 = 0 → DrP (dm Mz22) (eff which e9.2.2 (abv t n (opN t n 0 0 9 s)) (dm M)) := fun z => by
            have h1 := p1.2.2 z
            rw [hz] at h1
            rw [show which = 3 by omega]
            refine dm_own (fun b j u => ?_) ?_
            · rw [hMz22]; unfold st; rw [if_neg (by omega)]; exact p1.1 b j (by omega)
            · rw [hMz22, st_same]; exact h1
          have hC : clM t n which s = opE t n e9 := by
            unfold clM
            rw [if_neg (by omega), if_neg (by omega), if_neg (by omega), if_pos (by omega), he9]
            rfl
          refine z_goto (tgt := 88) dX8_readClause_81 (by decide) ?_
          refine z_aload_nr dX8_readClause_88 rfl ?_
          refine z_geti (kz := 37) fl_X8_205 rfl (by decide) rfl dX8_readClause_89 (fun x23 hx23 bx23 => ?_)
          rw [hMz22, st_at, if_neg (by decide)] at hx23
          refine z_if_ne (tgt := 132) dX8_readClause_92 (by decide) (fun c24 => ?_) (fun c24 => ?_)
          · refine z_vret rfl (by decide) rfl (Nat.sub_self _) dX8_readClause_132 ?_
            rw [hC]
            first
            | (have hzz : e9.1.1 ≠ 0 := by have := Qs_f q9; omega
               rw [opE_f hzz]
               exact ⟨o9, q9, fun z => absurd z hzz⟩)
            | (have hend := cl_end (M4 := Mz22) q9 hs9 hhe hhr hgd hwh wt (by rw [hMz22]; congr 1; omega)
               refine ⟨offK_tr o9 (offK_S hend.1), hend.2, fun z => ?_⟩
               have hv := opE_v (t := t) (n := n) (s := e9)
               rw [dm_S hend.1, hv.1]
               exact d9 hs9)
          · have hs9 : e9.1.1 = 0 := by have := Qs_f q9; omega
            have r9 := q9.2.2.2.1 hs9
            have b9 := ok9 hs9
            have n9 := q9.2.1
            obtain ⟨Ma, hMa⟩ : ∃ z, z = Mz22 := ⟨_, rfl⟩
            refine z_aload_nr dX8_readClause_95 rfl ?_
            refine z_callVi (n2 := 93) (A_X8_here l g Mz22 (by omega) (by omega)) cb_X8_here cl_X8_208 (clr0 rfl rfl (by decide) (by decide)) rfl (by decide) ⟨_, rfl, rfl⟩ rfl (by decide) rfl (Nat.le_of_ble_eq_true rfl) rfl dX8_readClause_96 (fun x25 Mz25 bx25 kMz25 hc25 => ?_)
            have hhe := hc25.1
            have hhr := hc25.2
            rw [q9.1, q9.2.1, r9.1] at hhe hhr
            obtain ⟨Mh, hMh⟩ : ∃ z, z = Mz25 := ⟨_, rfl⟩
            have hat : Mz25 60 36 = sk t n e9.1.2.2 := by rw [hhe]; exact st_same _ _ _ _
            have htx : Ma 85 (sk t n e9.1.2.2) = t (sk t n e9.1.2.2) := by rw [hMa]; exact congrFun q9.1 _
            rw [← hMa, htx] at hhr
            refine z_istore_n (loc2 := [fr 60, fi which, fi x25]) dX8_readClause_99 (by decide) rfl ?_
            refine z_aload_nr dX8_readClause_100 rfl ?_
            refine z_dup rfl dX8_readClause_101 ?_
            refine z_geti (kz := 36) fl_X8_202 rfl (by decide) rfl dX8_readClause_102 (fun x26 hx26 bx26 => ?_)
            refine z_aload_nr dX8_readClause_105 rfl ?_
            refine z_iload_n dX8_readClause_106 rfl ?_
            refine z_bipush dX8_readClause_107 ⟨by decide, by decide⟩ (by decide) ?_
            refine z_icmp_ne (tgt := 116) dX8_readClause_109 (by decide) (fun c27 => ?_) (fun c27 => ?_)
            · refine z_iconst dX8_readClause_116 ⟨by decide, by decide⟩ ?_
              refine z_iconst dX8_readClause_117 ⟨by decide, by decide⟩ ?_
              refine z_aload_nr dX8_readClause_118 rfl ?_
              refine z_geti (kz := 36) fl_X8_202 rfl (by decide) rfl dX8_readClause_119 (fun x28 hx28 bx28 => ?_)
              have hwh : x28 = sk t n e9.1.2.2 := by omega
              have hgd : ((0 : Int) = 1 ∧ x25 = 59) ∨ ((0 : Int) = 0 ∧ x25 ≠ 59) := by omega
              refine z_callVi (n2 := 93) (A_X8_want l g Mz25 0 1 x28 (by omega) (by decide)) cb_X8_want cl_X8_226 (clr0 rfl rfl (by decide) (by decide)) rfl (by decide) ⟨_, rfl, rfl⟩ rfl (by decide) rfl (Nat.le_of_ble_eq_true rfl) rfl dX8_readClause_122 (fun x29 Mz29 bx29 kMz29 hc29 => ?_)
              have wt := hc29
              have wq : x29 = 0 ∨ x29 = 1 := by rcases wt with z | z <;> omega
              refine z_callSip (n2 := 93) (A_X8_one l g Mz29 x29 (by omega)) cb_X8_one cl_X8_184 (clr0 rfl rfl (by decide) (by decide)) rfl (by decide) rfl (Nat.le_of_ble_eq_true rfl) rfl dX8_readClause_125 (fun x30 bx30 hx30 => ?_)
              first | refine z_iaddN dX8_readClause_128 (by omega) (fun x31 hx31 => ?_) | refine z_iadd dX8_readClause_128 (fun x31 hx31 => ?_)
              refine z_puti (kz := 36) fl_X8_202 rfl (by decide) rfl nr_60_36 dX8_readClause_129 (fun Mz32 hMz32 => ?_)
              refine z_vret rfl (by decide) rfl (Nat.sub_self _) dX8_readClause_132 ?_
              rw [hC]
              first
              | (have hzz : e9.1.1 ≠ 0 := by have := Qs_f q9; omega
                 rw [opE_f hzz]
                 exact ⟨o9, q9, fun z => absurd z hzz⟩)
              | (have hend := cl_end (M4 := Mz32) q9 hs9 hhe hhr hgd hwh wt (by rw [hMz32]; congr 1; omega)
                 refine ⟨offK_tr o9 (offK_S hend.1), hend.2, fun z => ?_⟩
                 have hv := opE_v (t := t) (n := n) (s := e9)
                 rw [dm_S hend.1, hv.1]
                 exact d9 hs9)
            · refine z_iconst dX8_readClause_112 ⟨by decide, by decide⟩ ?_
              refine z_goto (tgt := 117) dX8_readClause_113 (by decide) ?_
              refine z_iconst dX8_readClause_117 ⟨by decide, by decide⟩ ?_
              refine z_aload_nr dX8_readClause_118 rfl ?_
              refine z_geti (kz := 36) fl_X8_202 rfl (by decide) rfl dX8_readClause_119 (fun x33 hx33 bx33 => ?_)
              have hwh : x33 = sk t n e9.1.2.2 := by omega
              have hgd : ((1 : Int) = 1 ∧ x25 = 59) ∨ ((1 : Int) = 0 ∧ x25 ≠ 59) := by omega
              refine z_callVi (n2 := 93) (A_X8_want l g Mz25 1 1 x33 (by omega) (by decide)) cb_X8_want cl_X8_226 (clr0 rfl rfl (by decide) (by decide)) rfl (by decide) ⟨_, rfl, rfl⟩ rfl (by decide) rfl (Nat.le_of_ble_eq_true rfl) rfl dX8_readClause_122 (fun x34 Mz34 bx34 kMz34 hc34 => ?_)
              have wt := hc34
              have wq : x34 = 0 ∨ x34 = 1 := by rcases wt with z | z <;> omega
              refine z_callSip (n2 := 93) (A_X8_one l g Mz34 x34 (by omega)) cb_X8_one cl_X8_184 (clr0 rfl rfl (by decide) (by decide)) rfl (by decide) rfl (Nat.le_of_ble_eq_true rfl) rfl dX8_readClause_125 (fun x35 bx35 hx35 => ?_)
              first | refine z_iaddN dX8_readClause_128 (by omega) (fun x36 hx36 => ?_) | refine z_iadd dX8_readClause_128 (fun x36 hx36 => ?_)
              refine z_puti (kz := 36) fl_X8_202 rfl (by decide) rfl nr_60_36 dX8_readClause_129 (fun Mz37 hMz37 => ?_)
              refine z_vret rfl (by decide) rfl (Nat.sub_self _) dX8_readClause_132 ?_
              rw [hC]
              first
              | (have hzz : e9.1.1 ≠ 0 := by have := Qs_f q9; omega
                 rw [opE_f hzz]
                 exact ⟨o9, q9, fun z => absurd z hzz⟩)
              | (have hend := cl_end (M4 := Mz37) q9 hs9 hhe hhr hgd hwh wt (by rw [hMz37]; congr 1; omega)
                 refine ⟨offK_tr o9 (offK_S hend.1), hend.2, fun z => ?_⟩
                 have hv := opE_v (t := t) (n := n) (s := e9)
                 rw [dm_S hend.1, hv.1]
                 exact d9 hs9)
      · refine z_aload_nr dX8_readClause_56 rfl ?_
        refine z_callVv (n2 := 93) (A_X8_readBlur l g M _ _ (s) (hQ) (hS) (hn) (hz)) cb_X8_readBlur cl_X8_264 (clr0 rfl rfl (by decide) (by decide)) rfl (by decide) ⟨_, rfl, rfl⟩ rfl (by decide) rfl (Nat.le_of_ble_eq_true rfl) rfl dX8_readClause_57 (fun Mz38 kMz38 hc38 => ?_)
        have p1 := hc38
        obtain ⟨e9, he9⟩ : ∃ z, z = srB t n s := ⟨_, rfl⟩
        rw [← he9] at p1
        have q9 := p1.2.1
        have ok9 : SOk n e9 := by rw [he9]; unfold srB; exact opN_ok (opW_ok (by decide) (opN_ok hS))
        have o9 : offK M Mz38 := fun b j u1 u2 => p1.1 b j (by omega) (by omega)
        have d9 : e9.1.1 = 0 → DrP (dm Mz38) (eff which e9.2.2 (abv t n (opN t n 0 0 9 s)) (dm M)) := fun z => by
          have := p1.2.2 z
          rw [show which = 2 by omega]
          exact dm_blur p1.1 this.2
        have hC : clM t n which s = opE t n e9 := by
          unfold clM
          rw [if_neg (by omega), if_neg (by omega), if_pos (by omega), he9]
          rfl
        refine z_goto (tgt := 88) dX8_readClause_60 (by decide) ?_
        refine z_aload_nr dX8_readClause_88 rfl ?_
        refine z_geti (kz := 37) fl_X8_205 rfl (by decide) rfl dX8_readClause_89 (fun x39 hx39 bx39 => ?_)
        refine z_if_ne (tgt := 132) dX8_readClause_92 (by decide) (fun c40 => ?_) (fun c40 => ?_)
        · refine z_vret rfl (by decide) rfl (Nat.sub_self _) dX8_readClause_132 ?_
          rw [hC]
          first
          | (have hzz : e9.1.1 ≠ 0 := by have := Qs_f q9; omega
             rw [opE_f hzz]
             exact ⟨o9, q9, fun z => absurd z hzz⟩)
          | (have hend := cl_end (M4 := Mz38) q9 hs9 hhe hhr hgd hwh wt (by rw [hNONE]; congr 1; omega)
             refine ⟨offK_tr o9 (offK_S hend.1), hend.2, fun z => ?_⟩
             have hv := opE_v (t := t) (n := n) (s := e9)
             rw [dm_S hend.1, hv.1]
             exact d9 hs9)
        · have hs9 : e9.1.1 = 0 := by have := Qs_f q9; omega
          have r9 := q9.2.2.2.1 hs9
          have b9 := ok9 hs9
          have n9 := q9.2.1
          obtain ⟨Ma, hMa⟩ : ∃ z, z = Mz38 := ⟨_, rfl⟩
          refine z_aload_nr dX8_readClause_95 rfl ?_
          refine z_callVi (n2 := 93) (A_X8_here l g Mz38 (by omega) (by omega)) cb_X8_here cl_X8_208 (clr0 rfl rfl (by decide) (by decide)) rfl (by decide) ⟨_, rfl, rfl⟩ rfl (by decide) rfl (Nat.le_of_ble_eq_true rfl) rfl dX8_readClause_96 (fun x41 Mz41 bx41 kMz41 hc41 => ?_)
          have hhe := hc41.1
          have hhr := hc41.2
          rw [q9.1, q9.2.1, r9.1] at hhe hhr
          obtain ⟨Mh, hMh⟩ : ∃ z, z = Mz41 := ⟨_, rfl⟩
          have hat : Mz41 60 36 = sk t n e9.1.2.2 := by rw [hhe]; exact st_same _ _ _ _
          have htx : Ma 85 (sk t n e9.1.2.2) = t (sk t n e9.1.2.2) := by rw [hMa]; exact congrFun q9.1 _
          rw [← hMa, htx] at hhr
          refine z_istore_n (loc2 := [fr 60, fi which, fi x41]) dX8_readClause_99 (by decide) rfl ?_
          refine z_aload_nr dX8_readClause_100 rfl ?_
          refine z_dup rfl dX8_readClause_101 ?_
          refine z_geti (kz := 36) fl_X8_202 rfl (by decide) rfl dX8_readClause_102 (fun x42 hx42 bx42 => ?_)
          refine z_aload_nr dX8_readClause_105 rfl ?_
          refine z_iload_n dX8_readClause_106 rfl ?_
          refine z_bipush dX8_readClause_107 ⟨by decide, by decide⟩ (by decide) ?_
          refine z_icmp_ne (tgt := 116) dX8_readClause_109 (by decide) (fun c43 => ?_) (fun c43 => ?_)
          · refine z_iconst dX8_readClause_116 ⟨by decide, by decide⟩ ?_
            refine z_iconst dX8_readClause_117 ⟨by decide, by decide⟩ ?_
            refine z_aload_nr dX8_readClause_118 rfl ?_
            refine z_geti (kz := 36) fl_X8_202 rfl (by decide) rfl dX8_readClause_119 (fun x44 hx44 bx44 => ?_)
            have hwh : x44 = sk t n e9.1.2.2 := by omega
            have hgd : ((0 : Int) = 1 ∧ x41 = 59) ∨ ((0 : Int) = 0 ∧ x41 ≠ 59) := by omega
            refine z_callVi (n2 := 93) (A_X8_want l g Mz41 0 1 x44 (by omega) (by decide)) cb_X8_want cl_X8_226 (clr0 rfl rfl (by decide) (by decide)) rfl (by decide) ⟨_, rfl, rfl⟩ rfl (by decide) rfl (Nat.le_of_ble_eq_true rfl) rfl dX8_readClause_122 (fun x45 Mz45 bx45 kMz45 hc45 => ?_)
            have wt := hc45
            have wq : x45 = 0 ∨ x45 = 1 := by rcases wt with z | z <;> omega
            refine z_callSip (n2 := 93) (A_X8_one l g Mz45 x45 (by omega)) cb_X8_one cl_X8_184 (clr0 rfl rfl (by decide) (by decide)) rfl (by decide) rfl (Nat.le_of_ble_eq_true rfl) rfl dX8_readClause_125 (fun x46 bx46 hx46 => ?_)
            first | refine z_iaddN dX8_readClause_128 (by omega) (fun x47 hx47 => ?_) | refine z_iadd dX8_readClause_128 (fun x47 hx47 => ?_)
            refine z_puti (kz := 36) fl_X8_202 rfl (by decide) rfl nr_60_36 dX8_readClause_129 (fun Mz48 hMz48 => ?_)
            refine z_vret rfl (by decide) rfl (Nat.sub_self _) dX8_readClause_132 ?_
            rw [hC]
            first
            | (have hzz : e9.1.1 ≠ 0 := by have := Qs_f q9; omega
               rw [opE_f hzz]
               exact ⟨o9, q9, fun z => absurd z hzz⟩)
            | (have hend := cl_end (M4 := Mz48) q9 hs9 hhe hhr hgd hwh wt (by rw [hMz48]; congr 1; omega)
               refine ⟨offK_tr o9 (offK_S hend.1), hend.2, fun z => ?_⟩
               have hv := opE_v (t := t) (n := n) (s := e9)
               rw [dm_S hend.1, hv.1]
               exact d9 hs9)
          · refine z_iconst dX8_readClause_112 ⟨by decide, by decide⟩ ?_
            refine z_goto (tgt := 117) dX8_readClause_113 (by decide) ?_
            refine z_iconst dX8_readClause_117 ⟨by decide, by decide⟩ ?_
            refine z_aload_nr dX8_readClause_118 rfl ?_
            refine z_geti (kz := 36) fl_X8_202 rfl (by decide) rfl dX8_readClause_119 (fun x49 hx49 bx49 => ?_)
            have hwh : x49 = sk t n e9.1.2.2 := by omega
            have hgd : ((1 : Int) = 1 ∧ x41 = 59) ∨ ((1 : Int) = 0 ∧ x41 ≠ 59) := by omega
            refine z_callVi (n2 := 93) (A_X8_want l g Mz41 1 1 x49 (by omega) (by decide)) cb_X8_want cl_X8_226 (clr0 rfl rfl (by decide) (by decide)) rfl (by decide) ⟨_, rfl, rfl⟩ rfl (by decide) rfl (Nat.le_of_ble_eq_true rfl) rfl dX8_readClause_122 (fun x50 Mz50 bx50 kMz50 hc50 => ?_)
            have wt := hc50
            have wq : x50 = 0 ∨ x50 = 1 := by rcases wt with z | z <;> omega
            refine z_callSip (n2 := 93) (A_X8_one l g Mz50 x50 (by omega)) cb_X8_one cl_X8_184 (clr0 rfl rfl (by decide) (by decide)) rfl (by decide) rfl (Nat.le_of_ble_eq_true rfl) rfl dX8_readClause_125 (fun x51 bx51 hx51 => ?_)
            first | refine z_iaddN dX8_readClause_128 (by omega) (fun x52 hx52 => ?_) | refine z_iadd dX8_readClause_128 (fun x52 hx52 => ?_)
            refine z_puti (kz := 36) fl_X8_202 rfl (by decide) rfl nr_60_36 dX8_readClause_129 (fun Mz53 hMz53 => ?_)
            refine z_vret rfl (by decide) rfl (Nat.sub_self _) dX8_readClause_132 ?_
            rw [hC]
            first
            | (have hzz : e9.1.1 ≠ 0 := by have := Qs_f q9; omega
               rw [opE_f hzz]
               exact ⟨o9, q9, fun z => absurd z hzz⟩)
            | (have hend := cl_end (M4 := Mz53) q9 hs9 hhe hhr hgd hwh wt (by rw [hMz53]; congr 1; omega)
               refine ⟨offK_tr o9 (offK_S hend.1), hend.2, fun z => ?_⟩
               have hv := opE_v (t := t) (n := n) (s := e9)
               rw [dm_S hend.1, hv.1]
               exact d9 hs9)
    · refine z_aload_nr dX8_readClause_16 rfl ?_
      refine z_aload_nr dX8_readClause_17 rfl ?_
      refine z_iconst dX8_readClause_18 ⟨by decide, by decide⟩ ?_
      refine z_bipush dX8_readClause_19 ⟨by decide, by decide⟩ (by decide) ?_
      refine z_iconst dX8_readClause_21 ⟨by decide, by decide⟩ ?_
      refine z_callVi (n2 := 93) (A_X8_takeNumber l g M 0 99 0 _ _ (s) (hQ) (hS) (hn) (by omega)) cb_X8_takeNumber cl_X8_238 (clr0 rfl rfl (by decide) (by decide)) rfl (by decide) ⟨_, rfl, rfl⟩ rfl (by decide) rfl (Nat.le_of_ble_eq_true rfl) rfl dX8_readClause_22 (fun x54 Mz54 bx54 kMz54 hc54 => ?_)
      have p1 := hc54
      have hx1 := hc54.2.2
      refine z_puti (kz := 27) fl_X8_258 rfl (by decide) rfl nr_60_27 dX8_readClause_25 (fun Mz55 hMz55 => ?_)
      have q1 : Qs t n (opN t n 0 0 99 s) Mz55 := Qs_cg p1.2.1 (fun i => by rw [hMz55, st_cell (by decide)]) (fun j a b => by rw [hMz55, st_at, if_neg (by omega)])
      have hM1 := hMz55
      refine z_aload_nr dX8_readClause_28 rfl ?_
      refine z_callVi (n2 := 93) (A_X8_takeTo l g Mz55 _ _ ((opN t n 0 0 99 s)) (q1) (opN_ok hS) (hn)) cb_X8_takeTo cl_X8_242 (clr0 rfl rfl (by decide) (by decide)) rfl (by decide) ⟨_, rfl, rfl⟩ rfl (by decide) rfl (Nat.le_of_ble_eq_true rfl) rfl dX8_readClause_29 (fun x56 Mz56 bx56 kMz56 hc56 => ?_)
      have p2 := hc56
      refine z_istore_n (loc2 := [fr 60, fi which, fi x56]) dX8_readClause_32 (by decide) rfl ?_
      refine z_aload_nr dX8_readClause_33 rfl ?_
      refine z_aload_nr dX8_readClause_34 rfl ?_
      refine z_aload_nr dX8_readClause_35 rfl ?_
      refine z_geti (kz := 27) fl_X8_258 rfl (by decide) rfl dX8_readClause_36 (fun x57 hx57 bx57 => ?_)
      refine z_bipush dX8_readClause_39 ⟨by decide, by decide⟩ (by decide) ?_
      refine z_iconst dX8_readClause_41 ⟨by decide, by decide⟩ ?_
      obtain ⟨lz, hlz⟩ : ∃ z, z = x57 := ⟨_, rfl⟩
      have hl2 := hx57
      rw [p2.1 60 27 (by omega), hM1, st_same] at hl2
      refine z_callVi (n2 := 93) (A_X8_takeNumber l g Mz56 x57 99 0 _ _ ((opW t n 6 (opN t n 0 0 99 s))) (p2.2) (opW_ok (by decide) (opN_ok hS)) (hn) (by omega)) cb_X8_takeNumber cl_X8_238 (clr0 rfl rfl (by decide) (by decide)) rfl (by decide) ⟨_, rfl, rfl⟩ rfl (by decide) rfl (Nat.le_of_ble_eq_true rfl) rfl dX8_readClause_42 (fun x58 Mz58 bx58 kMz58 hc58 => ?_)
      have p3 := hc58
      refine z_puti (kz := 28) fl_X8_261 rfl (by decide) rfl nr_60_28 dX8_readClause_45 (fun Mz59 hMz59 => ?_)
      obtain ⟨e9, he9⟩ : ∃ z, z = opT t n 0 99 (opW t n 6 (opN t n 0 0 99 s)) := ⟨_, rfl⟩
      have heq : opN t n 0 lz 99 (opW t n 6 (opN t n 0 0 99 s)) = e9 := by
        rw [he9]
        by_cases e : (opN t n 0 0 99 s).1.1 = 0
        · unfold opT
          have hv := opN_v (t := t) (n := n) (sg := 0) (lo := 0) (hi := 99) (s := s) hS e
          have hw := (opW_v (t := t) (n := n) (j := 6) (s := (opN t n 0 0 99 s))).1
          rw [hlz, hl2, hx1 e, hw, hv.2.1, show s.2.1 + 1 - 1 = s.2.1 by omega]
        · rw [opW_f e, opN_f e, opT_f e]
      rw [← hlz, heq] at p3
      have fb := Qs_f p3.2.1
      have q9 : Qs t n e9 Mz59 := Qs_cg p3.2.1 (fun i => by rw [hMz59, st_cell (by decide)]) (fun j a b => by rw [hMz59, st_at, if_neg (by omega)])
      have ok9 : SOk n e9 := by rw [he9]; exact opT_ok (opW_ok (by decide) (opN_ok hS))
      have hoD : ∀ b j, ¬ (b = 60 ∧ (j = 27 ∨ j = 28 ∨ (36 ≤ j ∧ j ≤ 40))) → Mz59 b j = M b j := fun b j u => by
        rw [hMz59]; unfold st; rw [if_neg (by omega), p3.1 b j (by omega), p2.1 b j (by omega), hM1]; unfold st; rw [if_neg (by omega)]; exact p1.1 b j (by omega)
      have o9 : offK M Mz59 := fun b j u1 u2 => hoD b j (by omega)
      have d9 : e9.1.1 = 0 → DrP (dm Mz59) (eff which e9.2.2 (abv t n (opN t n 0 0 9 s)) (dm M)) := fun z => by
        have h3 := p3.2.2 z
        have hv := opN_v (t := t) (n := n) (sg := 0) (lo := lz) (hi := 99) (s := (opW t n 6 (opN t n 0 0 99 s))) (opW_ok (by decide) (opN_ok hS)) (by rw [heq]; exact z)
        rw [heq] at hv
        have hw := opW_v (t := t) (n := n) (j := 6) (s := (opN t n 0 0 99 s))
        have f1 := hw.2 hv.1
        have hv1 := opN_v (t := t) (n := n) (sg := 0) (lo := 0) (hi := 99) (s := s) hS f1
        rw [hz] at hv1
        have h1 := hx1 f1
        rw [hz] at h1
        have w2 : ∀ i, (opW t n 6 (opN t n 0 0 99 s)).2.2 i = (opN t n 0 0 99 s).2.2 i := fun i => by rw [hw.1]
        have c2 : (opW t n 6 (opN t n 0 0 99 s)).2.1 = 1 := by rw [hw.1]; omega
        rw [c2] at h3 hv
        have a0 := hv.2.2.2.2 0 (by decide)
        rw [w2] at a0
        rw [show which = 1 by omega]
        refine dm_dust hoD ?_ ?_
        · rw [hMz59, st_at, if_neg (by decide), p3.1 60 27 (by omega), p2.1 60 27 (by omega), hM1, st_same, h1, a0]
        · rw [hMz59, st_same]; exact h3
      have hC : clM t n which s = opE t n e9 := by
        unfold clM
        rw [if_neg (by omega), if_pos (by omega), he9]
        rfl
      refine z_goto (tgt := 88) dX8_readClause_48 (by decide) ?_
      refine z_aload_nr dX8_readClause_88 rfl ?_
      refine z_geti (kz := 37) fl_X8_205 rfl (by decide) rfl dX8_readClause_89 (fun x60 hx60 bx60 => ?_)
      rw [hMz59, st_at, if_neg (by decide)] at hx60
      refine z_if_ne (tgt := 132) dX8_readClause_92 (by decide) (fun c61 => ?_) (fun c61 => ?_)
      · refine z_vret rfl (by decide) rfl (Nat.sub_self _) dX8_readClause_132 ?_
        rw [hC]
        first
        | (have hzz : e9.1.1 ≠ 0 := by have := Qs_f q9; omega
           rw [opE_f hzz]
           exact ⟨o9, q9, fun z => absurd z hzz⟩)
        | (have hend := cl_end (M4 := Mz59) q9 hs9 hhe hhr hgd hwh wt (by rw [hMz59]; congr 1; omega)
           refine ⟨offK_tr o9 (offK_S hend.1), hend.2, fun z => ?_⟩
           have hv := opE_v (t := t) (n := n) (s := e9)
           rw [dm_S hend.1, hv.1]
           exact d9 hs9)
      · have hs9 : e9.1.1 = 0 := by have := Qs_f q9; omega
        have r9 := q9.2.2.2.1 hs9
        have b9 := ok9 hs9
        have n9 := q9.2.1
        obtain ⟨Ma, hMa⟩ : ∃ z, z = Mz59 := ⟨_, rfl⟩
        refine z_aload_nr dX8_readClause_95 rfl ?_
        refine z_callVi (n2 := 93) (A_X8_here l g Mz59 (by omega) (by omega)) cb_X8_here cl_X8_208 (clr0 rfl rfl (by decide) (by decide)) rfl (by decide) ⟨_, rfl, rfl⟩ rfl (by decide) rfl (Nat.le_of_ble_eq_true rfl) rfl dX8_readClause_96 (fun x62 Mz62 bx62 kMz62 hc62 => ?_)
        have hhe := hc62.1
        have hhr := hc62.2
        rw [q9.1, q9.2.1, r9.1] at hhe hhr
        obtain ⟨Mh, hMh⟩ : ∃ z, z = Mz62 := ⟨_, rfl⟩
        have hat : Mz62 60 36 = sk t n e9.1.2.2 := by rw [hhe]; exact st_same _ _ _ _
        have htx : Ma 85 (sk t n e9.1.2.2) = t (sk t n e9.1.2.2) := by rw [hMa]; exact congrFun q9.1 _
        rw [← hMa, htx] at hhr
        refine z_istore_n (loc2 := [fr 60, fi which, fi x62]) dX8_readClause_99 (by decide) rfl ?_
        refine z_aload_nr dX8_readClause_100 rfl ?_
        refine z_dup rfl dX8_readClause_101 ?_
        refine z_geti (kz := 36) fl_X8_202 rfl (by decide) rfl dX8_readClause_102 (fun x63 hx63 bx63 => ?_)
        refine z_aload_nr dX8_readClause_105 rfl ?_
        refine z_iload_n dX8_readClause_106 rfl ?_
        refine z_bipush dX8_readClause_107 ⟨by decide, by decide⟩ (by decide) ?_
        refine z_icmp_ne (tgt := 116) dX8_readClause_109 (by decide) (fun c64 => ?_) (fun c64 => ?_)
        · refine z_iconst dX8_readClause_116 ⟨by decide, by decide⟩ ?_
          refine z_iconst dX8_readClause_117 ⟨by decide, by decide⟩ ?_
          refine z_aload_nr dX8_readClause_118 rfl ?_
          refine z_geti (kz := 36) fl_X8_202 rfl (by decide) rfl dX8_readClause_119 (fun x65 hx65 bx65 => ?_)
          have hwh : x65 = sk t n e9.1.2.2 := by omega
          have hgd : ((0 : Int) = 1 ∧ x62 = 59) ∨ ((0 : Int) = 0 ∧ x62 ≠ 59) := by omega
          refine z_callVi (n2 := 93) (A_X8_want l g Mz62 0 1 x65 (by omega) (by decide)) cb_X8_want cl_X8_226 (clr0 rfl rfl (by decide) (by decide)) rfl (by decide) ⟨_, rfl, rfl⟩ rfl (by decide) rfl (Nat.le_of_ble_eq_true rfl) rfl dX8_readClause_122 (fun x66 Mz66 bx66 kMz66 hc66 => ?_)
          have wt := hc66
          have wq : x66 = 0 ∨ x66 = 1 := by rcases wt with z | z <;> omega
          refine z_callSip (n2 := 93) (A_X8_one l g Mz66 x66 (by omega)) cb_X8_one cl_X8_184 (clr0 rfl rfl (by decide) (by decide)) rfl (by decide) rfl (Nat.le_of_ble_eq_true rfl) rfl dX8_readClause_125 (fun x67 bx67 hx67 => ?_)
          first | refine z_iaddN dX8_readClause_128 (by omega) (fun x68 hx68 => ?_) | refine z_iadd dX8_readClause_128 (fun x68 hx68 => ?_)
          refine z_puti (kz := 36) fl_X8_202 rfl (by decide) rfl nr_60_36 dX8_readClause_129 (fun Mz69 hMz69 => ?_)
          refine z_vret rfl (by decide) rfl (Nat.sub_self _) dX8_readClause_132 ?_
          rw [hC]
          first
          | (have hzz : e9.1.1 ≠ 0 := by have := Qs_f q9; omega
             rw [opE_f hzz]
             exact ⟨o9, q9, fun z => absurd z hzz⟩)
          | (have hend := cl_end (M4 := Mz69) q9 hs9 hhe hhr hgd hwh wt (by rw [hMz69]; congr 1; omega)
             refine ⟨offK_tr o9 (offK_S hend.1), hend.2, fun z => ?_⟩
             have hv := opE_v (t := t) (n := n) (s := e9)
             rw [dm_S hend.1, hv.1]
             exact d9 hs9)
        · refine z_iconst dX8_readClause_112 ⟨by decide, by decide⟩ ?_
          refine z_goto (tgt := 117) dX8_readClause_113 (by decide) ?_
          refine z_iconst dX8_readClause_117 ⟨by decide, by decide⟩ ?_
          refine z_aload_nr dX8_readClause_118 rfl ?_
          refine z_geti (kz := 36) fl_X8_202 rfl (by decide) rfl dX8_readClause_119 (fun x70 hx70 bx70 => ?_)
          have hwh : x70 = sk t n e9.1.2.2 := by omega
          have hgd : ((1 : Int) = 1 ∧ x62 = 59) ∨ ((1 : Int) = 0 ∧ x62 ≠ 59) := by omega
          refine z_callVi (n2 := 93) (A_X8_want l g Mz62 1 1 x70 (by omega) (by decide)) cb_X8_want cl_X8_226 (clr0 rfl rfl (by decide) (by decide)) rfl (by decide) ⟨_, rfl, rfl⟩ rfl (by decide) rfl (Nat.le_of_ble_eq_true rfl) rfl dX8_readClause_122 (fun x71 Mz71 bx71 kMz71 hc71 => ?_)
          have wt := hc71
          have wq : x71 = 0 ∨ x71 = 1 := by rcases wt with z | z <;> omega
          refine z_callSip (n2 := 93) (A_X8_one l g Mz71 x71 (by omega)) cb_X8_one cl_X8_184 (clr0 rfl rfl (by decide) (by decide)) rfl (by decide) rfl (Nat.le_of_ble_eq_true rfl) rfl dX8_readClause_125 (fun x72 bx72 hx72 => ?_)
          first | refine z_iaddN dX8_readClause_128 (by omega) (fun x73 hx73 => ?_) | refine z_iadd dX8_readClause_128 (fun x73 hx73 => ?_)
          refine z_puti (kz := 36) fl_X8_202 rfl (by decide) rfl nr_60_36 dX8_readClause_129 (fun Mz74 hMz74 => ?_)
          refine z_vret rfl (by decide) rfl (Nat.sub_self _) dX8_readClause_132 ?_
          rw [hC]
          first
          | (have hzz : e9.1.1 ≠ 0 := by have := Qs_f q9; omega
             rw [opE_f hzz]
             exact ⟨o9, q9, fun z => absurd z hzz⟩)
          | (have hend := cl_end (M4 := Mz74) q9 hs9 hhe hhr hgd hwh wt (by rw [hMz74]; congr 1; omega)
             refine ⟨offK_tr o9 (offK_S hend.1), hend.2, fun z => ?_⟩
             have hv := opE_v (t := t) (n := n) (s := e9)
             rw [dm_S hend.1, hv.1]
             exact d9 hs9)
  · refine z_aload_nr dX8_readClause_4 rfl ?_
    refine z_callVv (n2 := 93) (A_X8_readSort l g M _ _ (s) (hQ) (hS) (hn) (hz)) cb_X8_readSort cl_X8_255 (clr0 rfl rfl (by decide) (by decide)) rfl (by decide) ⟨_, rfl, rfl⟩ rfl (by decide) rfl (Nat.le_of_ble_eq_true rfl) rfl dX8_readClause_5 (fun Mz75 kMz75 hc75 => ?_)
    have p1 := hc75
    obtain ⟨e9, he9⟩ : ∃ z, z = srS t n s := ⟨_, rfl⟩
    rw [← he9] at p1
    have q9 := p1.2.1
    have ok9 : SOk n e9 := by rw [he9]; unfold srS; exact srT_ok (opW_ok (by decide) (srT_ok (opW_ok (by decide) (opN_ok hS))))
    have o9 : offK M Mz75 := fun b j u1 u2 => p1.1 b j (by omega) (by omega)
    have d9 : e9.1.1 = 0 → DrP (dm Mz75) (eff which e9.2.2 (abv t n (opN t n 0 0 9 s)) (dm M)) := fun z => by
      have := p1.2.2 z
      rw [show which = 0 by omega]
      exact dm_sort p1.1 this.1 this.2
    have hC : clM t n which s = opE t n e9 := by
      unfold clM
      rw [if_pos (by omega), he9]
      rfl
    refine z_goto (tgt := 88) dX8_readClause_8 (by decide) ?_
    refine z_aload_nr dX8_readClause_88 rfl ?_
    refine z_geti (kz := 37) fl_X8_205 rfl (by decide) rfl dX8_readClause_89 (fun x76 hx76 bx76 => ?_)
    refine z_if_ne (tgt := 132) dX8_readClause_92 (by decide) (fun c77 => ?_) (fun c77 => ?_)
    · refine z_vret rfl (by decide) rfl (Nat.sub_self _) dX8_readClause_132 ?_
      rw [hC]
      first
      | (have hzz : e9.1.1 ≠ 0 := by have := Qs_f q9; omega
         rw [opE_f hzz]
         exact ⟨o9, q9, fun z => absurd z hzz⟩)
      | (have hend := cl_end (M4 := Mz75) q9 hs9 hhe hhr hgd hwh wt (by rw [hNONE]; congr 1; omega)
         refine ⟨offK_tr o9 (offK_S hend.1), hend.2, fun z => ?_⟩
         have hv := opE_v (t := t) (n := n) (s := e9)
         rw [dm_S hend.1, hv.1]
         exact d9 hs9)
    · have hs9 : e9.1.1 = 0 := by have := Qs_f q9; omega
      have r9 := q9.2.2.2.1 hs9
      have b9 := ok9 hs9
      have n9 := q9.2.1
      obtain ⟨Ma, hMa⟩ : ∃ z, z = Mz75 := ⟨_, rfl⟩
      refine z_aload_nr dX8_readClause_95 rfl ?_
      refine z_callVi (n2 := 93) (A_X8_here l g Mz75 (by omega) (by omega)) cb_X8_here cl_X8_208 (clr0 rfl rfl (by decide) (by decide)) rfl (by decide) ⟨_, rfl, rfl⟩ rfl (by decide) rfl (Nat.le_of_ble_eq_true rfl) rfl dX8_readClause_96 (fun x78 Mz78 bx78 kMz78 hc78 => ?_)
      have hhe := hc78.1
      have hhr := hc78.2
      rw [q9.1, q9.2.1, r9.1] at hhe hhr
      obtain ⟨Mh, hMh⟩ : ∃ z, z = Mz78 := ⟨_, rfl⟩
      have hat : Mz78 60 36 = sk t n e9.1.2.2 := by rw [hhe]; exact st_same _ _ _ _
      have htx : Ma 85 (sk t n e9.1.2.2) = t (sk t n e9.1.2.2) := by rw [hMa]; exact congrFun q9.1 _
      rw [← hMa, htx] at hhr
      refine z_istore_n (loc2 := [fr 60, fi which, fi x78]) dX8_readClause_99 (by decide) rfl ?_
      refine z_aload_nr dX8_readClause_100 rfl ?_
      refine z_dup rfl dX8_readClause_101 ?_
      refine z_geti (kz := 36) fl_X8_202 rfl (by decide) rfl dX8_readClause_102 (fun x79 hx79 bx79 => ?_)
      refine z_aload_nr dX8_readClause_105 rfl ?_
      refine z_iload_n dX8_readClause_106 rfl ?_
      refine z_bipush dX8_readClause_107 ⟨by decide, by decide⟩ (by decide) ?_
      refine z_icmp_ne (tgt := 116) dX8_readClause_109 (by decide) (fun c80 => ?_) (fun c80 => ?_)
      · refine z_iconst dX8_readClause_116 ⟨by decide, by decide⟩ ?_
        refine z_iconst dX8_readClause_117 ⟨by decide, by decide⟩ ?_
        refine z_aload_nr dX8_readClause_118 rfl ?_
        refine z_geti (kz := 36) fl_X8_202 rfl (by decide) rfl dX8_readClause_119 (fun x81 hx81 bx81 => ?_)
        have hwh : x81 = sk t n e9.1.2.2 := by omega
        have hgd : ((0 : Int) = 1 ∧ x78 = 59) ∨ ((0 : Int) = 0 ∧ x78 ≠ 59) := by omega
        refine z_callVi (n2 := 93) (A_X8_want l g Mz78 0 1 x81 (by omega) (by decide)) cb_X8_want cl_X8_226 (clr0 rfl rfl (by decide) (by decide)) rfl (by decide) ⟨_, rfl, rfl⟩ rfl (by decide) rfl (Nat.le_of_ble_eq_true rfl) rfl dX8_readClause_122 (fun x82 Mz82 bx82 kMz82 hc82 => ?_)
        have wt := hc82
        have wq : x82 = 0 ∨ x82 = 1 := by rcases wt with z | z <;> omega
        refine z_callSip (n2 := 93) (A_X8_one l g Mz82 x82 (by omega)) cb_X8_one cl_X8_184 (clr0 rfl rfl (by decide) (by decide)) rfl (by decide) rfl (Nat.le_of_ble_eq_true rfl) rfl dX8_readClause_125 (fun x83 bx83 hx83 => ?_)
        first | refine z_iaddN dX8_readClause_128 (by omega) (fun x84 hx84 => ?_) | refine z_iadd dX8_readClause_128 (fun x84 hx84 => ?_)
        refine z_puti (kz := 36) fl_X8_202 rfl (by decide) rfl nr_60_36 dX8_readClause_129 (fun Mz85 hMz85 => ?_)
        refine z_vret rfl (by decide) rfl (Nat.sub_self _) dX8_readClause_132 ?_
        rw [hC]
        first
        | (have hzz : e9.1.1 ≠ 0 := by have := Qs_f q9; omega
           rw [opE_f hzz]
           exact ⟨o9, q9, fun z => absurd z hzz⟩)
        | (have hend := cl_end (M4 := Mz85) q9 hs9 hhe hhr hgd hwh wt (by rw [hMz85]; congr 1; omega)
           refine ⟨offK_tr o9 (offK_S hend.1), hend.2, fun z => ?_⟩
           have hv := opE_v (t := t) (n := n) (s := e9)
           rw [dm_S hend.1, hv.1]
           exact d9 hs9)
      · refine z_iconst dX8_readClause_112 ⟨by decide, by decide⟩ ?_
        refine z_goto (tgt := 117) dX8_readClause_113 (by decide) ?_
        refine z_iconst dX8_readClause_117 ⟨by decide, by decide⟩ ?_
        refine z_aload_nr dX8_readClause_118 rfl ?_
        refine z_geti (kz := 36) fl_X8_202 rfl (by decide) rfl dX8_readClause_119 (fun x86 hx86 bx86 => ?_)
        have hwh : x86 = sk t n e9.1.2.2 := by omega
        have hgd : ((1 : Int) = 1 ∧ x78 = 59) ∨ ((1 : Int) = 0 ∧ x78 ≠ 59) := by omega
        refine z_callVi (n2 := 93) (A_X8_want l g Mz78 1 1 x86 (by omega) (by decide)) cb_X8_want cl_X8_226 (clr0 rfl rfl (by decide) (by decide)) rfl (by decide) ⟨_, rfl, rfl⟩ rfl (by decide) rfl (Nat.le_of_ble_eq_true rfl) rfl dX8_readClause_122 (fun x87 Mz87 bx87 kMz87 hc87 => ?_)
        have wt := hc87
        have wq : x87 = 0 ∨ x87 = 1 := by rcases wt with z | z <;> omega
        refine z_callSip (n2 := 93) (A_X8_one l g Mz87 x87 (by omega)) cb_X8_one cl_X8_184 (clr0 rfl rfl (by decide) (by decide)) rfl (by decide) rfl (Nat.le_of_ble_eq_true rfl) rfl dX8_readClause_125 (fun x88 bx88 hx88 => ?_)
        first | refine z_iaddN dX8_readClause_128 (by omega) (fun x89 hx89 => ?_) | refine z_iadd dX8_readClause_128 (fun x89 hx89 => ?_)
        refine z_puti (kz := 36) fl_X8_202 rfl (by decide) rfl nr_60_36 dX8_readClause_129 (fun Mz90 hMz90 => ?_)
        refine z_vret rfl (by decide) rfl (Nat.sub_self _) dX8_readClause_132 ?_
        rw [hC]
        first
        | (have hzz : e9.1.1 ≠ 0 := by have := Qs_f q9; omega
           rw [opE_f hzz]
           exact ⟨o9, q9, fun z => absurd z hzz⟩)
        | (have hend := cl_end (M4 := Mz90) q9 hs9 hhe hhr hgd hwh wt (by rw [hMz90]; congr 1; omega)
           refine ⟨offK_tr o9 (offK_S hend.1), hend.2, fun z => ?_⟩
           have hv := opE_v (t := t) (n := n) (s := e9)
           rw [dm_S hend.1, hv.1]
           exact d9 hs9)
