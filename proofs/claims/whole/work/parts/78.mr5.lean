/-! ===== the reference's reader: sorts, blurs, claims ===== -/
set_option maxHeartbeats 3200000 in
theorem A_X8_readSort (l : Launch) (g : Cx) (M : FMem) (t : Int → Int) (n : Int) (s : PS) (hQ : Qs t n s M) (hS : SOk n s) (hn : 0 ≤ n ∧ n ≤ 240) (hz : s.2.1 = 0) : AMv l g true fi_X8_readSort [fr 60] 93 M (fun M2 => off80 M M2 ∧ Qs t n (srS t n s) M2 ∧ ((srS t n s).1.1 = 0 → (0 ≤ (srS t n s).2.2 0 ∧ (srS t n s).2.2 0 ≤ 5) ∧ ∀ j, M2 80 j = if j = 4 * (srS t n s).2.2 0 + 3 then (srS t n s).2.2 4 else if j = 4 * (srS t n s).2.2 0 + 2 then (srS t n s).2.2 3 else if j = 4 * (srS t n s).2.2 0 + 1 then (srS t n s).2.2 2 else if j = 4 * (srS t n s).2.2 0 then (srS t n s).2.2 1 else M 80 j)) := by
  refine AMv_intro [fr 60, fu, fu] (by decide) (knall rfl) (Nat.le_of_ble_eq_true rfl) rfl ?_
  intro hNV hM0 μ
  refine z_aload_nr dX8_readSort_0 rfl ?_
  refine z_iconst dX8_readSort_1 ⟨by decide, by decide⟩ ?_
  refine z_iconst dX8_readSort_2 ⟨by decide, by decide⟩ ?_
  refine z_iconst dX8_readSort_3 ⟨by decide, by decide⟩ ?_
  refine z_callVi (n2 := 93) (A_X8_takeNumber l g M 0 5 0 _ _ (s) (hQ) (hS) (hn) (by omega)) cb_X8_takeNumber cl_X8_238 (clr0 rfl rfl (by decide) (by decide)) rfl (by decide) ⟨_, rfl, rfl⟩ rfl (by decide) rfl (Nat.le_of_ble_eq_true rfl) rfl dX8_readSort_4 (fun x1 Mz1 bx1 kMz1 hc1 => ?_)
  have p1 := hc1
  obtain ⟨e1, he1⟩ : ∃ z, z = opN t n 0 0 5 s := ⟨_, rfl⟩
  rw [← he1] at p1
  have q1 := p1.2.1
  have ok1 : SOk n e1 := by rw [he1]; exact opN_ok hS
  have o1 := off80_S p1.1
  refine z_istore_n (loc2 := [fr 60, fi x1, fu]) dX8_readSort_7 (by decide) rfl ?_
  refine z_aload_nr dX8_readSort_8 rfl ?_
  refine z_geti (kz := 37) fl_X8_205 rfl (by decide) rfl dX8_readSort_9 (fun x2 hx2 bx2 => ?_)
  refine z_if_ne (tgt := 44) dX8_readSort_12 (by decide) (fun c3 => ?_) (fun c3 => ?_)
  · refine z_aload_nr dX8_readSort_44 rfl ?_
    refine z_geti (kz := 37) fl_X8_205 rfl (by decide) rfl dX8_readSort_45 (fun x4 hx4 bx4 => ?_)
    refine z_if_ne (tgt := 58) dX8_readSort_48 (by decide) (fun c5 => ?_) (fun c5 => ?_)
    · refine z_aload_nr dX8_readSort_58 rfl ?_
      refine z_geti (kz := 37) fl_X8_205 rfl (by decide) rfl dX8_readSort_59 (fun x6 hx6 bx6 => ?_)
      refine z_if_ne (tgt := 97) dX8_readSort_62 (by decide) (fun c7 => ?_) (fun c7 => ?_)
      · refine z_aload_nr dX8_readSort_97 rfl ?_
        refine z_geti (kz := 37) fl_X8_205 rfl (by decide) rfl dX8_readSort_98 (fun x8 hx8 bx8 => ?_)
        refine z_if_ne (tgt := 113) dX8_readSort_101 (by decide) (fun c9 => ?_) (fun c9 => ?_)
        · refine z_vret rfl (by decide) rfl (Nat.sub_self _) dX8_readSort_113 ?_
          first
          | (have hC : srS t n s = e5 := by unfold srS; rw [← he1, ← he2, ← he3, ← he4, ← he5]
             rw [hC]
             refine ⟨o5, q5, fun hz5 => ?_⟩
             have v5 := srT_v ok4 (by rw [← he5]; exact hz5)
             rw [← he5, c4] at v5
             have a0 := v5.2.2.2 0 (by decide)
             have a1 := v5.2.2.2 1 (by decide)
             have a2 := v5.2.2.2 2 (by decide)
             have b0 := v3.2.2.2 0 (by decide)
             rw [w4] at a0 a1 a2
             rw [w2] at b0
             have f3 := p3.2.2 hs3
             have f5 := p5.2.2 hz5
             rw [c2] at f3
             rw [c4] at f5
             refine ⟨by omega, fun j => ?_⟩
             rw [f5 j, p4.1 80 j (by omega), f3 j, p2.1 80 j (by omega), p1.1 80 j (by omega)]
             rw [a1, a2]
             have hL : e5.2.2 0 = e1.2.2 0 := by omega
             rw [hL]
             by_cases z3 : j = 4 * e1.2.2 0 + 3
             · rw [if_pos (by omega), if_pos z3]; rfl
             · rw [if_neg (by omega), if_neg z3]
               by_cases z2 : j = 4 * e1.2.2 0 + 2
               · rw [if_pos (by omega), if_pos z2]
               · rw [if_neg (by omega), if_neg z2]
                 by_cases z1 : j = 4 * e1.2.2 0 + 1
                 · rw [if_pos (by omega), if_pos z1]; rfl
                 · rw [if_neg (by omega), if_neg z1]
                   by_cases z0 : j = 4 * e1.2.2 0
                   · rw [if_pos (by omega), if_pos z0]
                   · rw [if_neg (by omega), if_neg z0])
          | (have hz4 : e4.1.1 ≠ 0 := by rw [← Qs_f q4]; omega
             have hC : srS t n s = e4 := by unfold srS; rw [← he1, ← he2, ← he3, ← he4, srT_f hz4]
             rw [hC]
             exact ⟨o4, q4, fun z => absurd z hz4⟩)
          | (have hz3 : e3.1.1 ≠ 0 := by rw [← Qs_f q3]; omega
             have hC : srS t n s = e3 := by unfold srS; rw [← he1, ← he2, ← he3, opW_f hz3, srT_f hz3]
             rw [hC]
             exact ⟨o3, q3, fun z => absurd z hz3⟩)
          | (have hz2 : e2.1.1 ≠ 0 := by rw [← Qs_f q2]; omega
             have hC : srS t n s = e2 := by unfold srS; rw [← he1, ← he2, srT_f hz2, opW_f hz2, srT_f hz2]
             rw [hC]
             exact ⟨o2, q2, fun z => absurd z hz2⟩)
          | (have hz1 : e1.1.1 ≠ 0 := by rw [← Qs_f q1]; omega
             have hC : srS t n s = e1 := by unfold srS; rw [← he1, opW_f hz1, srT_f hz1, opW_f hz1, srT_f hz1]
             rw [hC]
             exact ⟨o1, q1, fun z => absurd z hz1⟩)
        · exfalso; omega
      · exfalso; omega
    · exfalso; omega
  · have hs1 : e1.1.1 = 0 := by rw [← Qs_f q1]; omega
    have hv1 := opN_v (t := t) (n := n) (sg := 0) (lo := 0) (hi := 5) (s := s) hS (by rw [← he1]; exact hs1)
    rw [← he1, hz] at hv1
    have hl1 := p1.2.2 hs1
    rw [hz] at hl1
    have r1 := q1.2.2.2.1 hs1
    have b1 := ok1 hs1
    have n1 := q1.2.1
    refine z_aload_nr dX8_readSort_15 rfl ?_
    refine z_callVv (n2 := 93) (A_X8_takeWord l g Mz1 (by omega) (by omega)) cb_X8_takeWord cl_X8_231 (clr0 rfl rfl (by decide) (by decide)) rfl (by decide) ⟨_, rfl, rfl⟩ rfl (by decide) rfl (Nat.le_of_ble_eq_true rfl) rfl dX8_readSort_16 (fun Mz10 kMz10 hc10 => ?_)
    have tw1 := hc10
    have wp := word_pre q1 hs1 ok1 hn tw1
    refine z_aload_nr dX8_readSort_19 rfl ?_
    refine z_aload_nr dX8_readSort_20 rfl ?_
    refine z_iconst dX8_readSort_21 ⟨by decide, by decide⟩ ?_
    refine z_bipush dX8_readSort_22 ⟨by decide, by decide⟩ (by decide) ?_
    refine z_bipush dX8_readSort_24 ⟨by decide, by decide⟩ (by decide) ?_
    refine z_bipush dX8_readSort_26 ⟨by decide, by decide⟩ (by decide) ?_
    refine z_bipush dX8_readSort_28 ⟨by decide, by decide⟩ (by decide) ?_
    refine z_iconst dX8_readSort_30 ⟨by decide, by decide⟩ ?_
    refine z_iconst dX8_readSort_31 ⟨by decide, by decide⟩ ?_
    refine z_callVip (n2 := 93) (A_X8_isWord l g Mz10 4 116 105 109 101 0 0 5 (by decide) (cdw_5.1) (cdw_5.2) (wp.1) (wp.2.1) (wp.2.2.1) (wp.2.2.2)) cb_X8_isWord cl_X8_234 (clr0 rfl rfl (by decide) (by decide)) rfl (by decide) ⟨_, rfl, rfl⟩ rfl (by decide) rfl (Nat.le_of_ble_eq_true rfl) rfl dX8_readSort_32 (fun x11 bx11 hx11 => ?_)
    have iw := hx11
    refine z_iconst dX8_readSort_35 ⟨by decide, by decide⟩ ?_
    refine z_aload_nr dX8_readSort_36 rfl ?_
    refine z_geti (kz := 39) fl_X8_212 rfl (by decide) rfl dX8_readSort_37 (fun x12 hx12 bx12 => ?_)
    have hwf := hx12
    refine z_callVi (n2 := 93) (A_X8_want l g Mz10 x11 1 x12 (by omega) (by decide)) cb_X8_want cl_X8_226 (clr0 rfl rfl (by decide) (by decide)) rfl (by decide) ⟨_, rfl, rfl⟩ rfl (by decide) rfl (Nat.le_of_ble_eq_true rfl) rfl dX8_readSort_40 (fun x13 Mz13 bx13 kMz13 hc13 => ?_)
    have wt := hc13
    have p2 := word_op (j := 5) (by decide) q1 hs1 ok1 tw1 iw hwf wt
    obtain ⟨e2, he2⟩ : ∃ z, z = opW t n 5 e1 := ⟨_, rfl⟩
    rw [← he2] at p2
    have q2 := p2.2
    have ok2 : SOk n e2 := by rw [he2]; exact opW_ok (by decide) ok1
    have o2 := off80_tr o1 (off80_S p2.1)
    refine z_istore_n (loc2 := [fr 60, fi x1, fi x13]) dX8_readSort_43 (by decide) rfl ?_
    refine z_aload_nr dX8_readSort_44 rfl ?_
    refine z_geti (kz := 37) fl_X8_205 rfl (by decide) rfl dX8_readSort_45 (fun x14 hx14 bx14 => ?_)
    refine z_if_ne (tgt := 58) dX8_readSort_48 (by decide) (fun c15 => ?_) (fun c15 => ?_)
    · refine z_aload_nr dX8_readSort_58 rfl ?_
      refine z_geti (kz := 37) fl_X8_205 rfl (by decide) rfl dX8_readSort_59 (fun x16 hx16 bx16 => ?_)
      refine z_if_ne (tgt := 97) dX8_readSort_62 (by decide) (fun c17 => ?_) (fun c17 => ?_)
      · refine z_aload_nr dX8_readSort_97 rfl ?_
        refine z_geti (kz := 37) fl_X8_205 rfl (by decide) rfl dX8_readSort_98 (fun x18 hx18 bx18 => ?_)
        refine z_if_ne (tgt := 113) dX8_readSort_101 (by decide) (fun c19 => ?_) (fun c19 => ?_)
        · refine z_vret rfl (by decide) rfl (Nat.sub_self _) dX8_readSort_113 ?_
          first
          | (have hC : srS t n s = e5 := by unfold srS; rw [← he1, ← he2, ← he3, ← he4, ← he5]
             rw [hC]
             refine ⟨o5, q5, fun hz5 => ?_⟩
             have v5 := srT_v ok4 (by rw [← he5]; exact hz5)
             rw [← he5, c4] at v5
             have a0 := v5.2.2.2 0 (by decide)
             have a1 := v5.2.2.2 1 (by decide)
             have a2 := v5.2.2.2 2 (by decide)
             have b0 := v3.2.2.2 0 (by decide)
             rw [w4] at a0 a1 a2
             rw [w2] at b0
             have f3 := p3.2.2 hs3
             have f5 := p5.2.2 hz5
             rw [c2] at f3
             rw [c4] at f5
             refine ⟨by omega, fun j => ?_⟩
             rw [f5 j, p4.1 80 j (by omega), f3 j, p2.1 80 j (by omega), p1.1 80 j (by omega)]
             rw [a1, a2]
             have hL : e5.2.2 0 = e1.2.2 0 := by omega
             rw [hL]
             by_cases z3 : j = 4 * e1.2.2 0 + 3
             · rw [if_pos (by omega), if_pos z3]; rfl
             · rw [if_neg (by omega), if_neg z3]
               by_cases z2 : j = 4 * e1.2.2 0 + 2
               · rw [if_pos (by omega), if_pos z2]
               · rw [if_neg (by omega), if_neg z2]
                 by_cases z1 : j = 4 * e1.2.2 0 + 1
                 · rw [if_pos (by omega), if_pos z1]; rfl
                 · rw [if_neg (by omega), if_neg z1]
                   by_cases z0 : j = 4 * e1.2.2 0
                   · rw [if_pos (by omega), if_pos z0]
                   · rw [if_neg (by omega), if_neg z0])
          | (have hz4 : e4.1.1 ≠ 0 := by rw [← Qs_f q4]; omega
             have hC : srS t n s = e4 := by unfold srS; rw [← he1, ← he2, ← he3, ← he4, srT_f hz4]
             rw [hC]
             exact ⟨o4, q4, fun z => absurd z hz4⟩)
          | (have hz3 : e3.1.1 ≠ 0 := by rw [← Qs_f q3]; omega
             have hC : srS t n s = e3 := by unfold srS; rw [← he1, ← he2, ← he3, opW_f hz3, srT_f hz3]
             rw [hC]
             exact ⟨o3, q3, fun z => absurd z hz3⟩)
          | (have hz2 : e2.1.1 ≠ 0 := by rw [← Qs_f q2]; omega
             have hC : srS t n s = e2 := by unfold srS; rw [← he1, ← he2, srT_f hz2, opW_f hz2, srT_f hz2]
             rw [hC]
             exact ⟨o2, q2, fun z => absurd z hz2⟩)
          | (have hz1 : e1.1.1 ≠ 0 := by rw [← Qs_f q1]; omega
             have hC : srS t n s = e1 := by unfold srS; rw [← he1, opW_f hz1, srT_f hz1, opW_f hz1, srT_f hz1]
             rw [hC]
             exact ⟨o1, q1, fun z => absurd z hz1⟩)
        · exfalso; omega
      · exfalso; omega
    · have hs2 : e2.1.1 = 0 := by rw [← Qs_f q2]; omega
      have c2 : e2.2.1 = 1 := by rw [he2, (opW_v (t := t) (n := n)).1]; omega
      have w2 : ∀ i, e2.2.2 i = e1.2.2 i := fun i => by rw [he2, (opW_v (t := t) (n := n)).1]
      refine z_aload_nr dX8_readSort_51 rfl ?_
      refine z_iconst dX8_readSort_52 ⟨by decide, by decide⟩ ?_
      refine z_iload_n dX8_readSort_53 rfl ?_
      first | refine z_imulN dX8_readSort_54 (by omega) (fun x20 hx20 => ?_) | refine z_imul dX8_readSort_54 (fun x20 hx20 => ?_)
      refine z_callVv (n2 := 93) (A_X8_readSpan l g Mz13 x20 _ _ (e2) (q2) (ok2) (hn) (by omega) (by omega)) cb_X8_readSpan cl_X8_246 (clr0 rfl rfl (by decide) (by decide)) rfl (by decide) ⟨_, rfl, rfl⟩ rfl (by decide) rfl (Nat.le_of_ble_eq_true rfl) rfl dX8_readSort_55 (fun Mz21 kMz21 hc21 => ?_)
      have p3 := hc21
      obtain ⟨e3, he3⟩ : ∃ z, z = srT t n e2 := ⟨_, rfl⟩
      rw [← he3] at p3
      have q3 := p3.2.1
      have ok3 : SOk n e3 := by rw [he3]; exact srT_ok ok2
      have o3 := off80_tr o2 p3.1
      refine z_aload_nr dX8_readSort_58 rfl ?_
      refine z_geti (kz := 37) fl_X8_205 rfl (by decide) rfl dX8_readSort_59 (fun x22 hx22 bx22 => ?_)
      refine z_if_ne (tgt := 97) dX8_readSort_62 (by decide) (fun c23 => ?_) (fun c23 => ?_)
      · refine z_aload_nr dX8_readSort_97 rfl ?_
        refine z_geti (kz := 37) fl_X8_205 rfl (by decide) rfl dX8_readSort_98 (fun x24 hx24 bx24 => ?_)
        refine z_if_ne (tgt := 113) dX8_readSort_101 (by decide) (fun c25 => ?_) (fun c25 => ?_)
        · refine z_vret rfl (by decide) rfl (Nat.sub_self _) dX8_readSort_113 ?_
          first
          | (have hC : srS t n s = e5 := by unfold srS; rw [← he1, ← he2, ← he3, ← he4, ← he5]
             rw [hC]
             refine ⟨o5, q5, fun hz5 => ?_⟩
             have v5 := srT_v ok4 (by rw [← he5]; exact hz5)
             rw [← he5, c4] at v5
             have a0 := v5.2.2.2 0 (by decide)
             have a1 := v5.2.2.2 1 (by decide)
             have a2 := v5.2.2.2 2 (by decide)
             have b0 := v3.2.2.2 0 (by decide)
             rw [w4] at a0 a1 a2
             rw [w2] at b0
             have f3 := p3.2.2 hs3
             have f5 := p5.2.2 hz5
             rw [c2] at f3
             rw [c4] at f5
             refine ⟨by omega, fun j => ?_⟩
             rw [f5 j, p4.1 80 j (by omega), f3 j, p2.1 80 j (by omega), p1.1 80 j (by omega)]
             rw [a1, a2]
             have hL : e5.2.2 0 = e1.2.2 0 := by omega
             rw [hL]
             by_cases z3 : j = 4 * e1.2.2 0 + 3
             · rw [if_pos (by omega), if_pos z3]; rfl
             · rw [if_neg (by omega), if_neg z3]
               by_cases z2 : j = 4 * e1.2.2 0 + 2
               · rw [if_pos (by omega), if_pos z2]
               · rw [if_neg (by omega), if_neg z2]
                 by_cases z1 : j = 4 * e1.2.2 0 + 1
                 · rw [if_pos (by omega), if_pos z1]; rfl
                 · rw [if_neg (by omega), if_neg z1]
                   by_cases z0 : j = 4 * e1.2.2 0
                   · rw [if_pos (by omega), if_pos z0]
                   · rw [if_neg (by omega), if_neg z0])
          | (have hz4 : e4.1.1 ≠ 0 := by rw [← Qs_f q4]; omega
             have hC : srS t n s = e4 := by unfold srS; rw [← he1, ← he2, ← he3, ← he4, srT_f hz4]
             rw [hC]
             exact ⟨o4, q4, fun z => absurd z hz4⟩)
          | (have hz3 : e3.1.1 ≠ 0 := by rw [← Qs_f q3]; omega
             have hC : srS t n s = e3 := by unfold srS; rw [← he1, ← he2, ← he3, opW_f hz3, srT_f hz3]
             rw [hC]
             exact ⟨o3, q3, fun z => absurd z hz3⟩)
          | (have hz2 : e2.1.1 ≠ 0 := by rw [← Qs_f q2]; omega
             have hC : srS t n s = e2 := by unfold srS; rw [← he1, ← he2, srT_f hz2, opW_f hz2, srT_f hz2]
             rw [hC]
             exact ⟨o2, q2, fun z => absurd z hz2⟩)
          | (have hz1 : e1.1.1 ≠ 0 := by rw [← Qs_f q1]; omega
             have hC : srS t n s = e1 := by unfold srS; rw [← he1, opW_f hz1, srT_f hz1, opW_f hz1, srT_f hz1]
             rw [hC]
             exact ⟨o1, q1, fun z => absurd z hz1⟩)
        · exfalso; omega
      · have hs3 : e3.1.1 = 0 := by rw [← Qs_f q3]; omega
        have v3 := srT_v ok2 (by rw [← he3]; exact hs3)
        rw [← he3, c2] at v3
        have r3 := q3.2.2.2.1 hs3
        have b3 := ok3 hs3
        have n3 := q3.2.1
        refine z_aload_nr dX8_readSort_65 rfl ?_
        refine z_callVv (n2 := 93) (A_X8_takeWord l g Mz21 (by omega) (by omega)) cb_X8_takeWord cl_X8_231 (clr0 rfl rfl (by decide) (by decide)) rfl (by decide) ⟨_, rfl, rfl⟩ rfl (by decide) rfl (Nat.le_of_ble_eq_true rfl) rfl dX8_readSort_66 (fun Mz26 kMz26 hc26 => ?_)
        have tw3 := hc26
        have wp := word_pre q3 hs3 ok3 hn tw3
        refine z_aload_nr dX8_readSort_69 rfl ?_
        refine z_aload_nr dX8_readSort_70 rfl ?_
        refine z_bipush dX8_readSort_71 ⟨by decide, by decide⟩ (by decide) ?_
        refine z_bipush dX8_readSort_73 ⟨by decide, by decide⟩ (by decide) ?_
        refine z_bipush dX8_readSort_75 ⟨by decide, by decide⟩ (by decide) ?_
        refine z_bipush dX8_readSort_77 ⟨by decide, by decide⟩ (by decide) ?_
        refine z_bipush dX8_readSort_79 ⟨by decide, by decide⟩ (by decide) ?_
        refine z_bipush dX8_readSort_81 ⟨by decide, by decide⟩ (by decide) ?_
        refine z_bipush dX8_readSort_83 ⟨by decide, by decide⟩ (by decide) ?_
        refine z_callVip (n2 := 93) (A_X8_isWord l g Mz26 6 99 111 108 111 117 114 7 (by decide) (cdw_7.1) (cdw_7.2) (wp.1) (wp.2.1) (wp.2.2.1) (wp.2.2.2)) cb_X8_isWord cl_X8_234 (clr0 rfl rfl (by decide) (by decide)) rfl (by decide) ⟨_, rfl, rfl⟩ rfl (by decide) rfl (Nat.le_of_ble_eq_true rfl) rfl dX8_readSort_85 (fun x27 bx27 hx27 => ?_)
        have iw := hx27
        refine z_iconst dX8_readSort_88 ⟨by decide, by decide⟩ ?_
        refine z_aload_nr dX8_readSort_89 rfl ?_
        refine z_geti (kz := 39) fl_X8_212 rfl (by decide) rfl dX8_readSort_90 (fun x28 hx28 bx28 => ?_)
        have hwf := hx28
        refine z_callVi (n2 := 93) (A_X8_want l g Mz26 x27 1 x28 (by omega) (by decide)) cb_X8_want cl_X8_226 (clr0 rfl rfl (by decide) (by decide)) rfl (by decide) ⟨_, rfl, rfl⟩ rfl (by decide) rfl (Nat.le_of_ble_eq_true rfl) rfl dX8_readSort_93 (fun x29 Mz29 bx29 kMz29 hc29 => ?_)
        have wt := hc29
        have p4 := word_op (j := 7) (by decide) q3 hs3 ok3 tw3 iw hwf wt
        obtain ⟨e4, he4⟩ : ∃ z, z = opW t n 7 e3 := ⟨_, rfl⟩
        rw [← he4] at p4
        have q4 := p4.2
        have ok4 : SOk n e4 := by rw [he4]; exact opW_ok (by decide) ok3
        have o4 := off80_tr o3 (off80_S p4.1)
        refine z_istore_n (loc2 := [fr 60, fi x1, fi x29]) dX8_readSort_96 (by decide) rfl ?_
        refine z_aload_nr dX8_readSort_97 rfl ?_
        refine z_geti (kz := 37) fl_X8_205 rfl (by decide) rfl dX8_readSort_98 (fun x30 hx30 bx30 => ?_)
        refine z_if_ne (tgt := 113) dX8_readSort_101 (by decide) (fun c31 => ?_) (fun c31 => ?_)
        · refine z_vret rfl (by decide) rfl (Nat.sub_self _) dX8_readSort_113 ?_
          first
          | (have hC : srS t n s = e5 := by unfold srS; rw [← he1, ← he2, ← he3, ← he4, ← he5]
             rw [hC]
             refine ⟨o5, q5, fun hz5 => ?_⟩
             have v5 := srT_v ok4 (by rw [← he5]; exact hz5)
             rw [← he5, c4] at v5
             have a0 := v5.2.2.2 0 (by decide)
             have a1 := v5.2.2.2 1 (by decide)
             have a2 := v5.2.2.2 2 (by decide)
             have b0 := v3.2.2.2 0 (by decide)
             rw [w4] at a0 a1 a2
             rw [w2] at b0
             have f3 := p3.2.2 hs3
             have f5 := p5.2.2 hz5
             rw [c2] at f3
             rw [c4] at f5
             refine ⟨by omega, fun j => ?_⟩
             rw [f5 j, p4.1 80 j (by omega), f3 j, p2.1 80 j (by omega), p1.1 80 j (by omega)]
             rw [a1, a2]
             have hL : e5.2.2 0 = e1.2.2 0 := by omega
             rw [hL]
             by_cases z3 : j = 4 * e1.2.2 0 + 3
             · rw [if_pos (by omega), if_pos z3]; rfl
             · rw [if_neg (by omega), if_neg z3]
               by_cases z2 : j = 4 * e1.2.2 0 + 2
               · rw [if_pos (by omega), if_pos z2]
               · rw [if_neg (by omega), if_neg z2]
                 by_cases z1 : j = 4 * e1.2.2 0 + 1
                 · rw [if_pos (by omega), if_pos z1]; rfl
                 · rw [if_neg (by omega), if_neg z1]
                   by_cases z0 : j = 4 * e1.2.2 0
                   · rw [if_pos (by omega), if_pos z0]
                   · rw [if_neg (by omega), if_neg z0])
          | (have hz4 : e4.1.1 ≠ 0 := by rw [← Qs_f q4]; omega
             have hC : srS t n s = e4 := by unfold srS; rw [← he1, ← he2, ← he3, ← he4, srT_f hz4]
             rw [hC]
             exact ⟨o4, q4, fun z => absurd z hz4⟩)
          | (have hz3 : e3.1.1 ≠ 0 := by rw [← Qs_f q3]; omega
             have hC : srS t n s = e3 := by unfold srS; rw [← he1, ← he2, ← he3, opW_f hz3, srT_f hz3]
             rw [hC]
             exact ⟨o3, q3, fun z => absurd z hz3⟩)
          | (have hz2 : e2.1.1 ≠ 0 := by rw [← Qs_f q2]; omega
             have hC : srS t n s = e2 := by unfold srS; rw [← he1, ← he2, srT_f hz2, opW_f hz2, srT_f hz2]
             rw [hC]
             exact ⟨o2, q2, fun z => absurd z hz2⟩)
          | (have hz1 : e1.1.1 ≠ 0 := by rw [← Qs_f q1]; omega
             have hC : srS t n s = e1 := by unfold srS; rw [← he1, opW_f hz1, srT_f hz1, opW_f hz1, srT_f hz1]
             rw [hC]
             exact ⟨o1, q1, fun z => absurd z hz1⟩)
        · have hs4 : e4.1.1 = 0 := by rw [← Qs_f q4]; omega
          have c4 : e4.2.1 = 3 := by rw [he4, (opW_v (t := t) (n := n)).1]; omega
          have w4 : ∀ i, e4.2.2 i = e3.2.2 i := fun i => by rw [he4, (opW_v (t := t) (n := n)).1]
          refine z_aload_nr dX8_readSort_104 rfl ?_
          refine z_iconst dX8_readSort_105 ⟨by decide, by decide⟩ ?_
          refine z_iload_n dX8_readSort_106 rfl ?_
          first | refine z_imulN dX8_readSort_107 (by omega) (fun x32 hx32 => ?_) | refine z_imul dX8_readSort_107 (fun x32 hx32 => ?_)
          refine z_iconst dX8_readSort_108 ⟨by decide, by decide⟩ ?_
          first | refine z_iaddN dX8_readSort_109 (by omega) (fun x33 hx33 => ?_) | refine z_iadd dX8_readSort_109 (fun x33 hx33 => ?_)
          refine z_callVv (n2 := 93) (A_X8_readSpan l g Mz29 x33 _ _ (e4) (q4) (ok4) (hn) (by omega) (by omega)) cb_X8_readSpan cl_X8_246 (clr0 rfl rfl (by decide) (by decide)) rfl (by decide) ⟨_, rfl, rfl⟩ rfl (by decide) rfl (Nat.le_of_ble_eq_true rfl) rfl dX8_readSort_110 (fun Mz34 kMz34 hc34 => ?_)
          have p5 := hc34
          obtain ⟨e5, he5⟩ : ∃ z, z = srT t n e4 := ⟨_, rfl⟩
          rw [← he5] at p5
          have q5 := p5.2.1
          have o5 := off80_tr o4 p5.1
          refine z_vret rfl (by decide) rfl (Nat.sub_self _) dX8_readSort_113 ?_
          first
          | (have hC : srS t n s = e5 := by unfold srS; rw [← he1, ← he2, ← he3, ← he4, ← he5]
             rw [hC]
             refine ⟨o5, q5, fun hz5 => ?_⟩
             have v5 := srT_v ok4 (by rw [← he5]; exact hz5)
             rw [← he5, c4] at v5
             have a0 := v5.2.2.2 0 (by decide)
             have a1 := v5.2.2.2 1 (by decide)
             have a2 := v5.2.2.2 2 (by decide)
             have b0 := v3.2.2.2 0 (by decide)
             rw [w4] at a0 a1 a2
             rw [w2] at b0
             have f3 := p3.2.2 hs3
             have f5 := p5.2.2 hz5
             rw [c2] at f3
             rw [c4] at f5
             refine ⟨by omega, fun j => ?_⟩
             rw [f5 j, p4.1 80 j (by omega), f3 j, p2.1 80 j (by omega), p1.1 80 j (by omega)]
             rw [a1, a2]
             have hL : e5.2.2 0 = e1.2.2 0 := by omega
             rw [hL]
             by_cases z3 : j = 4 * e1.2.2 0 + 3
             · rw [if_pos (by omega), if_pos z3]; rfl
             · rw [if_neg (by omega), if_neg z3]
               by_cases z2 : j = 4 * e1.2.2 0 + 2
               · rw [if_pos (by omega), if_pos z2]
               · rw [if_neg (by omega), if_neg z2]
                 by_cases z1 : j = 4 * e1.2.2 0 + 1
                 · rw [if_pos (by omega), if_pos z1]; rfl
                 · rw [if_neg (by omega), if_neg z1]
                   by_cases z0 : j = 4 * e1.2.2 0
                   · rw [if_pos (by omega), if_pos z0]
                   · rw [if_neg (by omega), if_neg z0])
          | (have hz4 : e4.1.1 ≠ 0 := by rw [← Qs_f q4]; omega
             have hC : srS t n s = e4 := by unfold srS; rw [← he1, ← he2, ← he3, ← he4, srT_f hz4]
             rw [hC]
             exact ⟨o4, q4, fun z => absurd z hz4⟩)
          | (have hz3 : e3.1.1 ≠ 0 := by rw [← Qs_f q3]; omega
             have hC : srS t n s = e3 := by unfold srS; rw [← he1, ← he2, ← he3, opW_f hz3, srT_f hz3]
             rw [hC]
             exact ⟨o3, q3, fun z => absurd z hz3⟩)
          | (have hz2 : e2.1.1 ≠ 0 := by rw [← Qs_f q2]; omega
             have hC : srS t n s = e2 := by unfold srS; rw [← he1, ← he2, srT_f hz2, opW_f hz2, srT_f hz2]
             rw [hC]
             exact ⟨o2, q2, fun z => absurd z hz2⟩)
          | (have hz1 : e1.1.1 ≠ 0 := by rw [← Qs_f q1]; omega
             have hC : srS t n s = e1 := by unfold srS; rw [← he1, opW_f hz1, srT_f hz1, opW_f hz1, srT_f hz1]
             rw [hC]
             exact ⟨o1, q1, fun z => absurd z hz1⟩)
def off81 (M M2 : FMem) : Prop := ∀ b j, b ≠ 81 → ¬ (b = 60 ∧ 36 ≤ j ∧ j ≤ 40) → M2 b j = M b j
noncomputable def srB (t : Int → Int) (n : Int) (s : PS) : PS := opN t n 0 0 999 (opW t n 8 (opN t n 0 0 5 s))
theorem Qs_cg {t : Int → Int} {n : Int} {s : PS} {M M2 : FMem} (h : Qs t n s M) (h1 : ∀ i, M2 85 i = M 85 i) (h2 : ∀ j, 35 ≤ j → j ≤ 38 → M2 60 j = M 60 j) : Qs t n s M2 := by
  obtain ⟨a, b, c, d, e⟩ := h
  refine ⟨(funext h1 : tm M2 = tm M).trans a, (h2 35 (by decide) (by decide)).trans b, c, fun z => ?_, fun z => ?_⟩
  · rw [h2 36 (by decide) (by decide), h2 37 (by decide) (by decide), h2 38 (by decide) (by decide)]; exact d z
  · rw [h2 37 (by decide) (by decide), h2 38 (by decide) (by decide)]; exact e z
set_option maxHeartbeats 1600000 in
theorem A_X8_readBlur (l : Launch) (g : Cx) (M : FMem) (t : Int → Int) (n : Int) (s : PS) (hQ : Qs t n s M) (hS : SOk n s) (hn : 0 ≤ n ∧ n ≤ 240) (hz : s.2.1 = 0) : AMv l g true fi_X8_readBlur [fr 60] 93 M (fun M2 => off81 M M2 ∧ Qs t n (srB t n s) M2 ∧ ((srB t n s).1.1 = 0 → (0 ≤ (srB t n s).2.2 0 ∧ (srB t n s).2.2 0 ≤ 5) ∧ ∀ j, M2 81 j = if j = (srB t n s).2.2 0 then (srB t n s).2.2 1 else M 81 j)) := by
  refine AMv_intro [fr 60, fu, fu, fu] (by decide) (knall rfl) (Nat.le_of_ble_eq_true rfl) rfl ?_
  intro hNV hM0 μ
  refine z_aload_nr dX8_readBlur_0 rfl ?_
  refine z_iconst dX8_readBlur_1 ⟨by decide, by decide⟩ ?_
  refine z_iconst dX8_readBlur_2 ⟨by decide, by decide⟩ ?_
  refine z_iconst dX8_readBlur_3 ⟨by decide, by decide⟩ ?_
  refine z_callVi (n2 := 93) (A_X8_takeNumber l g M 0 5 0 _ _ (s) (hQ) (hS) (hn) (by omega)) cb_X8_takeNumber cl_X8_238 (clr0 rfl rfl (by decide) (by decide)) rfl (by decide) ⟨_, rfl, rfl⟩ rfl (by decide) rfl (Nat.le_of_ble_eq_true rfl) rfl dX8_readBlur_4 (fun x1 Mz1 bx1 kMz1 hc1 => ?_)
  have p1 := hc1
  obtain ⟨e1, he1⟩ : ∃ z, z = opN t n 0 0 5 s := ⟨_, rfl⟩
  rw [← he1] at p1
  have q1 := p1.2.1
  have ok1 : SOk n e1 := by rw [he1]; exact opN_ok hS
  refine z_istore_n (loc2 := [fr 60, fi x1, fu, fu]) dX8_readBlur_7 (by decide) rfl ?_
  refine z_aload_nr dX8_readBlur_8 rfl ?_
  refine z_geti (kz := 37) fl_X8_205 rfl (by decide) rfl dX8_readBlur_9 (fun x2 hx2 bx2 => ?_)
  refine z_if_ne (tgt := 59) dX8_readBlur_12 (by decide) (fun c3 => ?_) (fun c3 => ?_)
  · refine z_vret rfl (by decide) rfl (Nat.sub_self _) dX8_readBlur_59 ?_
    first
    | (have hC : srB t n s = e3 := by unfold srB; rw [← he1, ← he2, ← he3]
       rw [hC]
       refine ⟨fun b j u1 u2 => ?_, ?_, fun hz3 => ?_⟩
       · rw [hNONE, st_cell u1, p3.1 b j u2, p2.1 b j u2]; exact p1.1 b j u2
       · exact Qs_cg p3.2.1 (fun i => by rw [hNONE, st_cell (by decide)]) (fun j _ _ => by rw [hNONE, st_cell (by decide)])
       · have v3 := opN_v (t := t) (n := n) (sg := 0) (lo := 0) (hi := 999) (s := e2) ok2 (by rw [← he3]; exact hz3)
         rw [← he3, c2] at v3
         have b3 := p3.2.2 hz3
         rw [c2] at b3
         have a0 := v3.2.2.2.2 0 (by decide)
         rw [w2] at a0
         refine ⟨by omega, fun j => ?_⟩
         rw [hNONE, st_at, b3]
         rw [show e3.2.2 0 = x1 by omega]
         split
         · rfl
         · rw [p3.1 81 j (by omega), p2.1 81 j (by omega)]; exact p1.1 81 j (by omega))
    | (have hz1 : e1.1.1 ≠ 0 := by rw [← Qs_f q1]; omega
       have hC : srB t n s = e1 := by unfold srB; rw [← he1, opW_f hz1, opN_f hz1]
       rw [hC]
       exact ⟨fun b j _ u => p1.1 b j u, q1, fun z => absurd z hz1⟩)
  · have hs1 : e1.1.1 = 0 := by rw [← Qs_f q1]; omega
    have hv1 := opN_v (t := t) (n := n) (sg := 0) (lo := 0) (hi := 5) (s := s) hS (by rw [← he1]; exact hs1)
    rw [← he1, hz] at hv1
    have hl1 := p1.2.2 hs1
    rw [hz] at hl1
    have r1 := q1.2.2.2.1 hs1
    have b1 := ok1 hs1
    have n1 := q1.2.1
    refine z_aload_nr dX8_readBlur_15 rfl ?_
    refine z_callVv (n2 := 93) (A_X8_takeWord l g Mz1 (by omega) (by omega)) cb_X8_takeWord cl_X8_231 (clr0 rfl rfl (by decide) (by decide)) rfl (by decide) ⟨_, rfl, rfl⟩ rfl (by decide) rfl (Nat.le_of_ble_eq_true rfl) rfl dX8_readBlur_16 (fun Mz4 kMz4 hc4 => ?_)
    have tw1 := hc4
    have wp := word_pre q1 hs1 ok1 hn tw1
    refine z_aload_nr dX8_readBlur_19 rfl ?_
    refine z_aload_nr dX8_readBlur_20 rfl ?_
    refine z_iconst dX8_readBlur_21 ⟨by decide, by decide⟩ ?_
    refine z_bipush dX8_readBlur_22 ⟨by decide, by decide⟩ (by decide) ?_
    refine z_bipush dX8_readBlur_24 ⟨by decide, by decide⟩ (by decide) ?_
    refine z_iconst dX8_readBlur_26 ⟨by decide, by decide⟩ ?_
    refine z_iconst dX8_readBlur_27 ⟨by decide, by decide⟩ ?_
    refine z_iconst dX8_readBlur_28 ⟨by decide, by decide⟩ ?_
    refine z_iconst dX8_readBlur_29 ⟨by decide, by decide⟩ ?_
    refine z_callVip (n2 := 93) (A_X8_isWord l g Mz4 2 98 121 0 0 0 0 8 (by decide) (cdw_8.1) (cdw_8.2) (wp.1) (wp.2.1) (wp.2.2.1) (wp.2.2.2)) cb_X8_isWord cl_X8_234 (clr0 rfl rfl (by decide) (by decide)) rfl (by decide) ⟨_, rfl, rfl⟩ rfl (by decide) rfl (Nat.le_of_ble_eq_true rfl) rfl dX8_readBlur_30 (fun x5 bx5 hx5 => ?_)
    have iw := hx5
    refine z_iconst dX8_readBlur_33 ⟨by decide, by decide⟩ ?_
    refine z_aload_nr dX8_readBlur_34 rfl ?_
    refine z_geti (kz := 39) fl_X8_212 rfl (by decide) rfl dX8_readBlur_35 (fun x6 hx6 bx6 => ?_)
    have hwf := hx6
    refine z_callVi (n2 := 93) (A_X8_want l g Mz4 x5 1 x6 (by omega) (by decide)) cb_X8_want cl_X8_226 (clr0 rfl rfl (by decide) (by decide)) rfl (by decide) ⟨_, rfl, rfl⟩ rfl (by decide) rfl (Nat.le_of_ble_eq_true rfl) rfl dX8_readBlur_38 (fun x7 Mz7 bx7 kMz7 hc7 => ?_)
    have wt := hc7
    have p2 := word_op (j := 8) (by decide) q1 hs1 ok1 tw1 iw hwf wt
    obtain ⟨e2, he2⟩ : ∃ z, z = opW t n 8 e1 := ⟨_, rfl⟩
    rw [← he2] at p2
    have q2 := p2.2
    have ok2 : SOk n e2 := by rw [he2]; exact opW_ok (by decide) ok1
    have c2 : e2.2.1 = 1 := by rw [he2, (opW_v (t := t) (n := n)).1]; omega
    have w2 : ∀ i, e2.2.2 i = e1.2.2 i := fun i => by rw [he2, (opW_v (t := t) (n := n)).1]
    refine z_istore_n (loc2 := [fr 60, fi x1, fi x7, fu]) dX8_readBlur_41 (by decide) rfl ?_
    refine z_aload_nr dX8_readBlur_42 rfl ?_
    refine z_iconst dX8_readBlur_43 ⟨by decide, by decide⟩ ?_
    refine z_sipush dX8_readBlur_44 ⟨by decide, by decide⟩ (by decide) ?_
    refine z_iconst dX8_readBlur_47 ⟨by decide, by decide⟩ ?_
    refine z_callVi (n2 := 93) (A_X8_takeNumber l g Mz7 0 999 0 _ _ (e2) (q2) (ok2) (hn) (by omega)) cb_X8_takeNumber cl_X8_238 (clr0 rfl rfl (by decide) (by decide)) rfl (by decide) ⟨_, rfl, rfl⟩ rfl (by decide) rfl (Nat.le_of_ble_eq_true rfl) rfl dX8_readBlur_48 (fun x8 Mz8 bx8 kMz8 hc8 => ?_)
    have p3 := hc8
    obtain ⟨e3, he3⟩ : ∃ z, z = opN t n 0 0 999 e2 := ⟨_, rfl⟩
    rw [← he3] at p3
    refine z_istore_n (loc2 := [fr 60, fi x1, fi x7, fi x8]) dX8_readBlur_51 (by decide) rfl ?_
    refine z_aload_nr dX8_readBlur_52 rfl ?_
    refine z_getr (b := 81) fl_X8_71 rfl (by decide) rf_60_26 rfl dX8_readBlur_53 ?_
    refine z_iload_n dX8_readBlur_56 rfl ?_
    refine z_iload_n dX8_readBlur_57 rfl ?_
    refine z_iast rfl (by decide) (by omega) (by omega) dX8_readBlur_58 (fun Mz9 hMz9 => ?_)
    refine z_vret rfl (by decide) rfl (Nat.sub_self _) dX8_readBlur_59 ?_
    first
    | (have hC : srB t n s = e3 := by unfold srB; rw [← he1, ← he2, ← he3]
       rw [hC]
       refine ⟨fun b j u1 u2 => ?_, ?_, fun hz3 => ?_⟩
       · rw [hMz9, st_cell u1, p3.1 b j u2, p2.1 b j u2]; exact p1.1 b j u2
       · exact Qs_cg p3.2.1 (fun i => by rw [hMz9, st_cell (by decide)]) (fun j _ _ => by rw [hMz9, st_cell (by decide)])
       · have v3 := opN_v (t := t) (n := n) (sg := 0) (lo := 0) (hi := 999) (s := e2) ok2 (by rw [← he3]; exact hz3)
         rw [← he3, c2] at v3
         have b3 := p3.2.2 hz3
         rw [c2] at b3
         have a0 := v3.2.2.2.2 0 (by decide)
         rw [w2] at a0
         refine ⟨by omega, fun j => ?_⟩
         rw [hMz9, st_at, b3]
         rw [show e3.2.2 0 = x1 by omega]
         split
         · rfl
         · rw [p3.1 81 j (by omega), p2.1 81 j (by omega)]; exact p1.1 81 j (by omega))
    | (have hz1 : e1.1.1 ≠ 0 := by rw [← Qs_f q1]; omega
       have hC : srB t n s = e1 := by unfold srB; rw [← he1, opW_f hz1, opN_f hz1]
       rw [hC]
       exact ⟨fun b j _ u => p1.1 b j u, q1, fun z => absurd z hz1⟩)
noncomputable def srC (t : Int → Int) (n : Int) (s : PS) : PS := opN t n 1 (-40000) 40000 (opA t n (opN t n 0 0 9 s))
def offC (M M2 : FMem) : Prop := ∀ b j, b ≠ 82 → b ≠ 83 → b ≠ 84 → ¬ (b = 60 ∧ (j = 30 ∨ (36 ≤ j ∧ j ≤ 40))) → M2 b j = M b j
set_option maxHeartbeats 3200000 in
theorem A_X8_readClaim (l : Launch) (g : Cx) (M : FMem) (t : Int → Int) (n : Int) (s : PS) (hQ : Qs t n s M) (hS : SOk n s) (hn : 0 ≤ n ∧ n ≤ 240) (hz : s.2.1 = 0) (hcl : 0 ≤ M 60 30 ∧ M 60 30 < 8) : AMv l g true fi_X8_readClaim [fr 60] 93 M (fun M2 => offC M M2 ∧ Qs t n (srC t n s) M2 ∧ ((srC t n s).1.1 = 0 → M2 60 30 = (M 60 30) + 1 ∧ ∀ j, (M2 82 j = if j = (M 60 30) then (srC t n s).2.2 0 else M 82 j) ∧ (M2 83 j = if j = (M 60 30) then (srC t n s).2.2 1 else M 83 j) ∧ (M2 84 j = if j = (M 60 30) then abv t n (opN t n 0 0 9 s) else M 84 j))) := by
  refine AMv_intro [fr 60, fu, fu, fu, fu] (by decide) (knall rfl) (Nat.le_of_ble_eq_true rfl) rfl ?_
  intro hNV hM0 μ
  refine z_aload_nr dX8_readClaim_0 rfl ?_
  refine z_iconst dX8_readClaim_1 ⟨by decide, by decide⟩ ?_
  refine z_bipush dX8_readClaim_2 ⟨by decide, by decide⟩ (by decide) ?_
  refine z_iconst dX8_readClaim_4 ⟨by decide, by decide⟩ ?_
  refine z_callVi (n2 := 93) (A_X8_takeNumber l g M 0 9 0 _ _ (s) (hQ) (hS) (hn) (by omega)) cb_X8_takeNumber cl_X8_238 (clr0 rfl rfl (by decide) (by decide)) rfl (by decide) ⟨_, rfl, rfl⟩ rfl (by decide) rfl (Nat.le_of_ble_eq_true rfl) rfl dX8_readClaim_5 (fun x1 Mz1 bx1 kMz1 hc1 => ?_)
  have p1 := hc1
  obtain ⟨e1, he1⟩ : ∃ z, z = opN t n 0 0 9 s := ⟨_, rfl⟩
  rw [← he1] at p1
  have q1 := p1.2.1
  have ok1 : SOk n e1 := by rw [he1]; exact opN_ok hS
  refine z_istore_n (loc2 := [fr 60, fi x1, fu, fu, fu]) dX8_readClaim_8 (by decide) rfl ?_
  refine z_aload_nr dX8_readClaim_9 rfl ?_
  refine z_geti (kz := 37) fl_X8_205 rfl (by decide) rfl dX8_readClaim_10 (fun x2 hx2 bx2 => ?_)
  refine z_if_ne (tgt := 127) dX8_readClaim_13 (by decide) (fun c3 => ?_) (fun c3 => ?_)
  · refine z_vret rfl (by decide) rfl (Nat.sub_self _) dX8_readClaim_127 ?_
    first
    | (have hC : srC t n s = e3 := by unfold srC; rw [← he1, ← he2, ← he3]
       rw [hC, ← he1]
       have hMM : Mz1 = st (st (st (st Mz1 82 (M 60 30) x1) 83 (M 60 30) _) 84 (M 60 30) _) 60 30 (M 60 30 + 1) := by
         rw [hNONE]
         congr 1
         · congr 1
           · congr 1
             · congr 1
               omega
             · omega
           · omega
         · omega
       refine ⟨fun b j u1 u2 u3 u4 => ?_, ?_, fun hz3 => ?_⟩
       · rw [hMM]
         unfold st
         rw [if_neg (by omega), if_neg (fun z => u3 z.1), if_neg (fun z => u2 z.1), if_neg (fun z => u1 z.1), p3.1 b j (by omega), p2.1 b j (by omega)]
         exact p1.1 b j (by omega)
       · exact Qs_cg p3.2.1 (fun i => by rw [hMM, st_cell (by decide), st_cell (by decide), st_cell (by decide), st_cell (by decide)]) (fun j a b => by rw [hMM, st_at, if_neg (by omega), st_cell (by decide), st_cell (by decide), st_cell (by decide)])
       · have v3 := opN_v (t := t) (n := n) (sg := 1) (lo := -40000) (hi := 40000) (s := e2) ok2 (by rw [← he3]; exact hz3)
         rw [← he3, c2] at v3
         have b3 := p3.2.2 hz3
         rw [c2] at b3
         have a0 := v3.2.2.2.2 0 (by decide)
         rw [w2] at a0
         have k82 : ∀ j, Mz1 82 j = M 82 j := fun j => by rw [p3.1 82 j (by omega), p2.1 82 j (by omega)]; exact p1.1 82 j (by omega)
         have k83 : ∀ j, Mz1 83 j = M 83 j := fun j => by rw [p3.1 83 j (by omega), p2.1 83 j (by omega)]; exact p1.1 83 j (by omega)
         have k84 : ∀ j, Mz1 84 j = M 84 j := fun j => by rw [p3.1 84 j (by omega), p2.1 84 j (by omega)]; exact p1.1 84 j (by omega)
         rw [hMM]
         refine ⟨st_same _ _ _ _, fun j => ⟨?_, ?_, ?_⟩⟩
         · rw [st_cell (by decide), st_cell (by decide), st_cell (by decide), st_at, k82, show x1 = e3.2.2 0 by omega]
         · rw [st_cell (by decide), st_cell (by decide), st_at, st_cell (by decide), k83, b3]
         · rw [st_cell (by decide), st_at, st_cell (by decide), st_cell (by decide), k84, p2.2.2])
    | (have hz1 : e1.1.1 ≠ 0 := by rw [← Qs_f q1]; omega
       have hA : opA t n e1 = e1 := by unfold opA; rw [if_neg (fun z => hz1 z.1), opW_f hz1]
       have hC : srC t n s = e1 := by unfold srC; rw [← he1, hA, opN_f hz1]
       rw [hC]
       exact ⟨fun b j _ _ _ u => p1.1 b j (by omega), q1, fun z => absurd z hz1⟩)
  · have hs1 : e1.1.1 = 0 := by rw [← Qs_f q1]; omega
    have hv1 := opN_v (t := t) (n := n) (sg := 0) (lo := 0) (hi := 9) (s := s) hS (by rw [← he1]; exact hs1)
    rw [← he1, hz] at hv1
    have hl1 := p1.2.2 hs1
    rw [hz] at hl1
    have r1 := q1.2.2.2.1 hs1
    have b1 := ok1 hs1
    have n1 := q1.2.1
    refine z_aload_nr dX8_readClaim_16 rfl ?_
    refine z_callVv (n2 := 93) (A_X8_takeWord l g Mz1 (by omega) (by omega)) cb_X8_takeWord cl_X8_231 (clr0 rfl rfl (by decide) (by decide)) rfl (by decide) ⟨_, rfl, rfl⟩ rfl (by decide) rfl (Nat.le_of_ble_eq_true rfl) rfl dX8_readClaim_17 (fun Mz4 kMz4 hc4 => ?_)
    have tw1 := hc4
    obtain ⟨Mw, hMw⟩ : ∃ z, z = Mz4 := ⟨_, rfl⟩
    have wp := word_pre q1 hs1 ok1 hn tw1
    refine z_aload_nr dX8_readClaim_20 rfl ?_
    refine z_iconst dX8_readClaim_21 ⟨by decide, by decide⟩ ?_
    refine z_bipush dX8_readClaim_22 ⟨by decide, by decide⟩ (by decide) ?_
    refine z_bipush dX8_readClaim_24 ⟨by decide, by decide⟩ (by decide) ?_
    refine z_bipush dX8_readClaim_26 ⟨by decide, by decide⟩ (by decide) ?_
    refine z_bipush dX8_readClaim_28 ⟨by decide, by decide⟩ (by decide) ?_
    refine z_bipush dX8_readClaim_30 ⟨by decide, by decide⟩ (by decide) ?_
    refine z_iconst dX8_readClaim_32 ⟨by decide, by decide⟩ ?_
    refine z_callVip (n2 := 93) (A_X8_isWord l g Mz4 5 97 98 111 118 101 0 9 (by decide) (cdw_9.1) (cdw_9.2) (wp.1) (wp.2.1) (wp.2.2.1) (wp.2.2.2)) cb_X8_isWord cl_X8_234 (clr0 rfl rfl (by decide) (by decide)) rfl (by decide) ⟨_, rfl, rfl⟩ rfl (by decide) rfl (Nat.le_of_ble_eq_true rfl) rfl dX8_readClaim_33 (fun x5 bx5 hx5 => ?_)
    have i9 := hx5
    have i9q : x5 = 0 ∨ x5 = 1 := by rcases i9 with z | z <;> omega
    refine z_istore_n (loc2 := [fr 60, fi x1, fi x5, fu, fu]) dX8_readClaim_36 (by decide) rfl ?_
    refine z_aload_nr dX8_readClaim_37 rfl ?_
    refine z_iload_n dX8_readClaim_38 rfl ?_
    refine z_if_ne (tgt := 61) dX8_readClaim_39 (by decide) (fun c6 => ?_) (fun c6 => ?_)
    · refine z_iconst dX8_readClaim_61 ⟨by decide, by decide⟩ ?_
      refine z_goto (tgt := 66) dX8_readClaim_62 (by decide) ?_
      refine z_iconst dX8_readClaim_66 ⟨by decide, by decide⟩ ?_
      refine z_aload_nr dX8_readClaim_67 rfl ?_
      refine z_geti (kz := 39) fl_X8_212 rfl (by decide) rfl dX8_readClaim_68 (fun x7 hx7 bx7 => ?_)
      have hwf := hx7
      have hgd : (((1 : Int) = 1) ∧ (isW (tm Mw) (Mw 60 35) (Mw 60 39) 9 ∨ isW (tm Mw) (Mw 60 35) (Mw 60 39) 10)) ∨ (((1 : Int) = 0) ∧ ¬ (isW (tm Mw) (Mw 60 35) (Mw 60 39) 9 ∨ isW (tm Mw) (Mw 60 35) (Mw 60 39) 10)) := by
        rw [hMw]
        rcases i9 with z | z
        · first
          | exact Or.inl ⟨rfl, Or.inl z.2⟩
          | (exfalso; omega)
        · first
          | (exfalso; omega)
          | (rcases i10 with y | y
             · first
               | exact Or.inl ⟨rfl, Or.inr y.2⟩
               | (exfalso; omega)
             · first
               | (exfalso; omega)
               | exact Or.inr ⟨rfl, fun w => w.elim z.2 y.2⟩)
      rw [hMw] at hgd
      refine z_callVi (n2 := 93) (A_X8_want l g Mz4 1 1 x7 (by omega) (by decide)) cb_X8_want cl_X8_226 (clr0 rfl rfl (by decide) (by decide)) rfl (by decide) ⟨_, rfl, rfl⟩ rfl (by decide) rfl (Nat.le_of_ble_eq_true rfl) rfl dX8_readClaim_71 (fun x8 Mz8 bx8 kMz8 hc8 => ?_)
      have wt := hc8
      have p2 := word_opA q1 hs1 ok1 tw1 i9 hgd hwf wt
      obtain ⟨e2, he2⟩ : ∃ z, z = opA t n e1 := ⟨_, rfl⟩
      rw [← he2] at p2
      have q2 := p2.2.1
      have ok2 : SOk n e2 := by rw [he2]; exact opA_ok ok1
      have c2 : e2.2.1 = 1 := by rw [he2, (opA_v (t := t) (n := n)).1]; omega
      have w2 : ∀ i, e2.2.2 i = e1.2.2 i := fun i => by rw [he2, (opA_v (t := t) (n := n)).1]
      refine z_istore_n (loc2 := [fr 60, fi x1, fi x5, fi x8, fu]) dX8_readClaim_74 (by decide) rfl ?_
      refine z_aload_nr dX8_readClaim_75 rfl ?_
      refine z_ldc (c := -40000) cn_X8_250 ⟨by decide, by decide⟩ dX8_readClaim_76 ?_
      refine z_ldc (c := 40000) cn_X8_251 ⟨by decide, by decide⟩ dX8_readClaim_78 ?_
      refine z_iconst dX8_readClaim_80 ⟨by decide, by decide⟩ ?_
      refine z_callVi (n2 := 93) (A_X8_takeNumber l g Mz8 (-40000) 40000 1 _ _ (e2) (q2) (ok2) (hn) (by omega)) cb_X8_takeNumber cl_X8_238 (clr0 rfl rfl (by decide) (by decide)) rfl (by decide) ⟨_, rfl, rfl⟩ rfl (by decide) rfl (Nat.le_of_ble_eq_true rfl) rfl dX8_readClaim_81 (fun x9 Mz9 bx9 kMz9 hc9 => ?_)
      have p3 := hc9
      obtain ⟨e3, he3⟩ : ∃ z, z = opN t n 1 (-40000) 40000 e2 := ⟨_, rfl⟩
      rw [← he3] at p3
      have n30 : Mz9 60 30 = M 60 30 := by rw [p3.1 60 30 (by omega), p2.1 60 30 (by omega)]; exact p1.1 60 30 (by omega)
      refine z_istore (loc2 := [fr 60, fi x1, fi x5, fi x8, fi x9]) dX8_readClaim_84 (by decide) rfl ?_
      refine z_aload_nr dX8_readClaim_86 rfl ?_
      refine z_getr (b := 82) fl_X8_74 rfl (by decide) rf_60_31 rfl dX8_readClaim_87 ?_
      refine z_aload_nr dX8_readClaim_90 rfl ?_
      refine z_geti (kz := 30) fl_X8_252 rfl (by decide) rfl dX8_readClaim_91 (fun x10 hx10 bx10 => ?_)
      refine z_iload_n dX8_readClaim_94 rfl ?_
      refine z_iast rfl (by decide) (by omega) (by omega) dX8_readClaim_95 (fun Mz11 hMz11 => ?_)
      refine z_aload_nr dX8_readClaim_96 rfl ?_
      refine z_getr (b := 83) fl_X8_77 rfl (by decide) rf_60_32 rfl dX8_readClaim_97 ?_
      refine z_aload_nr dX8_readClaim_100 rfl ?_
      refine z_geti (kz := 30) fl_X8_252 rfl (by decide) rfl dX8_readClaim_101 (fun x12 hx12 bx12 => ?_)
      rw [hMz11, st_cell (by decide)] at hx12
      refine z_iload dX8_readClaim_104 rfl ?_
      refine z_iast rfl (by decide) (by omega) (by omega) dX8_readClaim_106 (fun Mz13 hMz13 => ?_)
      refine z_aload_nr dX8_readClaim_107 rfl ?_
      refine z_getr (b := 84) fl_X8_80 rfl (by decide) rf_60_33 rfl dX8_readClaim_108 ?_
      refine z_aload_nr dX8_readClaim_111 rfl ?_
      refine z_geti (kz := 30) fl_X8_252 rfl (by decide) rfl dX8_readClaim_112 (fun x14 hx14 bx14 => ?_)
      rw [hMz13, st_cell (by decide), hMz11, st_cell (by decide)] at hx14
      refine z_iload_n dX8_readClaim_115 rfl ?_
      refine z_zast rfl (by decide) (by omega) (by omega) (by first | omega | (have := i9q; omega)) dX8_readClaim_116 (fun Mz15 hMz15 => ?_)
      refine z_aload_nr dX8_readClaim_117 rfl ?_
      refine z_dup rfl dX8_readClaim_118 ?_
      refine z_geti (kz := 30) fl_X8_252 rfl (by decide) rfl dX8_readClaim_119 (fun x16 hx16 bx16 => ?_)
      rw [hMz15, st_cell (by decide), hMz13, st_cell (by decide), hMz11, st_cell (by decide)] at hx16
      refine z_iconst dX8_readClaim_122 ⟨by decide, by decide⟩ ?_
      first | refine z_iaddN dX8_readClaim_123 (by omega) (fun x17 hx17 => ?_) | refine z_iadd dX8_readClaim_123 (fun x17 hx17 => ?_)
      refine z_puti (kz := 30) fl_X8_252 rfl (by decide) rfl nr_60_30 dX8_readClaim_124 (fun Mz18 hMz18 => ?_)
      refine z_vret rfl (by decide) rfl (Nat.sub_self _) dX8_readClaim_127 ?_
      first
      | (have hC : srC t n s = e3 := by unfold srC; rw [← he1, ← he2, ← he3]
         rw [hC, ← he1]
         have hMM : Mz18 = st (st (st (st Mz9 82 (M 60 30) x1) 83 (M 60 30) x9) 84 (M 60 30) x5) 60 30 (M 60 30 + 1) := by
           rw [hMz18, hMz15, hMz13, hMz11]
           congr 1
           · congr 1
             · congr 1
               · congr 1
                 omega
               · omega
             · omega
           · omega
         refine ⟨fun b j u1 u2 u3 u4 => ?_, ?_, fun hz3 => ?_⟩
         · rw [hMM]
           unfold st
           rw [if_neg (by omega), if_neg (fun z => u3 z.1), if_neg (fun z => u2 z.1), if_neg (fun z => u1 z.1), p3.1 b j (by omega), p2.1 b j (by omega)]
           exact p1.1 b j (by omega)
         · exact Qs_cg p3.2.1 (fun i => by rw [hMM, st_cell (by decide), st_cell (by decide), st_cell (by decide), st_cell (by decide)]) (fun j a b => by rw [hMM, st_at, if_neg (by omega), st_cell (by decide), st_cell (by decide), st_cell (by decide)])
         · have v3 := opN_v (t := t) (n := n) (sg := 1) (lo := -40000) (hi := 40000) (s := e2) ok2 (by rw [← he3]; exact hz3)
           rw [← he3, c2] at v3
           have b3 := p3.2.2 hz3
           rw [c2] at b3
           have a0 := v3.2.2.2.2 0 (by decide)
           rw [w2] at a0
           have k82 : ∀ j, Mz9 82 j = M 82 j := fun j => by rw [p3.1 82 j (by omega), p2.1 82 j (by omega)]; exact p1.1 82 j (by omega)
           have k83 : ∀ j, Mz9 83 j = M 83 j := fun j => by rw [p3.1 83 j (by omega), p2.1 83 j (by omega)]; exact p1.1 83 j (by omega)
           have k84 : ∀ j, Mz9 84 j = M 84 j := fun j => by rw [p3.1 84 j (by omega), p2.1 84 j (by omega)]; exact p1.1 84 j (by omega)
           rw [hMM]
           refine ⟨st_same _ _ _ _, fun j => ⟨?_, ?_, ?_⟩⟩
           · rw [st_cell (by decide), st_cell (by decide), st_cell (by decide), st_at, k82, show x1 = e3.2.2 0 by omega]
           · rw [st_cell (by decide), st_cell (by decide), st_at, st_cell (by decide), k83, b3]
           · rw [st_cell (by decide), st_at, st_cell (by decide), st_cell (by decide), k84, p2.2.2])
      | (have hz1 : e1.1.1 ≠ 0 := by rw [← Qs_f q1]; omega
         have hA : opA t n e1 = e1 := by unfold opA; rw [if_neg (fun z => hz1 z.1), opW_f hz1]
         have hC : srC t n s = e1 := by unfold srC; rw [← he1, hA, opN_f hz1]
         rw [hC]
         exact ⟨fun b j _ _ _ u => p1.1 b j (by omega), q1, fun z => absurd z hz1⟩)
    · refine z_aload_nr dX8_readClaim_42 rfl ?_
      refine z_iconst dX8_readClaim_43 ⟨by decide, by decide⟩ ?_
      refine z_bipush dX8_readClaim_44 ⟨by decide, by decide⟩ (by decide) ?_
      refine z_bipush dX8_readClaim_46 ⟨by decide, by decide⟩ (by decide) ?_
      refine z_bipush dX8_readClaim_48 ⟨by decide, by decide⟩ (by decide) ?_
      refine z_bipush dX8_readClaim_50 ⟨by decide, by decide⟩ (by decide) ?_
      refine z_bipush dX8_readClaim_52 ⟨by decide, by decide⟩ (by decide) ?_
      refine z_iconst dX8_readClaim_54 ⟨by decide, by decide⟩ ?_
      refine z_callVip (n2 := 93) (A_X8_isWord l g Mz4 5 98 101 108 111 119 0 10 (by decide) (cdw_10.1) (cdw_10.2) (wp.1) (wp.2.1) (wp.2.2.1) (wp.2.2.2)) cb_X8_isWord cl_X8_234 (clr0 rfl rfl (by decide) (by decide)) rfl (by decide) ⟨_, rfl, rfl⟩ rfl (by decide) rfl (Nat.le_of_ble_eq_true rfl) rfl dX8_readClaim_55 (fun x19 bx19 hx19 => ?_)
      have i10 := hx19
      have i10q : x19 = 0 ∨ x19 = 1 := by rcases i10 with z | z <;> omega
      refine z_if_eq (tgt := 65) dX8_readClaim_58 (by decide) (fun c20 => ?_) (fun c20 => ?_)
      · refine z_iconst dX8_readClaim_65 ⟨by decide, by decide⟩ ?_
        refine z_iconst dX8_readClaim_66 ⟨by decide, by decide⟩ ?_
        refine z_aload_nr dX8_readClaim_67 rfl ?_
        refine z_geti (kz := 39) fl_X8_212 rfl (by decide) rfl dX8_readClaim_68 (fun x21 hx21 bx21 => ?_)
        have hwf := hx21
        have hgd : (((0 : Int) = 1) ∧ (isW (tm Mw) (Mw 60 35) (Mw 60 39) 9 ∨ isW (tm Mw) (Mw 60 35) (Mw 60 39) 10)) ∨ (((0 : Int) = 0) ∧ ¬ (isW (tm Mw) (Mw 60 35) (Mw 60 39) 9 ∨ isW (tm Mw) (Mw 60 35) (Mw 60 39) 10)) := by
          rw [hMw]
          rcases i9 with z | z
          · first
            | exact Or.inl ⟨rfl, Or.inl z.2⟩
            | (exfalso; omega)
          · first
            | (exfalso; omega)
            | (rcases i10 with y | y
               · first
                 | exact Or.inl ⟨rfl, Or.inr y.2⟩
                 | (exfalso; omega)
               · first
                 | (exfalso; omega)
                 | exact Or.inr ⟨rfl, fun w => w.elim z.2 y.2⟩)
        rw [hMw] at hgd
        refine z_callVi (n2 := 93) (A_X8_want l g Mz4 0 1 x21 (by omega) (by decide)) cb_X8_want cl_X8_226 (clr0 rfl rfl (by decide) (by decide)) rfl (by decide) ⟨_, rfl, rfl⟩ rfl (by decide) rfl (Nat.le_of_ble_eq_true rfl) rfl dX8_readClaim_71 (fun x22 Mz22 bx22 kMz22 hc22 => ?_)
        have wt := hc22
        have p2 := word_opA q1 hs1 ok1 tw1 i9 hgd hwf wt
        obtain ⟨e2, he2⟩ : ∃ z, z = opA t n e1 := ⟨_, rfl⟩
        rw [← he2] at p2
        have q2 := p2.2.1
        have ok2 : SOk n e2 := by rw [he2]; exact opA_ok ok1
        have c2 : e2.2.1 = 1 := by rw [he2, (opA_v (t := t) (n := n)).1]; omega
        have w2 : ∀ i, e2.2.2 i = e1.2.2 i := fun i => by rw [he2, (opA_v (t := t) (n := n)).1]
        refine z_istore_n (loc2 := [fr 60, fi x1, fi x5, fi x22, fu]) dX8_readClaim_74 (by decide) rfl ?_
        refine z_aload_nr dX8_readClaim_75 rfl ?_
        refine z_ldc (c := -40000) cn_X8_250 ⟨by decide, by decide⟩ dX8_readClaim_76 ?_
        refine z_ldc (c := 40000) cn_X8_251 ⟨by decide, by decide⟩ dX8_readClaim_78 ?_
        refine z_iconst dX8_readClaim_80 ⟨by decide, by decide⟩ ?_
        refine z_callVi (n2 := 93) (A_X8_takeNumber l g Mz22 (-40000) 40000 1 _ _ (e2) (q2) (ok2) (hn) (by omega)) cb_X8_takeNumber cl_X8_238 (clr0 rfl rfl (by decide) (by decide)) rfl (by decide) ⟨_, rfl, rfl⟩ rfl (by decide) rfl (Nat.le_of_ble_eq_true rfl) rfl dX8_readClaim_81 (fun x23 Mz23 bx23 kMz23 hc23 => ?_)
        have p3 := hc23
        obtain ⟨e3, he3⟩ : ∃ z, z = opN t n 1 (-40000) 40000 e2 := ⟨_, rfl⟩
        rw [← he3] at p3
        have n30 : Mz23 60 30 = M 60 30 := by rw [p3.1 60 30 (by omega), p2.1 60 30 (by omega)]; exact p1.1 60 30 (by omega)
        refine z_istore (loc2 := [fr 60, fi x1, fi x5, fi x22, fi x23]) dX8_readClaim_84 (by decide) rfl ?_
        refine z_aload_nr dX8_readClaim_86 rfl ?_
        refine z_getr (b := 82) fl_X8_74 rfl (by decide) rf_60_31 rfl dX8_readClaim_87 ?_
        refine z_aload_nr dX8_readClaim_90 rfl ?_
        refine z_geti (kz := 30) fl_X8_252 rfl (by decide) rfl dX8_readClaim_91 (fun x24 hx24 bx24 => ?_)
        refine z_iload_n dX8_readClaim_94 rfl ?_
        refine z_iast rfl (by decide) (by omega) (by omega) dX8_readClaim_95 (fun Mz25 hMz25 => ?_)
        refine z_aload_nr dX8_readClaim_96 rfl ?_
        refine z_getr (b := 83) fl_X8_77 rfl (by decide) rf_60_32 rfl dX8_readClaim_97 ?_
        refine z_aload_nr dX8_readClaim_100 rfl ?_
        refine z_geti (kz := 30) fl_X8_252 rfl (by decide) rfl dX8_readClaim_101 (fun x26 hx26 bx26 => ?_)
        rw [hMz25, st_cell (by decide)] at hx26
        refine z_iload dX8_readClaim_104 rfl ?_
        refine z_iast rfl (by decide) (by omega) (by omega) dX8_readClaim_106 (fun Mz27 hMz27 => ?_)
        refine z_aload_nr dX8_readClaim_107 rfl ?_
        refine z_getr (b := 84) fl_X8_80 rfl (by decide) rf_60_33 rfl dX8_readClaim_108 ?_
        refine z_aload_nr dX8_readClaim_111 rfl ?_
        refine z_geti (kz := 30) fl_X8_252 rfl (by decide) rfl dX8_readClaim_112 (fun x28 hx28 bx28 => ?_)
        rw [hMz27, st_cell (by decide), hMz25, st_cell (by decide)] at hx28
        refine z_iload_n dX8_readClaim_115 rfl ?_
        refine z_zast rfl (by decide) (by omega) (by omega) (by first | omega | (have := i9q; omega)) dX8_readClaim_116 (fun Mz29 hMz29 => ?_)
        refine z_aload_nr dX8_readClaim_117 rfl ?_
        refine z_dup rfl dX8_readClaim_118 ?_
        refine z_geti (kz := 30) fl_X8_252 rfl (by decide) rfl dX8_readClaim_119 (fun x30 hx30 bx30 => ?_)
        rw [hMz29, st_cell (by decide), hMz27, st_cell (by decide), hMz25, st_cell (by decide)] at hx30
        refine z_iconst dX8_readClaim_122 ⟨by decide, by decide⟩ ?_
        first | refine z_iaddN dX8_readClaim_123 (by omega) (fun x31 hx31 => ?_) | refine z_iadd dX8_readClaim_123 (fun x31 hx31 => ?_)
        refine z_puti (kz := 30) fl_X8_252 rfl (by decide) rfl nr_60_30 dX8_readClaim_124 (fun Mz32 hMz32 => ?_)
        refine z_vret rfl (by decide) rfl (Nat.sub_self _) dX8_readClaim_127 ?_
        first
        | (have hC : srC t n s = e3 := by unfold srC; rw [← he1, ← he2, ← he3]
           rw [hC, ← he1]
           have hMM : Mz32 = st (st (st (st Mz23 82 (M 60 30) x1) 83 (M 60 30) x23) 84 (M 60 30) x5) 60 30 (M 60 30 + 1) := by
             rw [hMz32, hMz29, hMz27, hMz25]
             congr 1
             · congr 1
               · congr 1
                 · congr 1
                   omega
                 · omega
               · omega
             · omega
           refine ⟨fun b j u1 u2 u3 u4 => ?_, ?_, fun hz3 => ?_⟩
           · rw [hMM]
             unfold st
             rw [if_neg (by omega), if_neg (fun z => u3 z.1), if_neg (fun z => u2 z.1), if_neg (fun z => u1 z.1), p3.1 b j (by omega), p2.1 b j (by omega)]
             exact p1.1 b j (by omega)
           · exact Qs_cg p3.2.1 (fun i => by rw [hMM, st_cell (by decide), st_cell (by decide), st_cell (by decide), st_cell (by decide)]) (fun j a b => by rw [hMM, st_at, if_neg (by omega), st_cell (by decide), st_cell (by decide), st_cell (by decide)])
           · have v3 := opN_v (t := t) (n := n) (sg := 1) (lo := -40000) (hi := 40000) (s := e2) ok2 (by rw [← he3]; exact hz3)
             rw [← he3, c2] at v3
             have b3 := p3.2.2 hz3
             rw [c2] at b3
             have a0 := v3.2.2.2.2 0 (by decide)
             rw [w2] at a0
             have k82 : ∀ j, Mz23 82 j = M 82 j := fun j => by rw [p3.1 82 j (by omega), p2.1 82 j (by omega)]; exact p1.1 82 j (by omega)
             have k83 : ∀ j, Mz23 83 j = M 83 j := fun j => by rw [p3.1 83 j (by omega), p2.1 83 j (by omega)]; exact p1.1 83 j (by omega)
             have k84 : ∀ j, Mz23 84 j = M 84 j := fun j => by rw [p3.1 84 j (by omega), p2.1 84 j (by omega)]; exact p1.1 84 j (by omega)
             rw [hMM]
             refine ⟨st_same _ _ _ _, fun j => ⟨?_, ?_, ?_⟩⟩
             · rw [st_cell (by decide), st_cell (by decide), st_cell (by decide), st_at, k82, show x1 = e3.2.2 0 by omega]
             · rw [st_cell (by decide), st_cell (by decide), st_at, st_cell (by decide), k83, b3]
             · rw [st_cell (by decide), st_at, st_cell (by decide), st_cell (by decide), k84, p2.2.2])
        | (have hz1 : e1.1.1 ≠ 0 := by rw [← Qs_f q1]; omega
           have hA : opA t n e1 = e1 := by unfold opA; rw [if_neg (fun z => hz1 z.1), opW_f hz1]
           have hC : srC t n s = e1 := by unfold srC; rw [← he1, hA, opN_f hz1]
           rw [hC]
           exact ⟨fun b j _ _ _ u => p1.1 b j (by omega), q1, fun z => absurd z hz1⟩)
      · refine z_iconst dX8_readClaim_61 ⟨by decide, by decide⟩ ?_
        refine z_goto (tgt := 66) dX8_readClaim_62 (by decide) ?_
        refine z_iconst dX8_readClaim_66 ⟨by decide, by decide⟩ ?_
        refine z_aload_nr dX8_readClaim_67 rfl ?_
        refine z_geti (kz := 39) fl_X8_212 rfl (by decide) rfl dX8_readClaim_68 (fun x33 hx33 bx33 => ?_)
        have hwf := hx33
        have hgd : (((1 : Int) = 1) ∧ (isW (tm Mw) (Mw 60 35) (Mw 60 39) 9 ∨ isW (tm Mw) (Mw 60 35) (Mw 60 39) 10)) ∨ (((1 : Int) = 0) ∧ ¬ (isW (tm Mw) (Mw 60 35) (Mw 60 39) 9 ∨ isW (tm Mw) (Mw 60 35) (Mw 60 39) 10)) := by
          rw [hMw]
          rcases i9 with z | z
          · first
            | exact Or.inl ⟨rfl, Or.inl z.2⟩
            | (exfalso; omega)
          · first
            | (exfalso; omega)
            | (rcases i10 with y | y
               · first
                 | exact Or.inl ⟨rfl, Or.inr y.2⟩
                 | (exfalso; omega)
               · first
                 | (exfalso; omega)
                 | exact Or.inr ⟨rfl, fun w => w.elim z.2 y.2⟩)
        rw [hMw] at hgd
        refine z_callVi (n2 := 93) (A_X8_want l g Mz4 1 1 x33 (by omega) (by decide)) cb_X8_want cl_X8_226 (clr0 rfl rfl (by decide) (by decide)) rfl (by decide) ⟨_, rfl, rfl⟩ rfl (by decide) rfl (Nat.le_of_ble_eq_true rfl) rfl dX8_readClaim_71 (fun x34 Mz34 bx34 kMz34 hc34 => ?_)
        have wt := hc34
        have p2 := word_opA q1 hs1 ok1 tw1 i9 hgd hwf wt
        obtain ⟨e2, he2⟩ : ∃ z, z = opA t n e1 := ⟨_, rfl⟩
        rw [← he2] at p2
        have q2 := p2.2.1
        have ok2 : SOk n e2 := by rw [he2]; exact opA_ok ok1
        have c2 : e2.2.1 = 1 := by rw [he2, (opA_v (t := t) (n := n)).1]; omega
        have w2 : ∀ i, e2.2.2 i = e1.2.2 i := fun i => by rw [he2, (opA_v (t := t) (n := n)).1]
        refine z_istore_n (loc2 := [fr 60, fi x1, fi x5, fi x34, fu]) dX8_readClaim_74 (by decide) rfl ?_
        refine z_aload_nr dX8_readClaim_75 rfl ?_
        refine z_ldc (c := -40000) cn_X8_250 ⟨by decide, by decide⟩ dX8_readClaim_76 ?_
        refine z_ldc (c := 40000) cn_X8_251 ⟨by decide, by decide⟩ dX8_readClaim_78 ?_
        refine z_iconst dX8_readClaim_80 ⟨by decide, by decide⟩ ?_
        refine z_callVi (n2 := 93) (A_X8_takeNumber l g Mz34 (-40000) 40000 1 _ _ (e2) (q2) (ok2) (hn) (by omega)) cb_X8_takeNumber cl_X8_238 (clr0 rfl rfl (by decide) (by decide)) rfl (by decide) ⟨_, rfl, rfl⟩ rfl (by decide) rfl (Nat.le_of_ble_eq_true rfl) rfl dX8_readClaim_81 (fun x35 Mz35 bx35 kMz35 hc35 => ?_)
        have p3 := hc35
        obtain ⟨e3, he3⟩ : ∃ z, z = opN t n 1 (-40000) 40000 e2 := ⟨_, rfl⟩
        rw [← he3] at p3
        have n30 : Mz35 60 30 = M 60 30 := by rw [p3.1 60 30 (by omega), p2.1 60 30 (by omega)]; exact p1.1 60 30 (by omega)
        refine z_istore (loc2 := [fr 60, fi x1, fi x5, fi x34, fi x35]) dX8_readClaim_84 (by decide) rfl ?_
        refine z_aload_nr dX8_readClaim_86 rfl ?_
        refine z_getr (b := 82) fl_X8_74 rfl (by decide) rf_60_31 rfl dX8_readClaim_87 ?_
        refine z_aload_nr dX8_readClaim_90 rfl ?_
        refine z_geti (kz := 30) fl_X8_252 rfl (by decide) rfl dX8_readClaim_91 (fun x36 hx36 bx36 => ?_)
        refine z_iload_n dX8_readClaim_94 rfl ?_
        refine z_iast rfl (by decide) (by omega) (by omega) dX8_readClaim_95 (fun Mz37 hMz37 => ?_)
        refine z_aload_nr dX8_readClaim_96 rfl ?_
        refine z_getr (b := 83) fl_X8_77 rfl (by decide) rf_60_32 rfl dX8_readClaim_97 ?_
        refine z_aload_nr dX8_readClaim_100 rfl ?_
        refine z_geti (kz := 30) fl_X8_252 rfl (by decide) rfl dX8_readClaim_101 (fun x38 hx38 bx38 => ?_)
        rw [hMz37, st_cell (by decide)] at hx38
        refine z_iload dX8_readClaim_104 rfl ?_
        refine z_iast rfl (by decide) (by omega) (by omega) dX8_readClaim_106 (fun Mz39 hMz39 => ?_)
        refine z_aload_nr dX8_readClaim_107 rfl ?_
        refine z_getr (b := 84) fl_X8_80 rfl (by decide) rf_60_33 rfl dX8_readClaim_108 ?_
        refine z_aload_nr dX8_readClaim_111 rfl ?_
        refine z_geti (kz := 30) fl_X8_252 rfl (by decide) rfl dX8_readClaim_112 (fun x40 hx40 bx40 => ?_)
        rw [hMz39, st_cell (by decide), hMz37, st_cell (by decide)] at hx40
        refine z_iload_n dX8_readClaim_115 rfl ?_
        refine z_zast rfl (by decide) (by omega) (by omega) (by first | omega | (have := i9q; omega)) dX8_readClaim_116 (fun Mz41 hMz41 => ?_)
        refine z_aload_nr dX8_readClaim_117 rfl ?_
        refine z_dup rfl dX8_readClaim_118 ?_
        refine z_geti (kz := 30) fl_X8_252 rfl (by decide) rfl dX8_readClaim_119 (fun x42 hx42 bx42 => ?_)
        rw [hMz41, st_cell (by decide), hMz39, st_cell (by decide), hMz37, st_cell (by decide)] at hx42
        refine z_iconst dX8_readClaim_122 ⟨by decide, by decide⟩ ?_
        first | refine z_iaddN dX8_readClaim_123 (by omega) (fun x43 hx43 => ?_) | refine z_iadd dX8_readClaim_123 (fun x43 hx43 => ?_)
        refine z_puti (kz := 30) fl_X8_252 rfl (by decide) rfl nr_60_30 dX8_readClaim_124 (fun Mz44 hMz44 => ?_)
        refine z_vret rfl (by decide) rfl (Nat.sub_self _) dX8_readClaim_127 ?_
        first
        | (have hC : srC t n s = e3 := by unfold srC; rw [← he1, ← he2, ← he3]
           rw [hC, ← he1]
           have hMM : Mz44 = st (st (st (st Mz35 82 (M 60 30) x1) 83 (M 60 30) x35) 84 (M 60 30) x5) 60 30 (M 60 30 + 1) := by
             rw [hMz44, hMz41, hMz39, hMz37]
             congr 1
             · congr 1
               · congr 1
                 · congr 1
                   omega
                 · omega
               · omega
             · omega
           refine ⟨fun b j u1 u2 u3 u4 => ?_, ?_, fun hz3 => ?_⟩
           · rw [hMM]
             unfold st
             rw [if_neg (by omega), if_neg (fun z => u3 z.1), if_neg (fun z => u2 z.1), if_neg (fun z => u1 z.1), p3.1 b j (by omega), p2.1 b j (by omega)]
             exact p1.1 b j (by omega)
           · exact Qs_cg p3.2.1 (fun i => by rw [hMM, st_cell (by decide), st_cell (by decide), st_cell (by decide), st_cell (by decide)]) (fun j a b => by rw [hMM, st_at, if_neg (by omega), st_cell (by decide), st_cell (by decide), st_cell (by decide)])
           · have v3 := opN_v (t := t) (n := n) (sg := 1) (lo := -40000) (hi := 40000) (s := e2) ok2 (by rw [← he3]; exact hz3)
             rw [← he3, c2] at v3
             have b3 := p3.2.2 hz3
             rw [c2] at b3
             have a0 := v3.2.2.2.2 0 (by decide)
             rw [w2] at a0
             have k82 : ∀ j, Mz35 82 j = M 82 j := fun j => by rw [p3.1 82 j (by omega), p2.1 82 j (by omega)]; exact p1.1 82 j (by omega)
             have k83 : ∀ j, Mz35 83 j = M 83 j := fun j => by rw [p3.1 83 j (by omega), p2.1 83 j (by omega)]; exact p1.1 83 j (by omega)
             have k84 : ∀ j, Mz35 84 j = M 84 j := fun j => by rw [p3.1 84 j (by omega), p2.1 84 j (by omega)]; exact p1.1 84 j (by omega)
             rw [hMM]
             refine ⟨st_same _ _ _ _, fun j => ⟨?_, ?_, ?_⟩⟩
             · rw [st_cell (by decide), st_cell (by decide), st_cell (by decide), st_at, k82, show x1 = e3.2.2 0 by omega]
             · rw [st_cell (by decide), st_cell (by decide), st_at, st_cell (by decide), k83, b3]
             · rw [st_cell (by decide), st_at, st_cell (by decide), st_cell (by decide), k84, p2.2.2])
        | (have hz1 : e1.1.1 ≠ 0 := by rw [← Qs_f q1]; omega
           have hA : opA t n e1 = e1 := by unfold opA; rw [if_neg (fun z => hz1 z.1), opW_f hz1]
           have hC : srC t n s = e1 := by unfold srC; rw [← he1, hA, opN_f hz1]
           rw [hC]
           exact ⟨fun b j _ _ _ u => p1.1 b j (by omega), q1, fun z => absurd z hz1⟩)
