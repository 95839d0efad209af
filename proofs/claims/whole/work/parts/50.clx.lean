/-! ===== clauses of the reader ===== -/
def effR (r : Nat) (kd : Int) (v : Int → Int) (ab : Int) (M : FMem) : FMem := if kd = 0 then st (st (st (st M (r + 1) (v 0) (v 1)) (r + 2) (v 0) (v 2)) (r + 3) (v 0) (v 3)) (r + 4) (v 0) (v 4) else if kd = 1 then st (st M r 5 (v 0)) r 6 (v 1) else if kd = 2 then st M (r + 5) (v 0) (v 1) else if kd = 3 then st M r 7 (v 0) else st (st (st (st M (r + 6) (M r 11) (v 0)) (r + 8) (M r 11) ab) (r + 7) (M r 11) (v 1)) r 11 (M r 11 + 1)
theorem sk_sk (t : Int → Int) (n p : Int) : sk t n (sk t n p) = sk t n p := rn_no (rn_end (isB t) n p)
set_option maxHeartbeats 1600000 in
theorem A_X2_readSort42 (l : Launch) (g : Cx) (M : FMem) (M0 : FMem) (s : PS) (hR : Rs M0 s M) (hf : s.1.1 = 0) (hS : SOk (M0 17 1) s) (hn : M0 17 1 ≤ 240) (hz : s.2.1 = 0) : AMi l g true fi_X2_readSort [fr 17, fr 42] 93 M (fun q M2 => (q = 1 ∧ (clS (tx M0) (M0 17 1) s).1.1 = 0 ∧ ∃ M1, Rs M0 (clS (tx M0) (M0 17 1) s) M1 ∧ M2 = effR 42 0 (clS (tx M0) (M0 17 1) s).2.2 0 M1) ∨ (q = 0 ∧ (clS (tx M0) (M0 17 1) s).1.1 ≠ 0 ∧ Rs M0 (clS (tx M0) (M0 17 1) s) M2)) := by
  refine AMi_intro [fr 17, fr 42, fu] (by decide) (knall rfl) (Nat.le_of_ble_eq_true rfl) rfl ?_
  intro hNV hM0 μ
  have hR1 := hR.2.1 hf
  have hof := offR_tx hR.1
  have hsp := hS hf
  have hsb := sk_b (t := tx M0) hsp.1 hsp.2
  refine z_aload_nr dX2_readSort_0 rfl ?_
  refine z_iconst dX2_readSort_1 ⟨by decide, by decide⟩ ?_
  refine z_iconst dX2_readSort_2 ⟨by decide, by decide⟩ ?_
  refine z_callVi (n2 := 93) (A_X2_readNumber l g M 0 5 _ (s) (hR) (hf) (hS) (hn) (by omega)) cb_X2_readNumber cl_X2_92 (clr0 rfl rfl (by decide) (by decide)) rfl (by decide) ⟨_, rfl, rfl⟩ rfl (by decide) rfl (Nat.le_of_ble_eq_true rfl) rfl dX2_readSort_3 (fun x1 Mz1 bx1 kMz1 hc1 => ?_)
  have hop1 := hc1
  obtain ⟨e1, he1⟩ : ∃ z, z = opN (tx M0) (M0 17 1) 0 0 5 s := ⟨_, rfl⟩
  rw [← he1] at hop1
  have ok1 : SOk (M0 17 1) e1 := by rw [he1]; exact opN_ok hS
  refine z_if_eq (tgt := 110) dX2_readSort_6 (by decide) (fun c2 => ?_) (fun c2 => ?_)
  · refine z_iconst dX2_readSort_110 ⟨by decide, by decide⟩ ?_
    refine z_istore_n (loc2 := [fr 17, fr 42, fi 0]) dX2_readSort_111 (by decide) rfl ?_
    refine z_iload_n dX2_readSort_112 rfl ?_
    refine z_if_eq (tgt := 160) dX2_readSort_113 (by decide) (fun c3 => ?_) (fun c3 => ?_)
    · refine z_iload_n dX2_readSort_160 rfl ?_
      refine z_zret rfl (by omega) (by decide) rfl (Nat.sub_self _) dX2_readSort_161 ?_
      first
      | (refine Or.inl ⟨rfl, by rw [hC]; exact hs10, _, by rw [hC]; exact hop10.1, ?_⟩
         rw [hst2, hst1, hC]
         simp only [effR, if_true, Nat.reduceAdd]
         rw [g0, g1, g2, g3, g4, g5])
      | (have hz10 : e10.1.1 ≠ 0 := by
           rcases hop10.2 with h | h
           · exfalso; omega
           · exact h.2
         have hC : clS (tx M0) (M0 17 1) s = e10 := by
           unfold clS
           rw [← he1, ← he2, ← he3, ← he4, ← he5, ← he6, ← he7, ← he8, ← he9, ← he10]
         exact Or.inr ⟨rfl, by rw [hC]; exact hz10, by rw [hC]; exact hop10.1⟩)
      | (have hz9 : e9.1.1 ≠ 0 := by
           rcases hop9.2 with h | h
           · exfalso; omega
           · exact h.2
         have hC : clS (tx M0) (M0 17 1) s = e9 := by
           unfold clS
           rw [← he1, ← he2, ← he3, ← he4, ← he5, ← he6, ← he7, ← he8, ← he9, opE_f hz9]
         exact Or.inr ⟨rfl, by rw [hC]; exact hz9, by rw [hC]; exact hop9.1⟩)
      | (have hz8 : e8.1.1 ≠ 0 := by
           rcases hop8.2 with h | h
           · exfalso; omega
           · exact h.2
         have hC : clS (tx M0) (M0 17 1) s = e8 := by
           unfold clS
           rw [← he1, ← he2, ← he3, ← he4, ← he5, ← he6, ← he7, ← he8, opT_f hz8, opE_f hz8]
         exact Or.inr ⟨rfl, by rw [hC]; exact hz8, by rw [hC]; exact hop8.1⟩)
      | (have hz7 : e7.1.1 ≠ 0 := by
           rcases hop7.2 with h | h
           · exfalso; omega
           · exact h.2
         have hC : clS (tx M0) (M0 17 1) s = e7 := by
           unfold clS
           rw [← he1, ← he2, ← he3, ← he4, ← he5, ← he6, ← he7, opW_f hz7, opT_f hz7, opE_f hz7]
         exact Or.inr ⟨rfl, by rw [hC]; exact hz7, by rw [hC]; exact hop7.1⟩)
      | (have hz6 : e6.1.1 ≠ 0 := by
           rcases hop6.2 with h | h
           · exfalso; omega
           · exact h.2
         have hC : clS (tx M0) (M0 17 1) s = e6 := by
           unfold clS
           rw [← he1, ← he2, ← he3, ← he4, ← he5, ← he6, opN_f hz6, opW_f hz6, opT_f hz6, opE_f hz6]
         exact Or.inr ⟨rfl, by rw [hC]; exact hz6, by rw [hC]; exact hop6.1⟩)
      | (have hz5 : e5.1.1 ≠ 0 := by
           rcases hop5.2 with h | h
           · exfalso; omega
           · exact h.2
         have hC : clS (tx M0) (M0 17 1) s = e5 := by
           unfold clS
           rw [← he1, ← he2, ← he3, ← he4, ← he5, opW_f hz5, opN_f hz5, opW_f hz5, opT_f hz5, opE_f hz5]
         exact Or.inr ⟨rfl, by rw [hC]; exact hz5, by rw [hC]; exact hop5.1⟩)
      | (have hz4 : e4.1.1 ≠ 0 := by
           rcases hop4.2 with h | h
           · exfalso; omega
           · exact h.2
         have hC : clS (tx M0) (M0 17 1) s = e4 := by
           unfold clS
           rw [← he1, ← he2, ← he3, ← he4, opT_f hz4, opW_f hz4, opN_f hz4, opW_f hz4, opT_f hz4, opE_f hz4]
         exact Or.inr ⟨rfl, by rw [hC]; exact hz4, by rw [hC]; exact hop4.1⟩)
      | (have hz3 : e3.1.1 ≠ 0 := by
           rcases hop3.2 with h | h
           · exfalso; omega
           · exact h.2
         have hC : clS (tx M0) (M0 17 1) s = e3 := by
           unfold clS
           rw [← he1, ← he2, ← he3, opW_f hz3, opT_f hz3, opW_f hz3, opN_f hz3, opW_f hz3, opT_f hz3, opE_f hz3]
         exact Or.inr ⟨rfl, by rw [hC]; exact hz3, by rw [hC]; exact hop3.1⟩)
      | (have hz2 : e2.1.1 ≠ 0 := by
           rcases hop2.2 with h | h
           · exfalso; omega
           · exact h.2
         have hC : clS (tx M0) (M0 17 1) s = e2 := by
           unfold clS
           rw [← he1, ← he2, opN_f hz2, opW_f hz2, opT_f hz2, opW_f hz2, opN_f hz2, opW_f hz2, opT_f hz2, opE_f hz2]
         exact Or.inr ⟨rfl, by rw [hC]; exact hz2, by rw [hC]; exact hop2.1⟩)
      | (have hz1 : e1.1.1 ≠ 0 := by
           rcases hop1.2 with h | h
           · exfalso; omega
           · exact h.2
         have hC : clS (tx M0) (M0 17 1) s = e1 := by
           unfold clS
           rw [← he1, opW_f hz1, opN_f hz1, opW_f hz1, opT_f hz1, opW_f hz1, opN_f hz1, opW_f hz1, opT_f hz1, opE_f hz1]
         exact Or.inr ⟨rfl, by rw [hC]; exact hz1, by rw [hC]; exact hop1.1⟩)
    · exfalso; omega
  · have hs1 : e1.1.1 = 0 := by
      rcases hop1.2 with h | h
      · exact h.2
      · exfalso; omega
    have hv1 := opN_v (t := tx M0) (n := M0 17 1) (sg := 0) (lo := 0) (hi := 5) (s := s) hS (by rw [← he1]; exact hs1)
    rw [← he1] at hv1
    have hc1 : e1.2.1 = 1 := by omega
    refine z_aload_nr dX2_readSort_9 rfl ?_
    refine z_ldcs (j := 5) rfl (by decide) dX2_readSort_10 ?_
    refine z_callVi (n2 := 93) (A_X2_readWord l g Mz1 5 (by decide) _ (e1) (hop1.1) (hs1) (ok1) (hn)) cb_X2_readWord cl_X2_86 (clr0 rfl rfl (by decide) (by decide)) rfl (by decide) ⟨_, rfl, rfl⟩ rfl (by decide) rfl (Nat.le_of_ble_eq_true rfl) rfl dX2_readSort_12 (fun x4 Mz4 bx4 kMz4 hc4 => ?_)
    have hop2 := hc4
    obtain ⟨e2, he2⟩ : ∃ z, z = opW (tx M0) (M0 17 1) 5 e1 := ⟨_, rfl⟩
    rw [← he2] at hop2
    have ok2 : SOk (M0 17 1) e2 := by rw [he2]; exact opW_ok (by decide) ok1
    refine z_if_eq (tgt := 110) dX2_readSort_15 (by decide) (fun c5 => ?_) (fun c5 => ?_)
    · refine z_iconst dX2_readSort_110 ⟨by decide, by decide⟩ ?_
      refine z_istore_n (loc2 := [fr 17, fr 42, fi 0]) dX2_readSort_111 (by decide) rfl ?_
      refine z_iload_n dX2_readSort_112 rfl ?_
      refine z_if_eq (tgt := 160) dX2_readSort_113 (by decide) (fun c6 => ?_) (fun c6 => ?_)
      · refine z_iload_n dX2_readSort_160 rfl ?_
        refine z_zret rfl (by omega) (by decide) rfl (Nat.sub_self _) dX2_readSort_161 ?_
        first
        | (refine Or.inl ⟨rfl, by rw [hC]; exact hs10, _, by rw [hC]; exact hop10.1, ?_⟩
           rw [hst2, hst1, hC]
           simp only [effR, if_true, Nat.reduceAdd]
           rw [g0, g1, g2, g3, g4, g5])
        | (have hz10 : e10.1.1 ≠ 0 := by
             rcases hop10.2 with h | h
             · exfalso; omega
             · exact h.2
           have hC : clS (tx M0) (M0 17 1) s = e10 := by
             unfold clS
             rw [← he1, ← he2, ← he3, ← he4, ← he5, ← he6, ← he7, ← he8, ← he9, ← he10]
           exact Or.inr ⟨rfl, by rw [hC]; exact hz10, by rw [hC]; exact hop10.1⟩)
        | (have hz9 : e9.1.1 ≠ 0 := by
             rcases hop9.2 with h | h
             · exfalso; omega
             · exact h.2
           have hC : clS (tx M0) (M0 17 1) s = e9 := by
             unfold clS
             rw [← he1, ← he2, ← he3, ← he4, ← he5, ← he6, ← he7, ← he8, ← he9, opE_f hz9]
           exact Or.inr ⟨rfl, by rw [hC]; exact hz9, by rw [hC]; exact hop9.1⟩)
        | (have hz8 : e8.1.1 ≠ 0 := by
             rcases hop8.2 with h | h
             · exfalso; omega
             · exact h.2
           have hC : clS (tx M0) (M0 17 1) s = e8 := by
             unfold clS
             rw [← he1, ← he2, ← he3, ← he4, ← he5, ← he6, ← he7, ← he8, opT_f hz8, opE_f hz8]
           exact Or.inr ⟨rfl, by rw [hC]; exact hz8, by rw [hC]; exact hop8.1⟩)
        | (have hz7 : e7.1.1 ≠ 0 := by
             rcases hop7.2 with h | h
             · exfalso; omega
             · exact h.2
           have hC : clS (tx M0) (M0 17 1) s = e7 := by
             unfold clS
             rw [← he1, ← he2, ← he3, ← he4, ← he5, ← he6, ← he7, opW_f hz7, opT_f hz7, opE_f hz7]
           exact Or.inr ⟨rfl, by rw [hC]; exact hz7, by rw [hC]; exact hop7.1⟩)
        | (have hz6 : e6.1.1 ≠ 0 := by
             rcases hop6.2 with h | h
             · exfalso; omega
             · exact h.2
           have hC : clS (tx M0) (M0 17 1) s = e6 := by
             unfold clS
             rw [← he1, ← he2, ← he3, ← he4, ← he5, ← he6, opN_f hz6, opW_f hz6, opT_f hz6, opE_f hz6]
           exact Or.inr ⟨rfl, by rw [hC]; exact hz6, by rw [hC]; exact hop6.1⟩)
        | (have hz5 : e5.1.1 ≠ 0 := by
             rcases hop5.2 with h | h
             · exfalso; omega
             · exact h.2
           have hC : clS (tx M0) (M0 17 1) s = e5 := by
             unfold clS
             rw [← he1, ← he2, ← he3, ← he4, ← he5, opW_f hz5, opN_f hz5, opW_f hz5, opT_f hz5, opE_f hz5]
           exact Or.inr ⟨rfl, by rw [hC]; exact hz5, by rw [hC]; exact hop5.1⟩)
        | (have hz4 : e4.1.1 ≠ 0 := by
             rcases hop4.2 with h | h
             · exfalso; omega
             · exact h.2
           have hC : clS (tx M0) (M0 17 1) s = e4 := by
             unfold clS
             rw [← he1, ← he2, ← he3, ← he4, opT_f hz4, opW_f hz4, opN_f hz4, opW_f hz4, opT_f hz4, opE_f hz4]
           exact Or.inr ⟨rfl, by rw [hC]; exact hz4, by rw [hC]; exact hop4.1⟩)
        | (have hz3 : e3.1.1 ≠ 0 := by
             rcases hop3.2 with h | h
             · exfalso; omega
             · exact h.2
           have hC : clS (tx M0) (M0 17 1) s = e3 := by
             unfold clS
             rw [← he1, ← he2, ← he3, opW_f hz3, opT_f hz3, opW_f hz3, opN_f hz3, opW_f hz3, opT_f hz3, opE_f hz3]
           exact Or.inr ⟨rfl, by rw [hC]; exact hz3, by rw [hC]; exact hop3.1⟩)
        | (have hz2 : e2.1.1 ≠ 0 := by
             rcases hop2.2 with h | h
             · exfalso; omega
             · exact h.2
           have hC : clS (tx M0) (M0 17 1) s = e2 := by
             unfold clS
             rw [← he1, ← he2, opN_f hz2, opW_f hz2, opT_f hz2, opW_f hz2, opN_f hz2, opW_f hz2, opT_f hz2, opE_f hz2]
           exact Or.inr ⟨rfl, by rw [hC]; exact hz2, by rw [hC]; exact hop2.1⟩)
        | (have hz1 : e1.1.1 ≠ 0 := by
             rcases hop1.2 with h | h
             · exfalso; omega
             · exact h.2
           have hC : clS (tx M0) (M0 17 1) s = e1 := by
             unfold clS
             rw [← he1, opW_f hz1, opN_f hz1, opW_f hz1, opT_f hz1, opW_f hz1, opN_f hz1, opW_f hz1, opT_f hz1, opE_f hz1]
           exact Or.inr ⟨rfl, by rw [hC]; exact hz1, by rw [hC]; exact hop1.1⟩)
      · exfalso; omega
    · have hs2 : e2.1.1 = 0 := by
        rcases hop2.2 with h | h
        · exact h.2
        · exfalso; omega
      have hc2 : e2.2.1 = 1 := by rw [he2, (opW_v (t := tx M0) (n := M0 17 1)).1]; omega
      refine z_aload_nr dX2_readSort_18 rfl ?_
      refine z_sipush dX2_readSort_19 ⟨by decide, by decide⟩ (by decide) ?_
      refine z_sipush dX2_readSort_22 ⟨by decide, by decide⟩ (by decide) ?_
      refine z_callVi (n2 := 93) (A_X2_readSigned l g Mz4 (-9999) 9999 _ (e2) (hop2.1) (hs2) (ok2) (hn) (by omega)) cb_X2_readSigned cl_X2_97 (clr0 rfl rfl (by decide) (by decide)) rfl (by decide) ⟨_, rfl, rfl⟩ rfl (by decide) rfl (Nat.le_of_ble_eq_true rfl) rfl dX2_readSort_25 (fun x7 Mz7 bx7 kMz7 hc7 => ?_)
      have hop3 := hc7
      obtain ⟨e3, he3⟩ : ∃ z, z = opN (tx M0) (M0 17 1) 1 (-9999) 9999 e2 := ⟨_, rfl⟩
      rw [← he3] at hop3
      have ok3 : SOk (M0 17 1) e3 := by rw [he3]; exact opN_ok ok2
      refine z_if_eq (tgt := 110) dX2_readSort_28 (by decide) (fun c8 => ?_) (fun c8 => ?_)
      · refine z_iconst dX2_readSort_110 ⟨by decide, by decide⟩ ?_
        refine z_istore_n (loc2 := [fr 17, fr 42, fi 0]) dX2_readSort_111 (by decide) rfl ?_
        refine z_iload_n dX2_readSort_112 rfl ?_
        refine z_if_eq (tgt := 160) dX2_readSort_113 (by decide) (fun c9 => ?_) (fun c9 => ?_)
        · refine z_iload_n dX2_readSort_160 rfl ?_
          refine z_zret rfl (by omega) (by decide) rfl (Nat.sub_self _) dX2_readSort_161 ?_
          first
          | (refine Or.inl ⟨rfl, by rw [hC]; exact hs10, _, by rw [hC]; exact hop10.1, ?_⟩
             rw [hst2, hst1, hC]
             simp only [effR, if_true, Nat.reduceAdd]
             rw [g0, g1, g2, g3, g4, g5])
          | (have hz10 : e10.1.1 ≠ 0 := by
               rcases hop10.2 with h | h
               · exfalso; omega
               · exact h.2
             have hC : clS (tx M0) (M0 17 1) s = e10 := by
               unfold clS
               rw [← he1, ← he2, ← he3, ← he4, ← he5, ← he6, ← he7, ← he8, ← he9, ← he10]
             exact Or.inr ⟨rfl, by rw [hC]; exact hz10, by rw [hC]; exact hop10.1⟩)
          | (have hz9 : e9.1.1 ≠ 0 := by
               rcases hop9.2 with h | h
               · exfalso; omega
               · exact h.2
             have hC : clS (tx M0) (M0 17 1) s = e9 := by
               unfold clS
               rw [← he1, ← he2, ← he3, ← he4, ← he5, ← he6, ← he7, ← he8, ← he9, opE_f hz9]
             exact Or.inr ⟨rfl, by rw [hC]; exact hz9, by rw [hC]; exact hop9.1⟩)
          | (have hz8 : e8.1.1 ≠ 0 := by
               rcases hop8.2 with h | h
               · exfalso; omega
               · exact h.2
             have hC : clS (tx M0) (M0 17 1) s = e8 := by
               unfold clS
               rw [← he1, ← he2, ← he3, ← he4, ← he5, ← he6, ← he7, ← he8, opT_f hz8, opE_f hz8]
             exact Or.inr ⟨rfl, by rw [hC]; exact hz8, by rw [hC]; exact hop8.1⟩)
          | (have hz7 : e7.1.1 ≠ 0 := by
               rcases hop7.2 with h | h
               · exfalso; omega
               · exact h.2
             have hC : clS (tx M0) (M0 17 1) s = e7 := by
               unfold clS
               rw [← he1, ← he2, ← he3, ← he4, ← he5, ← he6, ← he7, opW_f hz7, opT_f hz7, opE_f hz7]
             exact Or.inr ⟨rfl, by rw [hC]; exact hz7, by rw [hC]; exact hop7.1⟩)
          | (have hz6 : e6.1.1 ≠ 0 := by
               rcases hop6.2 with h | h
               · exfalso; omega
               · exact h.2
             have hC : clS (tx M0) (M0 17 1) s = e6 := by
               unfold clS
               rw [← he1, ← he2, ← he3, ← he4, ← he5, ← he6, opN_f hz6, opW_f hz6, opT_f hz6, opE_f hz6]
             exact Or.inr ⟨rfl, by rw [hC]; exact hz6, by rw [hC]; exact hop6.1⟩)
          | (have hz5 : e5.1.1 ≠ 0 := by
               rcases hop5.2 with h | h
               · exfalso; omega
               · exact h.2
             have hC : clS (tx M0) (M0 17 1) s = e5 := by
               unfold clS
               rw [← he1, ← he2, ← he3, ← he4, ← he5, opW_f hz5, opN_f hz5, opW_f hz5, opT_f hz5, opE_f hz5]
             exact Or.inr ⟨rfl, by rw [hC]; exact hz5, by rw [hC]; exact hop5.1⟩)
          | (have hz4 : e4.1.1 ≠ 0 := by
               rcases hop4.2 with h | h
               · exfalso; omega
               · exact h.2
             have hC : clS (tx M0) (M0 17 1) s = e4 := by
               unfold clS
               rw [← he1, ← he2, ← he3, ← he4, opT_f hz4, opW_f hz4, opN_f hz4, opW_f hz4, opT_f hz4, opE_f hz4]
             exact Or.inr ⟨rfl, by rw [hC]; exact hz4, by rw [hC]; exact hop4.1⟩)
          | (have hz3 : e3.1.1 ≠ 0 := by
               rcases hop3.2 with h | h
               · exfalso; omega
               · exact h.2
             have hC : clS (tx M0) (M0 17 1) s = e3 := by
               unfold clS
               rw [← he1, ← he2, ← he3, opW_f hz3, opT_f hz3, opW_f hz3, opN_f hz3, opW_f hz3, opT_f hz3, opE_f hz3]
             exact Or.inr ⟨rfl, by rw [hC]; exact hz3, by rw [hC]; exact hop3.1⟩)
          | (have hz2 : e2.1.1 ≠ 0 := by
               rcases hop2.2 with h | h
               · exfalso; omega
               · exact h.2
             have hC : clS (tx M0) (M0 17 1) s = e2 := by
               unfold clS
               rw [← he1, ← he2, opN_f hz2, opW_f hz2, opT_f hz2, opW_f hz2, opN_f hz2, opW_f hz2, opT_f hz2, opE_f hz2]
             exact Or.inr ⟨rfl, by rw [hC]; exact hz2, by rw [hC]; exact hop2.1⟩)
          | (have hz1 : e1.1.1 ≠ 0 := by
               rcases hop1.2 with h | h
               · exfalso; omega
               · exact h.2
             have hC : clS (tx M0) (M0 17 1) s = e1 := by
               unfold clS
               rw [← he1, opW_f hz1, opN_f hz1, opW_f hz1, opT_f hz1, opW_f hz1, opN_f hz1, opW_f hz1, opT_f hz1, opE_f hz1]
             exact Or.inr ⟨rfl, by rw [hC]; exact hz1, by rw [hC]; exact hop1.1⟩)
        · exfalso; omega
      · have hs3 : e3.1.1 = 0 := by
          rcases hop3.2 with h | h
          · exact h.2
          · exfalso; omega
        have hv3 := opN_v (t := tx M0) (n := M0 17 1) (sg := 1) (lo := (-9999)) (hi := 9999) (s := e2) ok2 (by rw [← he3]; exact hs3)
        rw [← he3] at hv3
        have hc3 : e3.2.1 = 2 := by omega
        refine z_aload_nr dX2_readSort_31 rfl ?_
        refine z_ldcs (j := 6) rfl (by decide) dX2_readSort_32 ?_
        refine z_callVi (n2 := 93) (A_X2_readWord l g Mz7 6 (by decide) _ (e3) (hop3.1) (hs3) (ok3) (hn)) cb_X2_readWord cl_X2_86 (clr0 rfl rfl (by decide) (by decide)) rfl (by decide) ⟨_, rfl, rfl⟩ rfl (by decide) rfl (Nat.le_of_ble_eq_true rfl) rfl dX2_readSort_34 (fun x10 Mz10 bx10 kMz10 hc10 => ?_)
        have hop4 := hc10
        obtain ⟨e4, he4⟩ : ∃ z, z = opW (tx M0) (M0 17 1) 6 e3 := ⟨_, rfl⟩
        rw [← he4] at hop4
        have ok4 : SOk (M0 17 1) e4 := by rw [he4]; exact opW_ok (by decide) ok3
        refine z_if_eq (tgt := 110) dX2_readSort_37 (by decide) (fun c11 => ?_) (fun c11 => ?_)
        · refine z_iconst dX2_readSort_110 ⟨by decide, by decide⟩ ?_
          refine z_istore_n (loc2 := [fr 17, fr 42, fi 0]) dX2_readSort_111 (by decide) rfl ?_
          refine z_iload_n dX2_readSort_112 rfl ?_
          refine z_if_eq (tgt := 160) dX2_readSort_113 (by decide) (fun c12 => ?_) (fun c12 => ?_)
          · refine z_iload_n dX2_readSort_160 rfl ?_
            refine z_zret rfl (by omega) (by decide) rfl (Nat.sub_self _) dX2_readSort_161 ?_
            first
            | (refine Or.inl ⟨rfl, by rw [hC]; exact hs10, _, by rw [hC]; exact hop10.1, ?_⟩
               rw [hst2, hst1, hC]
               simp only [effR, if_true, Nat.reduceAdd]
               rw [g0, g1, g2, g3, g4, g5])
            | (have hz10 : e10.1.1 ≠ 0 := by
                 rcases hop10.2 with h | h
                 · exfalso; omega
                 · exact h.2
               have hC : clS (tx M0) (M0 17 1) s = e10 := by
                 unfold clS
                 rw [← he1, ← he2, ← he3, ← he4, ← he5, ← he6, ← he7, ← he8, ← he9, ← he10]
               exact Or.inr ⟨rfl, by rw [hC]; exact hz10, by rw [hC]; exact hop10.1⟩)
            | (have hz9 : e9.1.1 ≠ 0 := by
                 rcases hop9.2 with h | h
                 · exfalso; omega
                 · exact h.2
               have hC : clS (tx M0) (M0 17 1) s = e9 := by
                 unfold clS
                 rw [← he1, ← he2, ← he3, ← he4, ← he5, ← he6, ← he7, ← he8, ← he9, opE_f hz9]
               exact Or.inr ⟨rfl, by rw [hC]; exact hz9, by rw [hC]; exact hop9.1⟩)
            | (have hz8 : e8.1.1 ≠ 0 := by
                 rcases hop8.2 with h | h
                 · exfalso; omega
                 · exact h.2
               have hC : clS (tx M0) (M0 17 1) s = e8 := by
                 unfold clS
                 rw [← he1, ← he2, ← he3, ← he4, ← he5, ← he6, ← he7, ← he8, opT_f hz8, opE_f hz8]
               exact Or.inr ⟨rfl, by rw [hC]; exact hz8, by rw [hC]; exact hop8.1⟩)
            | (have hz7 : e7.1.1 ≠ 0 := by
                 rcases hop7.2 with h | h
                 · exfalso; omega
                 · exact h.2
               have hC : clS (tx M0) (M0 17 1) s = e7 := by
                 unfold clS
                 rw [← he1, ← he2, ← he3, ← he4, ← he5, ← he6, ← he7, opW_f hz7, opT_f hz7, opE_f hz7]
               exact Or.inr ⟨rfl, by rw [hC]; exact hz7, by rw [hC]; exact hop7.1⟩)
            | (have hz6 : e6.1.1 ≠ 0 := by
                 rcases hop6.2 with h | h
                 · exfalso; omega
                 · exact h.2
               have hC : clS (tx M0) (M0 17 1) s = e6 := by
                 unfold clS
                 rw [← he1, ← he2, ← he3, ← he4, ← he5, ← he6, opN_f hz6, opW_f hz6, opT_f hz6, opE_f hz6]
               exact Or.inr ⟨rfl, by rw [hC]; exact hz6, by rw [hC]; exact hop6.1⟩)
            | (have hz5 : e5.1.1 ≠ 0 := by
                 rcases hop5.2 with h | h
                 · exfalso; omega
                 · exact h.2
               have hC : clS (tx M0) (M0 17 1) s = e5 := by
                 unfold clS
                 rw [← he1, ← he2, ← he3, ← he4, ← he5, opW_f hz5, opN_f hz5, opW_f hz5, opT_f hz5, opE_f hz5]
               exact Or.inr ⟨rfl, by rw [hC]; exact hz5, by rw [hC]; exact hop5.1⟩)
            | (have hz4 : e4.1.1 ≠ 0 := by
                 rcases hop4.2 with h | h
                 · exfalso; omega
                 · exact h.2
               have hC : clS (tx M0) (M0 17 1) s = e4 := by
                 unfold clS
                 rw [← he1, ← he2, ← he3, ← he4, opT_f hz4, opW_f hz4, opN_f hz4, opW_f hz4, opT_f hz4, opE_f hz4]
               exact Or.inr ⟨rfl, by rw [hC]; exact hz4, by rw [hC]; exact hop4.1⟩)
            | (have hz3 : e3.1.1 ≠ 0 := by
                 rcases hop3.2 with h | h
                 · exfalso; omega
                 · exact h.2
               have hC : clS (tx M0) (M0 17 1) s = e3 := by
                 unfold clS
                 rw [← he1, ← he2, ← he3, opW_f hz3, opT_f hz3, opW_f hz3, opN_f hz3, opW_f hz3, opT_f hz3, opE_f hz3]
               exact Or.inr ⟨rfl, by rw [hC]; exact hz3, by rw [hC]; exact hop3.1⟩)
            | (have hz2 : e2.1.1 ≠ 0 := by
                 rcases hop2.2 with h | h
                 · exfalso; omega
                 · exact h.2
               have hC : clS (tx M0) (M0 17 1) s = e2 := by
                 unfold clS
                 rw [← he1, ← he2, opN_f hz2, opW_f hz2, opT_f hz2, opW_f hz2, opN_f hz2, opW_f hz2, opT_f hz2, opE_f hz2]
               exact Or.inr ⟨rfl, by rw [hC]; exact hz2, by rw [hC]; exact hop2.1⟩)
            | (have hz1 : e1.1.1 ≠ 0 := by
                 rcases hop1.2 with h | h
                 · exfalso; omega
                 · exact h.2
               have hC : clS (tx M0) (M0 17 1) s = e1 := by
                 unfold clS
                 rw [← he1, opW_f hz1, opN_f hz1, opW_f hz1, opT_f hz1, opW_f hz1, opN_f hz1, opW_f hz1, opT_f hz1, opE_f hz1]
               exact Or.inr ⟨rfl, by rw [hC]; exact hz1, by rw [hC]; exact hop1.1⟩)
          · exfalso; omega
        · have hs4 : e4.1.1 = 0 := by
            rcases hop4.2 with h | h
            · exact h.2
            · exfalso; omega
          have hc4 : e4.2.1 = 2 := by rw [he4, (opW_v (t := tx M0) (n := M0 17 1)).1]; omega
          refine z_aload_nr dX2_readSort_40 rfl ?_
          refine z_aload_nr dX2_readSort_41 rfl ?_
          refine z_callVip (n2 := 93) (A_X2_latest l g Mz10 (by have hq := (hop4.1.2.1 hs4).2.2.2.1; omega)) cb_X2_latest cl_X2_102 (clr0 rfl rfl (by decide) (by decide)) rfl (by decide) ⟨_, rfl, rfl⟩ rfl (by decide) rfl (Nat.le_of_ble_eq_true rfl) rfl dX2_readSort_42 (fun x13 bx13 hx13 => ?_)
          have hl5 : x13 = e4.2.2 (e4.2.1 - 1) := by rw [hx13, (hop4.1.2.1 hs4).2.2.2.1]; exact (hop4.1.2.1 hs4).2.2.2.2 _ (by omega) (by omega)
          refine z_sipush dX2_readSort_45 ⟨by decide, by decide⟩ (by decide) ?_
          refine z_callVi (n2 := 93) (A_X2_readSigned l g Mz10 x13 9999 _ (e4) (hop4.1) (hs4) (ok4) (hn) (by omega)) cb_X2_readSigned cl_X2_97 (clr0 rfl rfl (by decide) (by decide)) rfl (by decide) ⟨_, rfl, rfl⟩ rfl (by decide) rfl (Nat.le_of_ble_eq_true rfl) rfl dX2_readSort_48 (fun x14 Mz14 bx14 kMz14 hc14 => ?_)
          have hop5 := hc14
          rw [hl5] at hop5
          obtain ⟨e5, he5⟩ : ∃ z, z = opT (tx M0) (M0 17 1) 1 9999 e4 := ⟨_, rfl⟩
          rw [show opN (tx M0) (M0 17 1) 1 (e4.2.2 (e4.2.1 - 1)) 9999 e4 = e5 from he5.symm] at hop5
          have ok5 : SOk (M0 17 1) e5 := by rw [he5]; exact opT_ok ok4
          refine z_if_eq (tgt := 110) dX2_readSort_51 (by decide) (fun c15 => ?_) (fun c15 => ?_)
          · refine z_iconst dX2_readSort_110 ⟨by decide, by decide⟩ ?_
            refine z_istore_n (loc2 := [fr 17, fr 42, fi 0]) dX2_readSort_111 (by decide) rfl ?_
            refine z_iload_n dX2_readSort_112 rfl ?_
            refine z_if_eq (tgt := 160) dX2_readSort_113 (by decide) (fun c16 => ?_) (fun c16 => ?_)
            · refine z_iload_n dX2_readSort_160 rfl ?_
              refine z_zret rfl (by omega) (by decide) rfl (Nat.sub_self _) dX2_readSort_161 ?_
              first
              | (refine Or.inl ⟨rfl, by rw [hC]; exact hs10, _, by rw [hC]; exact hop10.1, ?_⟩
                 rw [hst2, hst1, hC]
                 simp only [effR, if_true, Nat.reduceAdd]
                 rw [g0, g1, g2, g3, g4, g5])
              | (have hz10 : e10.1.1 ≠ 0 := by
                   rcases hop10.2 with h | h
                   · exfalso; omega
                   · exact h.2
                 have hC : clS (tx M0) (M0 17 1) s = e10 := by
                   unfold clS
                   rw [← he1, ← he2, ← he3, ← he4, ← he5, ← he6, ← he7, ← he8, ← he9, ← he10]
                 exact Or.inr ⟨rfl, by rw [hC]; exact hz10, by rw [hC]; exact hop10.1⟩)
              | (have hz9 : e9.1.1 ≠ 0 := by
                   rcases hop9.2 with h | h
                   · exfalso; omega
                   · exact h.2
                 have hC : clS (tx M0) (M0 17 1) s = e9 := by
                   unfold clS
                   rw [← he1, ← he2, ← he3, ← he4, ← he5, ← he6, ← he7, ← he8, ← he9, opE_f hz9]
                 exact Or.inr ⟨rfl, by rw [hC]; exact hz9, by rw [hC]; exact hop9.1⟩)
              | (have hz8 : e8.1.1 ≠ 0 := by
                   rcases hop8.2 with h | h
                   · exfalso; omega
                   · exact h.2
                 have hC : clS (tx M0) (M0 17 1) s = e8 := by
                   unfold clS
                   rw [← he1, ← he2, ← he3, ← he4, ← he5, ← he6, ← he7, ← he8, opT_f hz8, opE_f hz8]
                 exact Or.inr ⟨rfl, by rw [hC]; exact hz8, by rw [hC]; exact hop8.1⟩)
              | (have hz7 : e7.1.1 ≠ 0 := by
                   rcases hop7.2 with h | h
                   · exfalso; omega
                   · exact h.2
                 have hC : clS (tx M0) (M0 17 1) s = e7 := by
                   unfold clS
                   rw [← he1, ← he2, ← he3, ← he4, ← he5, ← he6, ← he7, opW_f hz7, opT_f hz7, opE_f hz7]
                 exact Or.inr ⟨rfl, by rw [hC]; exact hz7, by rw [hC]; exact hop7.1⟩)
              | (have hz6 : e6.1.1 ≠ 0 := by
                   rcases hop6.2 with h | h
                   · exfalso; omega
                   · exact h.2
                 have hC : clS (tx M0) (M0 17 1) s = e6 := by
                   unfold clS
                   rw [← he1, ← he2, ← he3, ← he4, ← he5, ← he6, opN_f hz6, opW_f hz6, opT_f hz6, opE_f hz6]
                 exact Or.inr ⟨rfl, by rw [hC]; exact hz6, by rw [hC]; exact hop6.1⟩)
              | (have hz5 : e5.1.1 ≠ 0 := by
                   rcases hop5.2 with h | h
                   · exfalso; omega
                   · exact h.2
                 have hC : clS (tx M0) (M0 17 1) s = e5 := by
                   unfold clS
                   rw [← he1, ← he2, ← he3, ← he4, ← he5, opW_f hz5, opN_f hz5, opW_f hz5, opT_f hz5, opE_f hz5]
                 exact Or.inr ⟨rfl, by rw [hC]; exact hz5, by rw [hC]; exact hop5.1⟩)
              | (have hz4 : e4.1.1 ≠ 0 := by
                   rcases hop4.2 with h | h
                   · exfalso; omega
                   · exact h.2
                 have hC : clS (tx M0) (M0 17 1) s = e4 := by
                   unfold clS
                   rw [← he1, ← he2, ← he3, ← he4, opT_f hz4, opW_f hz4, opN_f hz4, opW_f hz4, opT_f hz4, opE_f hz4]
                 exact Or.inr ⟨rfl, by rw [hC]; exact hz4, by rw [hC]; exact hop4.1⟩)
              | (have hz3 : e3.1.1 ≠ 0 := by
                   rcases hop3.2 with h | h
                   · exfalso; omega
                   · exact h.2
                 have hC : clS (tx M0) (M0 17 1) s = e3 := by
                   unfold clS
                   rw [← he1, ← he2, ← he3, opW_f hz3, opT_f hz3, opW_f hz3, opN_f hz3, opW_f hz3, opT_f hz3, opE_f hz3]
                 exact Or.inr ⟨rfl, by rw [hC]; exact hz3, by rw [hC]; exact hop3.1⟩)
              | (have hz2 : e2.1.1 ≠ 0 := by
                   rcases hop2.2 with h | h
                   · exfalso; omega
                   · exact h.2
                 have hC : clS (tx M0) (M0 17 1) s = e2 := by
                   unfold clS
                   rw [← he1, ← he2, opN_f hz2, opW_f hz2, opT_f hz2, opW_f hz2, opN_f hz2, opW_f hz2, opT_f hz2, opE_f hz2]
                 exact Or.inr ⟨rfl, by rw [hC]; exact hz2, by rw [hC]; exact hop2.1⟩)
              | (have hz1 : e1.1.1 ≠ 0 := by
                   rcases hop1.2 with h | h
                   · exfalso; omega
                   · exact h.2
                 have hC : clS (tx M0) (M0 17 1) s = e1 := by
                   unfold clS
                   rw [← he1, opW_f hz1, opN_f hz1, opW_f hz1, opT_f hz1, opW_f hz1, opN_f hz1, opW_f hz1, opT_f hz1, opE_f hz1]
                 exact Or.inr ⟨rfl, by rw [hC]; exact hz1, by rw [hC]; exact hop1.1⟩)
            · exfalso; omega
          · have hs5 : e5.1.1 = 0 := by
              rcases hop5.2 with h | h
              · exact h.2
              · exfalso; omega
            have hv5 := opN_v (t := tx M0) (n := M0 17 1) (sg := 1) (lo := e4.2.2 (e4.2.1 - 1)) (hi := 9999) (s := e4) ok4 (by rw [show opN (tx M0) (M0 17 1) 1 (e4.2.2 (e4.2.1 - 1)) 9999 e4 = e5 from he5.symm]; exact hs5)
            rw [show opN (tx M0) (M0 17 1) 1 (e4.2.2 (e4.2.1 - 1)) 9999 e4 = e5 from he5.symm] at hv5
            have hc5 : e5.2.1 = 3 := by omega
            refine z_aload_nr dX2_readSort_54 rfl ?_
            refine z_ldcs (j := 7) rfl (by decide) dX2_readSort_55 ?_
            refine z_callVi (n2 := 93) (A_X2_readWord l g Mz14 7 (by decide) _ (e5) (hop5.1) (hs5) (ok5) (hn)) cb_X2_readWord cl_X2_86 (clr0 rfl rfl (by decide) (by decide)) rfl (by decide) ⟨_, rfl, rfl⟩ rfl (by decide) rfl (Nat.le_of_ble_eq_true rfl) rfl dX2_readSort_57 (fun x17 Mz17 bx17 kMz17 hc17 => ?_)
            have hop6 := hc17
            obtain ⟨e6, he6⟩ : ∃ z, z = opW (tx M0) (M0 17 1) 7 e5 := ⟨_, rfl⟩
            rw [← he6] at hop6
            have ok6 : SOk (M0 17 1) e6 := by rw [he6]; exact opW_ok (by decide) ok5
            refine z_if_eq (tgt := 110) dX2_readSort_60 (by decide) (fun c18 => ?_) (fun c18 => ?_)
            · refine z_iconst dX2_readSort_110 ⟨by decide, by decide⟩ ?_
              refine z_istore_n (loc2 := [fr 17, fr 42, fi 0]) dX2_readSort_111 (by decide) rfl ?_
              refine z_iload_n dX2_readSort_112 rfl ?_
              refine z_if_eq (tgt := 160) dX2_readSort_113 (by decide) (fun c19 => ?_) (fun c19 => ?_)
              · refine z_iload_n dX2_readSort_160 rfl ?_
                refine z_zret rfl (by omega) (by decide) rfl (Nat.sub_self _) dX2_readSort_161 ?_
                first
                | (refine Or.inl ⟨rfl, by rw [hC]; exact hs10, _, by rw [hC]; exact hop10.1, ?_⟩
                   rw [hst2, hst1, hC]
                   simp only [effR, if_true, Nat.reduceAdd]
                   rw [g0, g1, g2, g3, g4, g5])
                | (have hz10 : e10.1.1 ≠ 0 := by
                     rcases hop10.2 with h | h
                     · exfalso; omega
                     · exact h.2
                   have hC : clS (tx M0) (M0 17 1) s = e10 := by
                     unfold clS
                     rw [← he1, ← he2, ← he3, ← he4, ← he5, ← he6, ← he7, ← he8, ← he9, ← he10]
                   exact Or.inr ⟨rfl, by rw [hC]; exact hz10, by rw [hC]; exact hop10.1⟩)
                | (have hz9 : e9.1.1 ≠ 0 := by
                     rcases hop9.2 with h | h
                     · exfalso; omega
                     · exact h.2
                   have hC : clS (tx M0) (M0 17 1) s = e9 := by
                     unfold clS
                     rw [← he1, ← he2, ← he3, ← he4, ← he5, ← he6, ← he7, ← he8, ← he9, opE_f hz9]
                   exact Or.inr ⟨rfl, by rw [hC]; exact hz9, by rw [hC]; exact hop9.1⟩)
                | (have hz8 : e8.1.1 ≠ 0 := by
                     rcases hop8.2 with h | h
                     · exfalso; omega
                     · exact h.2
                   have hC : clS (tx M0) (M0 17 1) s = e8 := by
                     unfold clS
                     rw [← he1, ← he2, ← he3, ← he4, ← he5, ← he6, ← he7, ← he8, opT_f hz8, opE_f hz8]
                   exact Or.inr ⟨rfl, by rw [hC]; exact hz8, by rw [hC]; exact hop8.1⟩)
                | (have hz7 : e7.1.1 ≠ 0 := by
                     rcases hop7.2 with h | h
                     · exfalso; omega
                     · exact h.2
                   have hC : clS (tx M0) (M0 17 1) s = e7 := by
                     unfold clS
                     rw [← he1, ← he2, ← he3, ← he4, ← he5, ← he6, ← he7, opW_f hz7, opT_f hz7, opE_f hz7]
                   exact Or.inr ⟨rfl, by rw [hC]; exact hz7, by rw [hC]; exact hop7.1⟩)
                | (have hz6 : e6.1.1 ≠ 0 := by
                     rcases hop6.2 with h | h
                     · exfalso; omega
                     · exact h.2
                   have hC : clS (tx M0) (M0 17 1) s = e6 := by
                     unfold clS
                     rw [← he1, ← he2, ← he3, ← he4, ← he5, ← he6, opN_f hz6, opW_f hz6, opT_f hz6, opE_f hz6]
                   exact Or.inr ⟨rfl, by rw [hC]; exact hz6, by rw [hC]; exact hop6.1⟩)
                | (have hz5 : e5.1.1 ≠ 0 := by
                     rcases hop5.2 with h | h
                     · exfalso; omega
                     · exact h.2
                   have hC : clS (tx M0) (M0 17 1) s = e5 := by
                     unfold clS
                     rw [← he1, ← he2, ← he3, ← he4, ← he5, opW_f hz5, opN_f hz5, opW_f hz5, opT_f hz5, opE_f hz5]
                   exact Or.inr ⟨rfl, by rw [hC]; exact hz5, by rw [hC]; exact hop5.1⟩)
                | (have hz4 : e4.1.1 ≠ 0 := by
                     rcases hop4.2 with h | h
                     · exfalso; omega
                     · exact h.2
                   have hC : clS (tx M0) (M0 17 1) s = e4 := by
                     unfold clS
                     rw [← he1, ← he2, ← he3, ← he4, opT_f hz4, opW_f hz4, opN_f hz4, opW_f hz4, opT_f hz4, opE_f hz4]
                   exact Or.inr ⟨rfl, by rw [hC]; exact hz4, by rw [hC]; exact hop4.1⟩)
                | (have hz3 : e3.1.1 ≠ 0 := by
                     rcases hop3.2 with h | h
                     · exfalso; omega
                     · exact h.2
                   have hC : clS (tx M0) (M0 17 1) s = e3 := by
                     unfold clS
                     rw [← he1, ← he2, ← he3, opW_f hz3, opT_f hz3, opW_f hz3, opN_f hz3, opW_f hz3, opT_f hz3, opE_f hz3]
                   exact Or.inr ⟨rfl, by rw [hC]; exact hz3, by rw [hC]; exact hop3.1⟩)
                | (have hz2 : e2.1.1 ≠ 0 := by
                     rcases hop2.2 with h | h
                     · exfalso; omega
                     · exact h.2
                   have hC : clS (tx M0) (M0 17 1) s = e2 := by
                     unfold clS
                     rw [← he1, ← he2, opN_f hz2, opW_f hz2, opT_f hz2, opW_f hz2, opN_f hz2, opW_f hz2, opT_f hz2, opE_f hz2]
                   exact Or.inr ⟨rfl, by rw [hC]; exact hz2, by rw [hC]; exact hop2.1⟩)
                | (have hz1 : e1.1.1 ≠ 0 := by
                     rcases hop1.2 with h | h
                     · exfalso; omega
                     · exact h.2
                   have hC : clS (tx M0) (M0 17 1) s = e1 := by
                     unfold clS
                     rw [← he1, opW_f hz1, opN_f hz1, opW_f hz1, opT_f hz1, opW_f hz1, opN_f hz1, opW_f hz1, opT_f hz1, opE_f hz1]
                   exact Or.inr ⟨rfl, by rw [hC]; exact hz1, by rw [hC]; exact hop1.1⟩)
              · exfalso; omega
            · have hs6 : e6.1.1 = 0 := by
                rcases hop6.2 with h | h
                · exact h.2
                · exfalso; omega
              have hc6 : e6.2.1 = 3 := by rw [he6, (opW_v (t := tx M0) (n := M0 17 1)).1]; omega
              refine z_aload_nr dX2_readSort_63 rfl ?_
              refine z_sipush dX2_readSort_64 ⟨by decide, by decide⟩ (by decide) ?_
              refine z_sipush dX2_readSort_67 ⟨by decide, by decide⟩ (by decide) ?_
              refine z_callVi (n2 := 93) (A_X2_readSigned l g Mz17 (-9999) 9999 _ (e6) (hop6.1) (hs6) (ok6) (hn) (by omega)) cb_X2_readSigned cl_X2_97 (clr0 rfl rfl (by decide) (by decide)) rfl (by decide) ⟨_, rfl, rfl⟩ rfl (by decide) rfl (Nat.le_of_ble_eq_true rfl) rfl dX2_readSort_70 (fun x20 Mz20 bx20 kMz20 hc20 => ?_)
              have hop7 := hc20
              obtain ⟨e7, he7⟩ : ∃ z, z = opN (tx M0) (M0 17 1) 1 (-9999) 9999 e6 := ⟨_, rfl⟩
              rw [← he7] at hop7
              have ok7 : SOk (M0 17 1) e7 := by rw [he7]; exact opN_ok ok6
              refine z_if_eq (tgt := 110) dX2_readSort_73 (by decide) (fun c21 => ?_) (fun c21 => ?_)
              · refine z_iconst dX2_readSort_110 ⟨by decide, by decide⟩ ?_
                refine z_istore_n (loc2 := [fr 17, fr 42, fi 0]) dX2_readSort_111 (by decide) rfl ?_
                refine z_iload_n dX2_readSort_112 rfl ?_
                refine z_if_eq (tgt := 160) dX2_readSort_113 (by decide) (fun c22 => ?_) (fun c22 => ?_)
                · refine z_iload_n dX2_readSort_160 rfl ?_
                  refine z_zret rfl (by omega) (by decide) rfl (Nat.sub_self _) dX2_readSort_161 ?_
                  first
                  | (refine Or.inl ⟨rfl, by rw [hC]; exact hs10, _, by rw [hC]; exact hop10.1, ?_⟩
                     rw [hst2, hst1, hC]
                     simp only [effR, if_true, Nat.reduceAdd]
                     rw [g0, g1, g2, g3, g4, g5])
                  | (have hz10 : e10.1.1 ≠ 0 := by
                       rcases hop10.2 with h | h
                       · exfalso; omega
                       · exact h.2
                     have hC : clS (tx M0) (M0 17 1) s = e10 := by
                       unfold clS
                       rw [← he1, ← he2, ← he3, ← he4, ← he5, ← he6, ← he7, ← he8, ← he9, ← he10]
                     exact Or.inr ⟨rfl, by rw [hC]; exact hz10, by rw [hC]; exact hop10.1⟩)
                  | (have hz9 : e9.1.1 ≠ 0 := by
                       rcases hop9.2 with h | h
                       · exfalso; omega
                       · exact h.2
                     have hC : clS (tx M0) (M0 17 1) s = e9 := by
                       unfold clS
                       rw [← he1, ← he2, ← he3, ← he4, ← he5, ← he6, ← he7, ← he8, ← he9, opE_f hz9]
                     exact Or.inr ⟨rfl, by rw [hC]; exact hz9, by rw [hC]; exact hop9.1⟩)
                  | (have hz8 : e8.1.1 ≠ 0 := by
                       rcases hop8.2 with h | h
                       · exfalso; omega
                       · exact h.2
                     have hC : clS (tx M0) (M0 17 1) s = e8 := by
                       unfold clS
                       rw [← he1, ← he2, ← he3, ← he4, ← he5, ← he6, ← he7, ← he8, opT_f hz8, opE_f hz8]
                     exact Or.inr ⟨rfl, by rw [hC]; exact hz8, by rw [hC]; exact hop8.1⟩)
                  | (have hz7 : e7.1.1 ≠ 0 := by
                       rcases hop7.2 with h | h
                       · exfalso; omega
                       · exact h.2
                     have hC : clS (tx M0) (M0 17 1) s = e7 := by
                       unfold clS
                       rw [← he1, ← he2, ← he3, ← he4, ← he5, ← he6, ← he7, opW_f hz7, opT_f hz7, opE_f hz7]
                     exact Or.inr ⟨rfl, by rw [hC]; exact hz7, by rw [hC]; exact hop7.1⟩)
                  | (have hz6 : e6.1.1 ≠ 0 := by
                       rcases hop6.2 with h | h
                       · exfalso; omega
                       · exact h.2
                     have hC : clS (tx M0) (M0 17 1) s = e6 := by
                       unfold clS
                       rw [← he1, ← he2, ← he3, ← he4, ← he5, ← he6, opN_f hz6, opW_f hz6, opT_f hz6, opE_f hz6]
                     exact Or.inr ⟨rfl, by rw [hC]; exact hz6, by rw [hC]; exact hop6.1⟩)
                  | (have hz5 : e5.1.1 ≠ 0 := by
                       rcases hop5.2 with h | h
                       · exfalso; omega
                       · exact h.2
                     have hC : clS (tx M0) (M0 17 1) s = e5 := by
                       unfold clS
                       rw [← he1, ← he2, ← he3, ← he4, ← he5, opW_f hz5, opN_f hz5, opW_f hz5, opT_f hz5, opE_f hz5]
                     exact Or.inr ⟨rfl, by rw [hC]; exact hz5, by rw [hC]; exact hop5.1⟩)
                  | (have hz4 : e4.1.1 ≠ 0 := by
                       rcases hop4.2 with h | h
                       · exfalso; omega
                       · exact h.2
                     have hC : clS (tx M0) (M0 17 1) s = e4 := by
                       unfold clS
                       rw [← he1, ← he2, ← he3, ← he4, opT_f hz4, opW_f hz4, opN_f hz4, opW_f hz4, opT_f hz4, opE_f hz4]
                     exact Or.inr ⟨rfl, by rw [hC]; exact hz4, by rw [hC]; exact hop4.1⟩)
                  | (have hz3 : e3.1.1 ≠ 0 := by
                       rcases hop3.2 with h | h
                       · exfalso; omega
                       · exact h.2
                     have hC : clS (tx M0) (M0 17 1) s = e3 := by
                       unfold clS
                       rw [← he1, ← he2, ← he3, opW_f hz3, opT_f hz3, opW_f hz3, opN_f hz3, opW_f hz3, opT_f hz3, opE_f hz3]
                     exact Or.inr ⟨rfl, by rw [hC]; exact hz3, by rw [hC]; exact hop3.1⟩)
                  | (have hz2 : e2.1.1 ≠ 0 := by
                       rcases hop2.2 with h | h
                       · exfalso; omega
                       · exact h.2
                     have hC : clS (tx M0) (M0 17 1) s = e2 := by
                       unfold clS
                       rw [← he1, ← he2, opN_f hz2, opW_f hz2, opT_f hz2, opW_f hz2, opN_f hz2, opW_f hz2, opT_f hz2, opE_f hz2]
                     exact Or.inr ⟨rfl, by rw [hC]; exact hz2, by rw [hC]; exact hop2.1⟩)
                  | (have hz1 : e1.1.1 ≠ 0 := by
                       rcases hop1.2 with h | h
                       · exfalso; omega
                       · exact h.2
                     have hC : clS (tx M0) (M0 17 1) s = e1 := by
                       unfold clS
                       rw [← he1, opW_f hz1, opN_f hz1, opW_f hz1, opT_f hz1, opW_f hz1, opN_f hz1, opW_f hz1, opT_f hz1, opE_f hz1]
                     exact Or.inr ⟨rfl, by rw [hC]; exact hz1, by rw [hC]; exact hop1.1⟩)
                · exfalso; omega
              · have hs7 : e7.1.1 = 0 := by
                  rcases hop7.2 with h | h
                  · exact h.2
                  · exfalso; omega
                have hv7 := opN_v (t := tx M0) (n := M0 17 1) (sg := 1) (lo := (-9999)) (hi := 9999) (s := e6) ok6 (by rw [← he7]; exact hs7)
                rw [← he7] at hv7
                have hc7 : e7.2.1 = 4 := by omega
                refine z_aload_nr dX2_readSort_76 rfl ?_
                refine z_ldcs (j := 6) rfl (by decide) dX2_readSort_77 ?_
                refine z_callVi (n2 := 93) (A_X2_readWord l g Mz20 6 (by decide) _ (e7) (hop7.1) (hs7) (ok7) (hn)) cb_X2_readWord cl_X2_86 (clr0 rfl rfl (by decide) (by decide)) rfl (by decide) ⟨_, rfl, rfl⟩ rfl (by decide) rfl (Nat.le_of_ble_eq_true rfl) rfl dX2_readSort_79 (fun x23 Mz23 bx23 kMz23 hc23 => ?_)
                have hop8 := hc23
                obtain ⟨e8, he8⟩ : ∃ z, z = opW (tx M0) (M0 17 1) 6 e7 := ⟨_, rfl⟩
                rw [← he8] at hop8
                have ok8 : SOk (M0 17 1) e8 := by rw [he8]; exact opW_ok (by decide) ok7
                refine z_if_eq (tgt := 110) dX2_readSort_82 (by decide) (fun c24 => ?_) (fun c24 => ?_)
                · refine z_iconst dX2_readSort_110 ⟨by decide, by decide⟩ ?_
                  refine z_istore_n (loc2 := [fr 17, fr 42, fi 0]) dX2_readSort_111 (by decide) rfl ?_
                  refine z_iload_n dX2_readSort_112 rfl ?_
                  refine z_if_eq (tgt := 160) dX2_readSort_113 (by decide) (fun c25 => ?_) (fun c25 => ?_)
                  · refine z_iload_n dX2_readSort_160 rfl ?_
                    refine z_zret rfl (by omega) (by decide) rfl (Nat.sub_self _) dX2_readSort_161 ?_
                    first
                    | (refine Or.inl ⟨rfl, by rw [hC]; exact hs10, _, by rw [hC]; exact hop10.1, ?_⟩
                       rw [hst2, hst1, hC]
                       simp only [effR, if_true, Nat.reduceAdd]
                       rw [g0, g1, g2, g3, g4, g5])
                    | (have hz10 : e10.1.1 ≠ 0 := by
                         rcases hop10.2 with h | h
                         · exfalso; omega
                         · exact h.2
                       have hC : clS (tx M0) (M0 17 1) s = e10 := by
                         unfold clS
                         rw [← he1, ← he2, ← he3, ← he4, ← he5, ← he6, ← he7, ← he8, ← he9, ← he10]
                       exact Or.inr ⟨rfl, by rw [hC]; exact hz10, by rw [hC]; exact hop10.1⟩)
                    | (have hz9 : e9.1.1 ≠ 0 := by
                         rcases hop9.2 with h | h
                         · exfalso; omega
                         · exact h.2
                       have hC : clS (tx M0) (M0 17 1) s = e9 := by
                         unfold clS
                         rw [← he1, ← he2, ← he3, ← he4, ← he5, ← he6, ← he7, ← he8, ← he9, opE_f hz9]
                       exact Or.inr ⟨rfl, by rw [hC]; exact hz9, by rw [hC]; exact hop9.1⟩)
                    | (have hz8 : e8.1.1 ≠ 0 := by
                         rcases hop8.2 with h | h
                         · exfalso; omega
                         · exact h.2
                       have hC : clS (tx M0) (M0 17 1) s = e8 := by
                         unfold clS
                         rw [← he1, ← he2, ← he3, ← he4, ← he5, ← he6, ← he7, ← he8, opT_f hz8, opE_f hz8]
                       exact Or.inr ⟨rfl, by rw [hC]; exact hz8, by rw [hC]; exact hop8.1⟩)
                    | (have hz7 : e7.1.1 ≠ 0 := by
                         rcases hop7.2 with h | h
                         · exfalso; omega
                         · exact h.2
                       have hC : clS (tx M0) (M0 17 1) s = e7 := by
                         unfold clS
                         rw [← he1, ← he2, ← he3, ← he4, ← he5, ← he6, ← he7, opW_f hz7, opT_f hz7, opE_f hz7]
                       exact Or.inr ⟨rfl, by rw [hC]; exact hz7, by rw [hC]; exact hop7.1⟩)
                    | (have hz6 : e6.1.1 ≠ 0 := by
                         rcases hop6.2 with h | h
                         · exfalso; omega
                         · exact h.2
                       have hC : clS (tx M0) (M0 17 1) s = e6 := by
                         unfold clS
                         rw [← he1, ← he2, ← he3, ← he4, ← he5, ← he6, opN_f hz6, opW_f hz6, opT_f hz6, opE_f hz6]
                       exact Or.inr ⟨rfl, by rw [hC]; exact hz6, by rw [hC]; exact hop6.1⟩)
                    | (have hz5 : e5.1.1 ≠ 0 := by
                         rcases hop5.2 with h | h
                         · exfalso; omega
                         · exact h.2
                       have hC : clS (tx M0) (M0 17 1) s = e5 := by
                         unfold clS
                         rw [← he1, ← he2, ← he3, ← he4, ← he5, opW_f hz5, opN_f hz5, opW_f hz5, opT_f hz5, opE_f hz5]
                       exact Or.inr ⟨rfl, by rw [hC]; exact hz5, by rw [hC]; exact hop5.1⟩)
                    | (have hz4 : e4.1.1 ≠ 0 := by
                         rcases hop4.2 with h | h
                         · exfalso; omega
                         · exact h.2
                       have hC : clS (tx M0) (M0 17 1) s = e4 := by
                         unfold clS
                         rw [← he1, ← he2, ← he3, ← he4, opT_f hz4, opW_f hz4, opN_f hz4, opW_f hz4, opT_f hz4, opE_f hz4]
                       exact Or.inr ⟨rfl, by rw [hC]; exact hz4, by rw [hC]; exact hop4.1⟩)
                    | (have hz3 : e3.1.1 ≠ 0 := by
                         rcases hop3.2 with h | h
                         · exfalso; omega
                         · exact h.2
                       have hC : clS (tx M0) (M0 17 1) s = e3 := by
                         unfold clS
                         rw [← he1, ← he2, ← he3, opW_f hz3, opT_f hz3, opW_f hz3, opN_f hz3, opW_f hz3, opT_f hz3, opE_f hz3]
                       exact Or.inr ⟨rfl, by rw [hC]; exact hz3, by rw [hC]; exact hop3.1⟩)
                    | (have hz2 : e2.1.1 ≠ 0 := by
                         rcases hop2.2 with h | h
                         · exfalso; omega
                         · exact h.2
                       have hC : clS (tx M0) (M0 17 1) s = e2 := by
                         unfold clS
                         rw [← he1, ← he2, opN_f hz2, opW_f hz2, opT_f hz2, opW_f hz2, opN_f hz2, opW_f hz2, opT_f hz2, opE_f hz2]
                       exact Or.inr ⟨rfl, by rw [hC]; exact hz2, by rw [hC]; exact hop2.1⟩)
                    | (have hz1 : e1.1.1 ≠ 0 := by
                         rcases hop1.2 with h | h
                         · exfalso; omega
                         · exact h.2
                       have hC : clS (tx M0) (M0 17 1) s = e1 := by
                         unfold clS
                         rw [← he1, opW_f hz1, opN_f hz1, opW_f hz1, opT_f hz1, opW_f hz1, opN_f hz1, opW_f hz1, opT_f hz1, opE_f hz1]
                       exact Or.inr ⟨rfl, by rw [hC]; exact hz1, by rw [hC]; exact hop1.1⟩)
                  · exfalso; omega
                · have hs8 : e8.1.1 = 0 := by
                    rcases hop8.2 with h | h
                    · exact h.2
                    · exfalso; omega
                  have hc8 : e8.2.1 = 4 := by rw [he8, (opW_v (t := tx M0) (n := M0 17 1)).1]; omega
                  refine z_aload_nr dX2_readSort_85 rfl ?_
                  refine z_aload_nr dX2_readSort_86 rfl ?_
                  refine z_callVip (n2 := 93) (A_X2_latest l g Mz23 (by have hq := (hop8.1.2.1 hs8).2.2.2.1; omega)) cb_X2_latest cl_X2_102 (clr0 rfl rfl (by decide) (by decide)) rfl (by decide) ⟨_, rfl, rfl⟩ rfl (by decide) rfl (Nat.le_of_ble_eq_true rfl) rfl dX2_readSort_87 (fun x26 bx26 hx26 => ?_)
                  have hl9 : x26 = e8.2.2 (e8.2.1 - 1) := by rw [hx26, (hop8.1.2.1 hs8).2.2.2.1]; exact (hop8.1.2.1 hs8).2.2.2.2 _ (by omega) (by omega)
                  refine z_sipush dX2_readSort_90 ⟨by decide, by decide⟩ (by decide) ?_
                  refine z_callVi (n2 := 93) (A_X2_readSigned l g Mz23 x26 9999 _ (e8) (hop8.1) (hs8) (ok8) (hn) (by omega)) cb_X2_readSigned cl_X2_97 (clr0 rfl rfl (by decide) (by decide)) rfl (by decide) ⟨_, rfl, rfl⟩ rfl (by decide) rfl (Nat.le_of_ble_eq_true rfl) rfl dX2_readSort_93 (fun x27 Mz27 bx27 kMz27 hc27 => ?_)
                  have hop9 := hc27
                  rw [hl9] at hop9
                  obtain ⟨e9, he9⟩ : ∃ z, z = opT (tx M0) (M0 17 1) 1 9999 e8 := ⟨_, rfl⟩
                  rw [show opN (tx M0) (M0 17 1) 1 (e8.2.2 (e8.2.1 - 1)) 9999 e8 = e9 from he9.symm] at hop9
                  have ok9 : SOk (M0 17 1) e9 := by rw [he9]; exact opT_ok ok8
                  refine z_if_eq (tgt := 110) dX2_readSort_96 (by decide) (fun c28 => ?_) (fun c28 => ?_)
                  · refine z_iconst dX2_readSort_110 ⟨by decide, by decide⟩ ?_
                    refine z_istore_n (loc2 := [fr 17, fr 42, fi 0]) dX2_readSort_111 (by decide) rfl ?_
                    refine z_iload_n dX2_readSort_112 rfl ?_
                    refine z_if_eq (tgt := 160) dX2_readSort_113 (by decide) (fun c29 => ?_) (fun c29 => ?_)
                    · refine z_iload_n dX2_readSort_160 rfl ?_
                      refine z_zret rfl (by omega) (by decide) rfl (Nat.sub_self _) dX2_readSort_161 ?_
                      first
                      | (refine Or.inl ⟨rfl, by rw [hC]; exact hs10, _, by rw [hC]; exact hop10.1, ?_⟩
                         rw [hst2, hst1, hC]
                         simp only [effR, if_true, Nat.reduceAdd]
                         rw [g0, g1, g2, g3, g4, g5])
                      | (have hz10 : e10.1.1 ≠ 0 := by
                           rcases hop10.2 with h | h
                           · exfalso; omega
                           · exact h.2
                         have hC : clS (tx M0) (M0 17 1) s = e10 := by
                           unfold clS
                           rw [← he1, ← he2, ← he3, ← he4, ← he5, ← he6, ← he7, ← he8, ← he9, ← he10]
                         exact Or.inr ⟨rfl, by rw [hC]; exact hz10, by rw [hC]; exact hop10.1⟩)
                      | (have hz9 : e9.1.1 ≠ 0 := by
                           rcases hop9.2 with h | h
                           · exfalso; omega
                           · exact h.2
                         have hC : clS (tx M0) (M0 17 1) s = e9 := by
                           unfold clS
                           rw [← he1, ← he2, ← he3, ← he4, ← he5, ← he6, ← he7, ← he8, ← he9, opE_f hz9]
                         exact Or.inr ⟨rfl, by rw [hC]; exact hz9, by rw [hC]; exact hop9.1⟩)
                      | (have hz8 : e8.1.1 ≠ 0 := by
                           rcases hop8.2 with h | h
                           · exfalso; omega
                           · exact h.2
                         have hC : clS (tx M0) (M0 17 1) s = e8 := by
                           unfold clS
                           rw [← he1, ← he2, ← he3, ← he4, ← he5, ← he6, ← he7, ← he8, opT_f hz8, opE_f hz8]
                         exact Or.inr ⟨rfl, by rw [hC]; exact hz8, by rw [hC]; exact hop8.1⟩)
                      | (have hz7 : e7.1.1 ≠ 0 := by
                           rcases hop7.2 with h | h
                           · exfalso; omega
                           · exact h.2
                         have hC : clS (tx M0) (M0 17 1) s = e7 := by
                           unfold clS
                           rw [← he1, ← he2, ← he3, ← he4, ← he5, ← he6, ← he7, opW_f hz7, opT_f hz7, opE_f hz7]
                         exact Or.inr ⟨rfl, by rw [hC]; exact hz7, by rw [hC]; exact hop7.1⟩)
                      | (have hz6 : e6.1.1 ≠ 0 := by
                           rcases hop6.2 with h | h
                           · exfalso; omega
                           · exact h.2
                         have hC : clS (tx M0) (M0 17 1) s = e6 := by
                           unfold clS
                           rw [← he1, ← he2, ← he3, ← he4, ← he5, ← he6, opN_f hz6, opW_f hz6, opT_f hz6, opE_f hz6]
                         exact Or.inr ⟨rfl, by rw [hC]; exact hz6, by rw [hC]; exact hop6.1⟩)
                      | (have hz5 : e5.1.1 ≠ 0 := by
                           rcases hop5.2 with h | h
                           · exfalso; omega
                           · exact h.2
                         have hC : clS (tx M0) (M0 17 1) s = e5 := by
                           unfold clS
                           rw [← he1, ← he2, ← he3, ← he4, ← he5, opW_f hz5, opN_f hz5, opW_f hz5, opT_f hz5, opE_f hz5]
                         exact Or.inr ⟨rfl, by rw [hC]; exact hz5, by rw [hC]; exact hop5.1⟩)
                      | (have hz4 : e4.1.1 ≠ 0 := by
                           rcases hop4.2 with h | h
                           · exfalso; omega
                           · exact h.2
                         have hC : clS (tx M0) (M0 17 1) s = e4 := by
                           unfold clS
                           rw [← he1, ← he2, ← he3, ← he4, opT_f hz4, opW_f hz4, opN_f hz4, opW_f hz4, opT_f hz4, opE_f hz4]
                         exact Or.inr ⟨rfl, by rw [hC]; exact hz4, by rw [hC]; exact hop4.1⟩)
                      | (have hz3 : e3.1.1 ≠ 0 := by
                           rcases hop3.2 with h | h
                           · exfalso; omega
                           · exact h.2
                         have hC : clS (tx M0) (M0 17 1) s = e3 := by
                           unfold clS
                           rw [← he1, ← he2, ← he3, opW_f hz3, opT_f hz3, opW_f hz3, opN_f hz3, opW_f hz3, opT_f hz3, opE_f hz3]
                         exact Or.inr ⟨rfl, by rw [hC]; exact hz3, by rw [hC]; exact hop3.1⟩)
                      | (have hz2 : e2.1.1 ≠ 0 := by
                           rcases hop2.2 with h | h
                           · exfalso; omega
                           · exact h.2
                         have hC : clS (tx M0) (M0 17 1) s = e2 := by
                           unfold clS
                           rw [← he1, ← he2, opN_f hz2, opW_f hz2, opT_f hz2, opW_f hz2, opN_f hz2, opW_f hz2, opT_f hz2, opE_f hz2]
                         exact Or.inr ⟨rfl, by rw [hC]; exact hz2, by rw [hC]; exact hop2.1⟩)
                      | (have hz1 : e1.1.1 ≠ 0 := by
                           rcases hop1.2 with h | h
                           · exfalso; omega
                           · exact h.2
                         have hC : clS (tx M0) (M0 17 1) s = e1 := by
                           unfold clS
                           rw [← he1, opW_f hz1, opN_f hz1, opW_f hz1, opT_f hz1, opW_f hz1, opN_f hz1, opW_f hz1, opT_f hz1, opE_f hz1]
                         exact Or.inr ⟨rfl, by rw [hC]; exact hz1, by rw [hC]; exact hop1.1⟩)
                    · exfalso; omega
                  · have hs9 : e9.1.1 = 0 := by
                      rcases hop9.2 with h | h
                      · exact h.2
                      · exfalso; omega
                    have hv9 := opN_v (t := tx M0) (n := M0 17 1) (sg := 1) (lo := e8.2.2 (e8.2.1 - 1)) (hi := 9999) (s := e8) ok8 (by rw [show opN (tx M0) (M0 17 1) 1 (e8.2.2 (e8.2.1 - 1)) 9999 e8 = e9 from he9.symm]; exact hs9)
                    rw [show opN (tx M0) (M0 17 1) 1 (e8.2.2 (e8.2.1 - 1)) 9999 e8 = e9 from he9.symm] at hv9
                    have hc9 : e9.2.1 = 5 := by omega
                    refine z_aload_nr dX2_readSort_99 rfl ?_
                    refine z_callVi (n2 := 93) (A_X2_readEnd l g Mz27 _ (e9) (hop9.1) (hs9) (ok9) (hn)) cb_X2_readEnd cl_X2_108 (clr0 rfl rfl (by decide) (by decide)) rfl (by decide) ⟨_, rfl, rfl⟩ rfl (by decide) rfl (Nat.le_of_ble_eq_true rfl) rfl dX2_readSort_100 (fun x30 Mz30 bx30 kMz30 hc30 => ?_)
                    have hop10 := hc30
                    obtain ⟨e10, he10⟩ : ∃ z, z = opE (tx M0) (M0 17 1) e9 := ⟨_, rfl⟩
                    rw [← he10] at hop10
                    have ok10 : SOk (M0 17 1) e10 := by rw [he10]; exact opE_ok ok9
                    refine z_if_eq (tgt := 110) dX2_readSort_103 (by decide) (fun c31 => ?_) (fun c31 => ?_)
                    · refine z_iconst dX2_readSort_110 ⟨by decide, by decide⟩ ?_
                      refine z_istore_n (loc2 := [fr 17, fr 42, fi 0]) dX2_readSort_111 (by decide) rfl ?_
                      refine z_iload_n dX2_readSort_112 rfl ?_
                      refine z_if_eq (tgt := 160) dX2_readSort_113 (by decide) (fun c32 => ?_) (fun c32 => ?_)
                      · refine z_iload_n dX2_readSort_160 rfl ?_
                        refine z_zret rfl (by omega) (by decide) rfl (Nat.sub_self _) dX2_readSort_161 ?_
                        first
                        | (refine Or.inl ⟨rfl, by rw [hC]; exact hs10, _, by rw [hC]; exact hop10.1, ?_⟩
                           rw [hst2, hst1, hC]
                           simp only [effR, if_true, Nat.reduceAdd]
                           rw [g0, g1, g2, g3, g4, g5])
                        | (have hz10 : e10.1.1 ≠ 0 := by
                             rcases hop10.2 with h | h
                             · exfalso; omega
                             · exact h.2
                           have hC : clS (tx M0) (M0 17 1) s = e10 := by
                             unfold clS
                             rw [← he1, ← he2, ← he3, ← he4, ← he5, ← he6, ← he7, ← he8, ← he9, ← he10]
                           exact Or.inr ⟨rfl, by rw [hC]; exact hz10, by rw [hC]; exact hop10.1⟩)
                        | (have hz9 : e9.1.1 ≠ 0 := by
                             rcases hop9.2 with h | h
                             · exfalso; omega
                             · exact h.2
                           have hC : clS (tx M0) (M0 17 1) s = e9 := by
                             unfold clS
                             rw [← he1, ← he2, ← he3, ← he4, ← he5, ← he6, ← he7, ← he8, ← he9, opE_f hz9]
                           exact Or.inr ⟨rfl, by rw [hC]; exact hz9, by rw [hC]; exact hop9.1⟩)
                        | (have hz8 : e8.1.1 ≠ 0 := by
                             rcases hop8.2 with h | h
                             · exfalso; omega
                             · exact h.2
                           have hC : clS (tx M0) (M0 17 1) s = e8 := by
                             unfold clS
                             rw [← he1, ← he2, ← he3, ← he4, ← he5, ← he6, ← he7, ← he8, opT_f hz8, opE_f hz8]
                           exact Or.inr ⟨rfl, by rw [hC]; exact hz8, by rw [hC]; exact hop8.1⟩)
                        | (have hz7 : e7.1.1 ≠ 0 := by
                             rcases hop7.2 with h | h
                             · exfalso; omega
                             · exact h.2
                           have hC : clS (tx M0) (M0 17 1) s = e7 := by
                             unfold clS
                             rw [← he1, ← he2, ← he3, ← he4, ← he5, ← he6, ← he7, opW_f hz7, opT_f hz7, opE_f hz7]
                           exact Or.inr ⟨rfl, by rw [hC]; exact hz7, by rw [hC]; exact hop7.1⟩)
                        | (have hz6 : e6.1.1 ≠ 0 := by
                             rcases hop6.2 with h | h
                             · exfalso; omega
                             · exact h.2
                           have hC : clS (tx M0) (M0 17 1) s = e6 := by
                             unfold clS
                             rw [← he1, ← he2, ← he3, ← he4, ← he5, ← he6, opN_f hz6, opW_f hz6, opT_f hz6, opE_f hz6]
                           exact Or.inr ⟨rfl, by rw [hC]; exact hz6, by rw [hC]; exact hop6.1⟩)
                        | (have hz5 : e5.1.1 ≠ 0 := by
                             rcases hop5.2 with h | h
                             · exfalso; omega
                             · exact h.2
                           have hC : clS (tx M0) (M0 17 1) s = e5 := by
                             unfold clS
                             rw [← he1, ← he2, ← he3, ← he4, ← he5, opW_f hz5, opN_f hz5, opW_f hz5, opT_f hz5, opE_f hz5]
                           exact Or.inr ⟨rfl, by rw [hC]; exact hz5, by rw [hC]; exact hop5.1⟩)
                        | (have hz4 : e4.1.1 ≠ 0 := by
                             rcases hop4.2 with h | h
                             · exfalso; omega
                             · exact h.2
                           have hC : clS (tx M0) (M0 17 1) s = e4 := by
                             unfold clS
                             rw [← he1, ← he2, ← he3, ← he4, opT_f hz4, opW_f hz4, opN_f hz4, opW_f hz4, opT_f hz4, opE_f hz4]
                           exact Or.inr ⟨rfl, by rw [hC]; exact hz4, by rw [hC]; exact hop4.1⟩)
                        | (have hz3 : e3.1.1 ≠ 0 := by
                             rcases hop3.2 with h | h
                             · exfalso; omega
                             · exact h.2
                           have hC : clS (tx M0) (M0 17 1) s = e3 := by
                             unfold clS
                             rw [← he1, ← he2, ← he3, opW_f hz3, opT_f hz3, opW_f hz3, opN_f hz3, opW_f hz3, opT_f hz3, opE_f hz3]
                           exact Or.inr ⟨rfl, by rw [hC]; exact hz3, by rw [hC]; exact hop3.1⟩)
                        | (have hz2 : e2.1.1 ≠ 0 := by
                             rcases hop2.2 with h | h
                             · exfalso; omega
                             · exact h.2
                           have hC : clS (tx M0) (M0 17 1) s = e2 := by
                             unfold clS
                             rw [← he1, ← he2, opN_f hz2, opW_f hz2, opT_f hz2, opW_f hz2, opN_f hz2, opW_f hz2, opT_f hz2, opE_f hz2]
                           exact Or.inr ⟨rfl, by rw [hC]; exact hz2, by rw [hC]; exact hop2.1⟩)
                        | (have hz1 : e1.1.1 ≠ 0 := by
                             rcases hop1.2 with h | h
                             · exfalso; omega
                             · exact h.2
                           have hC : clS (tx M0) (M0 17 1) s = e1 := by
                             unfold clS
                             rw [← he1, opW_f hz1, opN_f hz1, opW_f hz1, opT_f hz1, opW_f hz1, opN_f hz1, opW_f hz1, opT_f hz1, opE_f hz1]
                           exact Or.inr ⟨rfl, by rw [hC]; exact hz1, by rw [hC]; exact hop1.1⟩)
                      · exfalso; omega
                    · have hs10 : e10.1.1 = 0 := by
                        rcases hop10.2 with h | h
                        · exact h.2
                        · exfalso; omega
                      have hc10 : e10.2.1 = 5 := by rw [he10, (opE_v (t := tx M0) (n := M0 17 1)).1]; omega
                      have hC : clS (tx M0) (M0 17 1) s = e10 := by unfold clS; rw [← he1, ← he2, ← he3, ← he4, ← he5, ← he6, ← he7, ← he8, ← he9, ← he10]
                      have hcv := clS_v (t := tx M0) hS hz (by rw [hC]; exact hs10)
                      rw [hC] at hcv
                      have hnu := (hop10.1.2.1 hs10).2.2.2.2
                      rw [hc10] at hnu
                      have hn0 := hnu 0 (by decide) (by decide)
                      have hn1 := hnu 1 (by decide) (by decide)
                      have hn2 := hnu 2 (by decide) (by decide)
                      have hn3 := hnu 3 (by decide) (by decide)
                      have hn4 := hnu 4 (by decide) (by decide)
                      refine z_iconst dX2_readSort_106 ⟨by decide, by decide⟩ ?_
                      refine z_goto (tgt := 111) dX2_readSort_107 (by decide) ?_
                      refine z_istore_n (loc2 := [fr 17, fr 42, fi 1]) dX2_readSort_111 (by decide) rfl ?_
                      refine z_iload_n dX2_readSort_112 rfl ?_
                      refine z_if_eq (tgt := 160) dX2_readSort_113 (by decide) (fun c33 => ?_) (fun c33 => ?_)
                      · exfalso; omega
                      · refine z_aload_nr dX2_readSort_116 rfl ?_
                        refine z_aload_nr dX2_readSort_117 rfl ?_
                        refine z_getr (b := 19) fl_X2_28 rfl (by decide) rf_17_5 rfl dX2_readSort_118 ?_
                        refine z_iconst dX2_readSort_121 ⟨by decide, by decide⟩ ?_
                        refine z_iald rfl (by decide) (by omega) (by omega) dX2_readSort_122 (fun x34 hx34 bx34 => ?_)
                        have g0 := hx34
                        rw [hn0] at g0
                        refine z_aload_nr dX2_readSort_123 rfl ?_
                        refine z_getr (b := 19) fl_X2_28 rfl (by decide) rf_17_5 rfl dX2_readSort_124 ?_
                        refine z_iconst dX2_readSort_127 ⟨by decide, by decide⟩ ?_
                        refine z_iald rfl (by decide) (by omega) (by omega) dX2_readSort_128 (fun x35 hx35 bx35 => ?_)
                        have g1 := hx35
                        rw [hn1] at g1
                        refine z_aload_nr dX2_readSort_129 rfl ?_
                        refine z_getr (b := 19) fl_X2_28 rfl (by decide) rf_17_5 rfl dX2_readSort_130 ?_
                        refine z_iconst dX2_readSort_133 ⟨by decide, by decide⟩ ?_
                        refine z_iald rfl (by decide) (by omega) (by omega) dX2_readSort_134 (fun x36 hx36 bx36 => ?_)
                        have g2 := hx36
                        rw [hn2] at g2
                        refine z_callVv (n2 := 93) (A_X3_setTime42 l g Mz30 x34 x35 x36 (by omega)) cb_X3_setTime cl_X2_112 (clr0 rfl rfl (by decide) (by decide)) rfl (by decide) ⟨_, rfl, rfl⟩ rfl (by decide) rfl (Nat.le_of_ble_eq_true rfl) rfl dX2_readSort_135 (fun Mz37 kMz37 hc37 => ?_)
                        have hst1 := hc37
                        refine z_aload_nr dX2_readSort_138 rfl ?_
                        refine z_aload_nr dX2_readSort_139 rfl ?_
                        refine z_getr (b := 19) fl_X2_28 rfl (by decide) rf_17_5 rfl dX2_readSort_140 ?_
                        refine z_iconst dX2_readSort_143 ⟨by decide, by decide⟩ ?_
                        refine z_iald rfl (by decide) (by omega) (by omega) dX2_readSort_144 (fun x38 hx38 bx38 => ?_)
                        have g3 := hx38
                        rw [hst1, st_cell (by decide), st_cell (by decide), hn0] at g3
                        refine z_aload_nr dX2_readSort_145 rfl ?_
                        refine z_getr (b := 19) fl_X2_28 rfl (by decide) rf_17_5 rfl dX2_readSort_146 ?_
                        refine z_iconst dX2_readSort_149 ⟨by decide, by decide⟩ ?_
                        refine z_iald rfl (by decide) (by omega) (by omega) dX2_readSort_150 (fun x39 hx39 bx39 => ?_)
                        have g4 := hx39
                        rw [hst1, st_cell (by decide), st_cell (by decide), hn3] at g4
                        refine z_aload_nr dX2_readSort_151 rfl ?_
                        refine z_getr (b := 19) fl_X2_28 rfl (by decide) rf_17_5 rfl dX2_readSort_152 ?_
                        refine z_iconst dX2_readSort_155 ⟨by decide, by decide⟩ ?_
                        refine z_iald rfl (by decide) (by omega) (by omega) dX2_readSort_156 (fun x40 hx40 bx40 => ?_)
                        have g5 := hx40
                        rw [hst1, st_cell (by decide), st_cell (by decide), hn4] at g5
                        refine z_callVv (n2 := 93) (A_X3_setColour42 l g Mz37 x38 x39 x40 (by omega)) cb_X3_setColour cl_X2_116 (clr0 rfl rfl (by decide) (by decide)) rfl (by decide) ⟨_, rfl, rfl⟩ rfl (by decide) rfl (Nat.le_of_ble_eq_true rfl) rfl dX2_readSort_157 (fun Mz41 kMz41 hc41 => ?_)
                        have hst2 := hc41
                        refine z_iload_n dX2_readSort_160 rfl ?_
                        refine z_zret rfl (by omega) (by decide) rfl (Nat.sub_self _) dX2_readSort_161 ?_
                        first
                        | (refine Or.inl ⟨rfl, by rw [hC]; exact hs10, _, by rw [hC]; exact hop10.1, ?_⟩
                           rw [hst2, hst1, hC]
                           simp only [effR, if_true, Nat.reduceAdd]
                           rw [g0, g1, g2, g3, g4, g5])
                        | (have hz10 : e10.1.1 ≠ 0 := by
                             rcases hop10.2 with h | h
                             · exfalso; omega
                             · exact h.2
                           have hC : clS (tx M0) (M0 17 1) s = e10 := by
                             unfold clS
                             rw [← he1, ← he2, ← he3, ← he4, ← he5, ← he6, ← he7, ← he8, ← he9, ← he10]
                           exact Or.inr ⟨rfl, by rw [hC]; exact hz10, by rw [hC]; exact hop10.1⟩)
                        | (have hz9 : e9.1.1 ≠ 0 := by
                             rcases hop9.2 with h | h
                             · exfalso; omega
                             · exact h.2
                           have hC : clS (tx M0) (M0 17 1) s = e9 := by
                             unfold clS
                             rw [← he1, ← he2, ← he3, ← he4, ← he5, ← he6, ← he7, ← he8, ← he9, opE_f hz9]
                           exact Or.inr ⟨rfl, by rw [hC]; exact hz9, by rw [hC]; exact hop9.1⟩)
                        | (have hz8 : e8.1.1 ≠ 0 := by
                             rcases hop8.2 with h | h
                             · exfalso; omega
                             · exact h.2
                           have hC : clS (tx M0) (M0 17 1) s = e8 := by
                             unfold clS
                             rw [← he1, ← he2, ← he3, ← he4, ← he5, ← he6, ← he7, ← he8, opT_f hz8, opE_f hz8]
                           exact Or.inr ⟨rfl, by rw [hC]; exact hz8, by rw [hC]; exact hop8.1⟩)
                        | (have hz7 : e7.1.1 ≠ 0 := by
                             rcases hop7.2 with h | h
                             · exfalso; omega
                             · exact h.2
                           have hC : clS (tx M0) (M0 17 1) s = e7 := by
                             unfold clS
                             rw [← he1, ← he2, ← he3, ← he4, ← he5, ← he6, ← he7, opW_f hz7, opT_f hz7, opE_f hz7]
                           exact Or.inr ⟨rfl, by rw [hC]; exact hz7, by rw [hC]; exact hop7.1⟩)
                        | (have hz6 : e6.1.1 ≠ 0 := by
                             rcases hop6.2 with h | h
                             · exfalso; omega
                             · exact h.2
                           have hC : clS (tx M0) (M0 17 1) s = e6 := by
                             unfold clS
                             rw [← he1, ← he2, ← he3, ← he4, ← he5, ← he6, opN_f hz6, opW_f hz6, opT_f hz6, opE_f hz6]
                           exact Or.inr ⟨rfl, by rw [hC]; exact hz6, by rw [hC]; exact hop6.1⟩)
                        | (have hz5 : e5.1.1 ≠ 0 := by
                             rcases hop5.2 with h | h
                             · exfalso; omega
                             · exact h.2
                           have hC : clS (tx M0) (M0 17 1) s = e5 := by
                             unfold clS
                             rw [← he1, ← he2, ← he3, ← he4, ← he5, opW_f hz5, opN_f hz5, opW_f hz5, opT_f hz5, opE_f hz5]
                           exact Or.inr ⟨rfl, by rw [hC]; exact hz5, by rw [hC]; exact hop5.1⟩)
                        | (have hz4 : e4.1.1 ≠ 0 := by
                             rcases hop4.2 with h | h
                             · exfalso; omega
                             · exact h.2
                           have hC : clS (tx M0) (M0 17 1) s = e4 := by
                             unfold clS
                             rw [← he1, ← he2, ← he3, ← he4, opT_f hz4, opW_f hz4, opN_f hz4, opW_f hz4, opT_f hz4, opE_f hz4]
                           exact Or.inr ⟨rfl, by rw [hC]; exact hz4, by rw [hC]; exact hop4.1⟩)
                        | (have hz3 : e3.1.1 ≠ 0 := by
                             rcases hop3.2 with h | h
                             · exfalso; omega
                             · exact h.2
                           have hC : clS (tx M0) (M0 17 1) s = e3 := by
                             unfold clS
                             rw [← he1, ← he2, ← he3, opW_f hz3, opT_f hz3, opW_f hz3, opN_f hz3, opW_f hz3, opT_f hz3, opE_f hz3]
                           exact Or.inr ⟨rfl, by rw [hC]; exact hz3, by rw [hC]; exact hop3.1⟩)
                        | (have hz2 : e2.1.1 ≠ 0 := by
                             rcases hop2.2 with h | h
                             · exfalso; omega
                             · exact h.2
                           have hC : clS (tx M0) (M0 17 1) s = e2 := by
                             unfold clS
                             rw [← he1, ← he2, opN_f hz2, opW_f hz2, opT_f hz2, opW_f hz2, opN_f hz2, opW_f hz2, opT_f hz2, opE_f hz2]
                           exact Or.inr ⟨rfl, by rw [hC]; exact hz2, by rw [hC]; exact hop2.1⟩)
                        | (have hz1 : e1.1.1 ≠ 0 := by
                             rcases hop1.2 with h | h
                             · exfalso; omega
                             · exact h.2
                           have hC : clS (tx M0) (M0 17 1) s = e1 := by
                             unfold clS
                             rw [← he1, opW_f hz1, opN_f hz1, opW_f hz1, opT_f hz1, opW_f hz1, opN_f hz1, opW_f hz1, opT_f hz1, opE_f hz1]
                           exact Or.inr ⟨rfl, by rw [hC]; exact hz1, by rw [hC]; exact hop1.1⟩)
set_option maxHeartbeats 1600000 in
theorem A_X2_readDust42 (l : Launch) (g : Cx) (M : FMem) (M0 : FMem) (s : PS) (hR : Rs M0 s M) (hf : s.1.1 = 0) (hS : SOk (M0 17 1) s) (hn : M0 17 1 ≤ 240) (hz : s.2.1 = 0) : AMi l g true fi_X2_readDust [fr 17, fr 42] 93 M (fun q M2 => (q = 1 ∧ (clD (tx M0) (M0 17 1) s).1.1 = 0 ∧ ∃ M1, Rs M0 (clD (tx M0) (M0 17 1) s) M1 ∧ M2 = effR 42 1 (clD (tx M0) (M0 17 1) s).2.2 0 M1) ∨ (q = 0 ∧ (clD (tx M0) (M0 17 1) s).1.1 ≠ 0 ∧ Rs M0 (clD (tx M0) (M0 17 1) s) M2)) := by
  refine AMi_intro [fr 17, fr 42, fu] (by decide) (knall rfl) (Nat.le_of_ble_eq_true rfl) rfl ?_
  intro hNV hM0 μ
  have hR1 := hR.2.1 hf
  have hof := offR_tx hR.1
  have hsp := hS hf
  have hsb := sk_b (t := tx M0) hsp.1 hsp.2
  refine z_aload_nr dX2_readDust_0 rfl ?_
  refine z_iconst dX2_readDust_1 ⟨by decide, by decide⟩ ?_
  refine z_bipush dX2_readDust_2 ⟨by decide, by decide⟩ (by decide) ?_
  refine z_callVi (n2 := 93) (A_X2_readNumber l g M 0 99 _ (s) (hR) (hf) (hS) (hn) (by omega)) cb_X2_readNumber cl_X2_92 (clr0 rfl rfl (by decide) (by decide)) rfl (by decide) ⟨_, rfl, rfl⟩ rfl (by decide) rfl (Nat.le_of_ble_eq_true rfl) rfl dX2_readDust_4 (fun x1 Mz1 bx1 kMz1 hc1 => ?_)
  have hop1 := hc1
  obtain ⟨e1, he1⟩ : ∃ z, z = opN (tx M0) (M0 17 1) 0 0 99 s := ⟨_, rfl⟩
  rw [← he1] at hop1
  have ok1 : SOk (M0 17 1) e1 := by rw [he1]; exact opN_ok hS
  refine z_if_eq (tgt := 43) dX2_readDust_7 (by decide) (fun c2 => ?_) (fun c2 => ?_)
  · refine z_iconst dX2_readDust_43 ⟨by decide, by decide⟩ ?_
    refine z_istore_n (loc2 := [fr 17, fr 42, fi 0]) dX2_readDust_44 (by decide) rfl ?_
    refine z_iload_n dX2_readDust_45 rfl ?_
    refine z_if_eq (tgt := 69) dX2_readDust_46 (by decide) (fun c3 => ?_) (fun c3 => ?_)
    · refine z_iload_n dX2_readDust_69 rfl ?_
      refine z_zret rfl (by omega) (by decide) rfl (Nat.sub_self _) dX2_readDust_70 ?_
      first
      | (refine Or.inl ⟨rfl, by rw [hC]; exact hs4, _, by rw [hC]; exact hop4.1, ?_⟩
         rw [hNONE, hC, g0, g1]
         rfl)
      | (have hz4 : e4.1.1 ≠ 0 := by
           rcases hop4.2 with h | h
           · exfalso; omega
           · exact h.2
         have hC : clD (tx M0) (M0 17 1) s = e4 := by
           unfold clD
           rw [← he1, ← he2, ← he3, ← he4]
         exact Or.inr ⟨rfl, by rw [hC]; exact hz4, by rw [hC]; exact hop4.1⟩)
      | (have hz3 : e3.1.1 ≠ 0 := by
           rcases hop3.2 with h | h
           · exfalso; omega
           · exact h.2
         have hC : clD (tx M0) (M0 17 1) s = e3 := by
           unfold clD
           rw [← he1, ← he2, ← he3, opE_f hz3]
         exact Or.inr ⟨rfl, by rw [hC]; exact hz3, by rw [hC]; exact hop3.1⟩)
      | (have hz2 : e2.1.1 ≠ 0 := by
           rcases hop2.2 with h | h
           · exfalso; omega
           · exact h.2
         have hC : clD (tx M0) (M0 17 1) s = e2 := by
           unfold clD
           rw [← he1, ← he2, opT_f hz2, opE_f hz2]
         exact Or.inr ⟨rfl, by rw [hC]; exact hz2, by rw [hC]; exact hop2.1⟩)
      | (have hz1 : e1.1.1 ≠ 0 := by
           rcases hop1.2 with h | h
           · exfalso; omega
           · exact h.2
         have hC : clD (tx M0) (M0 17 1) s = e1 := by
           unfold clD
           rw [← he1, opW_f hz1, opT_f hz1, opE_f hz1]
         exact Or.inr ⟨rfl, by rw [hC]; exact hz1, by rw [hC]; exact hop1.1⟩)
    · exfalso; omega
  · have hs1 : e1.1.1 = 0 := by
      rcases hop1.2 with h | h
      · exact h.2
      · exfalso; omega
    have hv1 := opN_v (t := tx M0) (n := M0 17 1) (sg := 0) (lo := 0) (hi := 99) (s := s) hS (by rw [← he1]; exact hs1)
    rw [← he1] at hv1
    have hc1 : e1.2.1 = 1 := by omega
    refine z_aload_nr dX2_readDust_10 rfl ?_
    refine z_ldcs (j := 6) rfl (by decide) dX2_readDust_11 ?_
    refine z_callVi (n2 := 93) (A_X2_readWord l g Mz1 6 (by decide) _ (e1) (hop1.1) (hs1) (ok1) (hn)) cb_X2_readWord cl_X2_86 (clr0 rfl rfl (by decide) (by decide)) rfl (by decide) ⟨_, rfl, rfl⟩ rfl (by decide) rfl (Nat.le_of_ble_eq_true rfl) rfl dX2_readDust_13 (fun x4 Mz4 bx4 kMz4 hc4 => ?_)
    have hop2 := hc4
    obtain ⟨e2, he2⟩ : ∃ z, z = opW (tx M0) (M0 17 1) 6 e1 := ⟨_, rfl⟩
    rw [← he2] at hop2
    have ok2 : SOk (M0 17 1) e2 := by rw [he2]; exact opW_ok (by decide) ok1
    refine z_if_eq (tgt := 43) dX2_readDust_16 (by decide) (fun c5 => ?_) (fun c5 => ?_)
    · refine z_iconst dX2_readDust_43 ⟨by decide, by decide⟩ ?_
      refine z_istore_n (loc2 := [fr 17, fr 42, fi 0]) dX2_readDust_44 (by decide) rfl ?_
      refine z_iload_n dX2_readDust_45 rfl ?_
      refine z_if_eq (tgt := 69) dX2_readDust_46 (by decide) (fun c6 => ?_) (fun c6 => ?_)
      · refine z_iload_n dX2_readDust_69 rfl ?_
        refine z_zret rfl (by omega) (by decide) rfl (Nat.sub_self _) dX2_readDust_70 ?_
        first
        | (refine Or.inl ⟨rfl, by rw [hC]; exact hs4, _, by rw [hC]; exact hop4.1, ?_⟩
           rw [hNONE, hC, g0, g1]
           rfl)
        | (have hz4 : e4.1.1 ≠ 0 := by
             rcases hop4.2 with h | h
             · exfalso; omega
             · exact h.2
           have hC : clD (tx M0) (M0 17 1) s = e4 := by
             unfold clD
             rw [← he1, ← he2, ← he3, ← he4]
           exact Or.inr ⟨rfl, by rw [hC]; exact hz4, by rw [hC]; exact hop4.1⟩)
        | (have hz3 : e3.1.1 ≠ 0 := by
             rcases hop3.2 with h | h
             · exfalso; omega
             · exact h.2
           have hC : clD (tx M0) (M0 17 1) s = e3 := by
             unfold clD
             rw [← he1, ← he2, ← he3, opE_f hz3]
           exact Or.inr ⟨rfl, by rw [hC]; exact hz3, by rw [hC]; exact hop3.1⟩)
        | (have hz2 : e2.1.1 ≠ 0 := by
             rcases hop2.2 with h | h
             · exfalso; omega
             · exact h.2
           have hC : clD (tx M0) (M0 17 1) s = e2 := by
             unfold clD
             rw [← he1, ← he2, opT_f hz2, opE_f hz2]
           exact Or.inr ⟨rfl, by rw [hC]; exact hz2, by rw [hC]; exact hop2.1⟩)
        | (have hz1 : e1.1.1 ≠ 0 := by
             rcases hop1.2 with h | h
             · exfalso; omega
             · exact h.2
           have hC : clD (tx M0) (M0 17 1) s = e1 := by
             unfold clD
             rw [← he1, opW_f hz1, opT_f hz1, opE_f hz1]
           exact Or.inr ⟨rfl, by rw [hC]; exact hz1, by rw [hC]; exact hop1.1⟩)
      · exfalso; omega
    · have hs2 : e2.1.1 = 0 := by
        rcases hop2.2 with h | h
        · exact h.2
        · exfalso; omega
      have hc2 : e2.2.1 = 1 := by rw [he2, (opW_v (t := tx M0) (n := M0 17 1)).1]; omega
      refine z_aload_nr dX2_readDust_19 rfl ?_
      refine z_aload_nr dX2_readDust_20 rfl ?_
      refine z_callVip (n2 := 93) (A_X2_latest l g Mz4 (by have hq := (hop2.1.2.1 hs2).2.2.2.1; omega)) cb_X2_latest cl_X2_102 (clr0 rfl rfl (by decide) (by decide)) rfl (by decide) ⟨_, rfl, rfl⟩ rfl (by decide) rfl (Nat.le_of_ble_eq_true rfl) rfl dX2_readDust_21 (fun x7 bx7 hx7 => ?_)
      have hl3 : x7 = e2.2.2 (e2.2.1 - 1) := by rw [hx7, (hop2.1.2.1 hs2).2.2.2.1]; exact (hop2.1.2.1 hs2).2.2.2.2 _ (by omega) (by omega)
      refine z_bipush dX2_readDust_24 ⟨by decide, by decide⟩ (by decide) ?_
      refine z_callVi (n2 := 93) (A_X2_readNumber l g Mz4 x7 99 _ (e2) (hop2.1) (hs2) (ok2) (hn) (by omega)) cb_X2_readNumber cl_X2_92 (clr0 rfl rfl (by decide) (by decide)) rfl (by decide) ⟨_, rfl, rfl⟩ rfl (by decide) rfl (Nat.le_of_ble_eq_true rfl) rfl dX2_readDust_26 (fun x8 Mz8 bx8 kMz8 hc8 => ?_)
      have hop3 := hc8
      rw [hl3] at hop3
      obtain ⟨e3, he3⟩ : ∃ z, z = opT (tx M0) (M0 17 1) 0 99 e2 := ⟨_, rfl⟩
      rw [show opN (tx M0) (M0 17 1) 0 (e2.2.2 (e2.2.1 - 1)) 99 e2 = e3 from he3.symm] at hop3
      have ok3 : SOk (M0 17 1) e3 := by rw [he3]; exact opT_ok ok2
      refine z_if_eq (tgt := 43) dX2_readDust_29 (by decide) (fun c9 => ?_) (fun c9 => ?_)
      · refine z_iconst dX2_readDust_43 ⟨by decide, by decide⟩ ?_
        refine z_istore_n (loc2 := [fr 17, fr 42, fi 0]) dX2_readDust_44 (by decide) rfl ?_
        refine z_iload_n dX2_readDust_45 rfl ?_
        refine z_if_eq (tgt := 69) dX2_readDust_46 (by decide) (fun c10 => ?_) (fun c10 => ?_)
        · refine z_iload_n dX2_readDust_69 rfl ?_
          refine z_zret rfl (by omega) (by decide) rfl (Nat.sub_self _) dX2_readDust_70 ?_
          first
          | (refine Or.inl ⟨rfl, by rw [hC]; exact hs4, _, by rw [hC]; exact hop4.1, ?_⟩
             rw [hNONE, hC, g0, g1]
             rfl)
          | (have hz4 : e4.1.1 ≠ 0 := by
               rcases hop4.2 with h | h
               · exfalso; omega
               · exact h.2
             have hC : clD (tx M0) (M0 17 1) s = e4 := by
               unfold clD
               rw [← he1, ← he2, ← he3, ← he4]
             exact Or.inr ⟨rfl, by rw [hC]; exact hz4, by rw [hC]; exact hop4.1⟩)
          | (have hz3 : e3.1.1 ≠ 0 := by
               rcases hop3.2 with h | h
               · exfalso; omega
               · exact h.2
             have hC : clD (tx M0) (M0 17 1) s = e3 := by
               unfold clD
               rw [← he1, ← he2, ← he3, opE_f hz3]
             exact Or.inr ⟨rfl, by rw [hC]; exact hz3, by rw [hC]; exact hop3.1⟩)
          | (have hz2 : e2.1.1 ≠ 0 := by
               rcases hop2.2 with h | h
               · exfalso; omega
               · exact h.2
             have hC : clD (tx M0) (M0 17 1) s = e2 := by
               unfold clD
               rw [← he1, ← he2, opT_f hz2, opE_f hz2]
             exact Or.inr ⟨rfl, by rw [hC]; exact hz2, by rw [hC]; exact hop2.1⟩)
          | (have hz1 : e1.1.1 ≠ 0 := by
               rcases hop1.2 with h | h
               · exfalso; omega
               · exact h.2
             have hC : clD (tx M0) (M0 17 1) s = e1 := by
               unfold clD
               rw [← he1, opW_f hz1, opT_f hz1, opE_f hz1]
             exact Or.inr ⟨rfl, by rw [hC]; exact hz1, by rw [hC]; exact hop1.1⟩)
        · exfalso; omega
      · have hs3 : e3.1.1 = 0 := by
          rcases hop3.2 with h | h
          · exact h.2
          · exfalso; omega
        have hv3 := opN_v (t := tx M0) (n := M0 17 1) (sg := 0) (lo := e2.2.2 (e2.2.1 - 1)) (hi := 99) (s := e2) ok2 (by rw [show opN (tx M0) (M0 17 1) 0 (e2.2.2 (e2.2.1 - 1)) 99 e2 = e3 from he3.symm]; exact hs3)
        rw [show opN (tx M0) (M0 17 1) 0 (e2.2.2 (e2.2.1 - 1)) 99 e2 = e3 from he3.symm] at hv3
        have hc3 : e3.2.1 = 2 := by omega
        refine z_aload_nr dX2_readDust_32 rfl ?_
        refine z_callVi (n2 := 93) (A_X2_readEnd l g Mz8 _ (e3) (hop3.1) (hs3) (ok3) (hn)) cb_X2_readEnd cl_X2_108 (clr0 rfl rfl (by decide) (by decide)) rfl (by decide) ⟨_, rfl, rfl⟩ rfl (by decide) rfl (Nat.le_of_ble_eq_true rfl) rfl dX2_readDust_33 (fun x11 Mz11 bx11 kMz11 hc11 => ?_)
        have hop4 := hc11
        obtain ⟨e4, he4⟩ : ∃ z, z = opE (tx M0) (M0 17 1) e3 := ⟨_, rfl⟩
        rw [← he4] at hop4
        have ok4 : SOk (M0 17 1) e4 := by rw [he4]; exact opE_ok ok3
        refine z_if_eq (tgt := 43) dX2_readDust_36 (by decide) (fun c12 => ?_) (fun c12 => ?_)
        · refine z_iconst dX2_readDust_43 ⟨by decide, by decide⟩ ?_
          refine z_istore_n (loc2 := [fr 17, fr 42, fi 0]) dX2_readDust_44 (by decide) rfl ?_
          refine z_iload_n dX2_readDust_45 rfl ?_
          refine z_if_eq (tgt := 69) dX2_readDust_46 (by decide) (fun c13 => ?_) (fun c13 => ?_)
          · refine z_iload_n dX2_readDust_69 rfl ?_
            refine z_zret rfl (by omega) (by decide) rfl (Nat.sub_self _) dX2_readDust_70 ?_
            first
            | (refine Or.inl ⟨rfl, by rw [hC]; exact hs4, _, by rw [hC]; exact hop4.1, ?_⟩
               rw [hNONE, hC, g0, g1]
               rfl)
            | (have hz4 : e4.1.1 ≠ 0 := by
                 rcases hop4.2 with h | h
                 · exfalso; omega
                 · exact h.2
               have hC : clD (tx M0) (M0 17 1) s = e4 := by
                 unfold clD
                 rw [← he1, ← he2, ← he3, ← he4]
               exact Or.inr ⟨rfl, by rw [hC]; exact hz4, by rw [hC]; exact hop4.1⟩)
            | (have hz3 : e3.1.1 ≠ 0 := by
                 rcases hop3.2 with h | h
                 · exfalso; omega
                 · exact h.2
               have hC : clD (tx M0) (M0 17 1) s = e3 := by
                 unfold clD
                 rw [← he1, ← he2, ← he3, opE_f hz3]
               exact Or.inr ⟨rfl, by rw [hC]; exact hz3, by rw [hC]; exact hop3.1⟩)
            | (have hz2 : e2.1.1 ≠ 0 := by
                 rcases hop2.2 with h | h
                 · exfalso; omega
                 · exact h.2
               have hC : clD (tx M0) (M0 17 1) s = e2 := by
                 unfold clD
                 rw [← he1, ← he2, opT_f hz2, opE_f hz2]
               exact Or.inr ⟨rfl, by rw [hC]; exact hz2, by rw [hC]; exact hop2.1⟩)
            | (have hz1 : e1.1.1 ≠ 0 := by
                 rcases hop1.2 with h | h
                 · exfalso; omega
                 · exact h.2
               have hC : clD (tx M0) (M0 17 1) s = e1 := by
                 unfold clD
                 rw [← he1, opW_f hz1, opT_f hz1, opE_f hz1]
               exact Or.inr ⟨rfl, by rw [hC]; exact hz1, by rw [hC]; exact hop1.1⟩)
          · exfalso; omega
        · have hs4 : e4.1.1 = 0 := by
            rcases hop4.2 with h | h
            · exact h.2
            · exfalso; omega
          have hc4 : e4.2.1 = 2 := by rw [he4, (opE_v (t := tx M0) (n := M0 17 1)).1]; omega
          have hC : clD (tx M0) (M0 17 1) s = e4 := by unfold clD; rw [← he1, ← he2, ← he3, ← he4]
          have hcv := clD_v (t := tx M0) hS hz (by rw [hC]; exact hs4)
          rw [hC] at hcv
          have hnu := (hop4.1.2.1 hs4).2.2.2.2
          rw [hc4] at hnu
          have hn0 := hnu 0 (by decide) (by decide)
          have hn1 := hnu 1 (by decide) (by decide)
          refine z_iconst dX2_readDust_39 ⟨by decide, by decide⟩ ?_
          refine z_goto (tgt := 44) dX2_readDust_40 (by decide) ?_
          refine z_istore_n (loc2 := [fr 17, fr 42, fi 1]) dX2_readDust_44 (by decide) rfl ?_
          refine z_iload_n dX2_readDust_45 rfl ?_
          refine z_if_eq (tgt := 69) dX2_readDust_46 (by decide) (fun c14 => ?_) (fun c14 => ?_)
          · exfalso; omega
          · refine z_aload_nr dX2_readDust_49 rfl ?_
            refine z_aload_nr dX2_readDust_50 rfl ?_
            refine z_getr (b := 19) fl_X2_28 rfl (by decide) rf_17_5 rfl dX2_readDust_51 ?_
            refine z_iconst dX2_readDust_54 ⟨by decide, by decide⟩ ?_
            refine z_iald rfl (by decide) (by omega) (by omega) dX2_readDust_55 (fun x15 hx15 bx15 => ?_)
            have g0 := hx15
            rw [hn0] at g0
            refine z_puti (kz := 5) fl_X2_119 rfl (by decide) rfl nr_42_5 dX2_readDust_56 (fun Mz16 hMz16 => ?_)
            refine z_aload_nr dX2_readDust_59 rfl ?_
            refine z_aload_nr dX2_readDust_60 rfl ?_
            refine z_getr (b := 19) fl_X2_28 rfl (by decide) rf_17_5 rfl dX2_readDust_61 ?_
            refine z_iconst dX2_readDust_64 ⟨by decide, by decide⟩ ?_
            refine z_iald rfl (by decide) (by omega) (by omega) dX2_readDust_65 (fun x17 hx17 bx17 => ?_)
            rw [hMz16, st_cell (by decide)] at hx17
            have g1 := hx17
            rw [hn1] at g1
            refine z_puti (kz := 6) fl_X2_122 rfl (by decide) rfl nr_42_6 dX2_readDust_66 (fun Mz18 hMz18 => ?_)
            refine z_iload_n dX2_readDust_69 rfl ?_
            refine z_zret rfl (by omega) (by decide) rfl (Nat.sub_self _) dX2_readDust_70 ?_
            first
            | (refine Or.inl ⟨rfl, by rw [hC]; exact hs4, _, by rw [hC]; exact hop4.1, ?_⟩
               rw [hMz18, hMz16, hC, g0, g1]
               rfl)
            | (have hz4 : e4.1.1 ≠ 0 := by
                 rcases hop4.2 with h | h
                 · exfalso; omega
                 · exact h.2
               have hC : clD (tx M0) (M0 17 1) s = e4 := by
                 unfold clD
                 rw [← he1, ← he2, ← he3, ← he4]
               exact Or.inr ⟨rfl, by rw [hC]; exact hz4, by rw [hC]; exact hop4.1⟩)
            | (have hz3 : e3.1.1 ≠ 0 := by
                 rcases hop3.2 with h | h
                 · exfalso; omega
                 · exact h.2
               have hC : clD (tx M0) (M0 17 1) s = e3 := by
                 unfold clD
                 rw [← he1, ← he2, ← he3, opE_f hz3]
               exact Or.inr ⟨rfl, by rw [hC]; exact hz3, by rw [hC]; exact hop3.1⟩)
            | (have hz2 : e2.1.1 ≠ 0 := by
                 rcases hop2.2 with h | h
                 · exfalso; omega
                 · exact h.2
               have hC : clD (tx M0) (M0 17 1) s = e2 := by
                 unfold clD
                 rw [← he1, ← he2, opT_f hz2, opE_f hz2]
               exact Or.inr ⟨rfl, by rw [hC]; exact hz2, by rw [hC]; exact hop2.1⟩)
            | (have hz1 : e1.1.1 ≠ 0 := by
                 rcases hop1.2 with h | h
                 · exfalso; omega
                 · exact h.2
               have hC : clD (tx M0) (M0 17 1) s = e1 := by
                 unfold clD
                 rw [← he1, opW_f hz1, opT_f hz1, opE_f hz1]
               exact Or.inr ⟨rfl, by rw [hC]; exact hz1, by rw [hC]; exact hop1.1⟩)
set_option maxHeartbeats 1600000 in
theorem A_X2_readBlur42 (l : Launch) (g : Cx) (M : FMem) (M0 : FMem) (s : PS) (hR : Rs M0 s M) (hf : s.1.1 = 0) (hS : SOk (M0 17 1) s) (hn : M0 17 1 ≤ 240) (hz : s.2.1 = 0) : AMi l g true fi_X2_readBlur [fr 17, fr 42] 93 M (fun q M2 => (q = 1 ∧ (clB (tx M0) (M0 17 1) s).1.1 = 0 ∧ ∃ M1, Rs M0 (clB (tx M0) (M0 17 1) s) M1 ∧ M2 = effR 42 2 (clB (tx M0) (M0 17 1) s).2.2 0 M1) ∨ (q = 0 ∧ (clB (tx M0) (M0 17 1) s).1.1 ≠ 0 ∧ Rs M0 (clB (tx M0) (M0 17 1) s) M2)) := by
  refine AMi_intro [fr 17, fr 42, fu] (by decide) (knall rfl) (Nat.le_of_ble_eq_true rfl) rfl ?_
  intro hNV hM0 μ
  have hR1 := hR.2.1 hf
  have hof := offR_tx hR.1
  have hsp := hS hf
  have hsb := sk_b (t := tx M0) hsp.1 hsp.2
  refine z_aload_nr dX2_readBlur_0 rfl ?_
  refine z_iconst dX2_readBlur_1 ⟨by decide, by decide⟩ ?_
  refine z_iconst dX2_readBlur_2 ⟨by decide, by decide⟩ ?_
  refine z_callVi (n2 := 93) (A_X2_readNumber l g M 0 5 _ (s) (hR) (hf) (hS) (hn) (by omega)) cb_X2_readNumber cl_X2_92 (clr0 rfl rfl (by decide) (by decide)) rfl (by decide) ⟨_, rfl, rfl⟩ rfl (by decide) rfl (Nat.le_of_ble_eq_true rfl) rfl dX2_readBlur_3 (fun x1 Mz1 bx1 kMz1 hc1 => ?_)
  have hop1 := hc1
  obtain ⟨e1, he1⟩ : ∃ z, z = opN (tx M0) (M0 17 1) 0 0 5 s := ⟨_, rfl⟩
  rw [← he1] at hop1
  have ok1 : SOk (M0 17 1) e1 := by rw [he1]; exact opN_ok hS
  refine z_if_eq (tgt := 40) dX2_readBlur_6 (by decide) (fun c2 => ?_) (fun c2 => ?_)
  · refine z_iconst dX2_readBlur_40 ⟨by decide, by decide⟩ ?_
    refine z_istore_n (loc2 := [fr 17, fr 42, fi 0]) dX2_readBlur_41 (by decide) rfl ?_
    refine z_iload_n dX2_readBlur_42 rfl ?_
    refine z_if_eq (tgt := 63) dX2_readBlur_43 (by decide) (fun c3 => ?_) (fun c3 => ?_)
    · refine z_iload_n dX2_readBlur_63 rfl ?_
      refine z_zret rfl (by omega) (by decide) rfl (Nat.sub_self _) dX2_readBlur_64 ?_
      first
      | (refine Or.inl ⟨rfl, by rw [hC]; exact hs4, _, by rw [hC]; exact hop4.1, ?_⟩
         rw [hNONE, hC, g0, g1]
         rfl)
      | (have hz4 : e4.1.1 ≠ 0 := by
           rcases hop4.2 with h | h
           · exfalso; omega
           · exact h.2
         have hC : clB (tx M0) (M0 17 1) s = e4 := by
           unfold clB
           rw [← he1, ← he2, ← he3, ← he4]
         exact Or.inr ⟨rfl, by rw [hC]; exact hz4, by rw [hC]; exact hop4.1⟩)
      | (have hz3 : e3.1.1 ≠ 0 := by
           rcases hop3.2 with h | h
           · exfalso; omega
           · exact h.2
         have hC : clB (tx M0) (M0 17 1) s = e3 := by
           unfold clB
           rw [← he1, ← he2, ← he3, opE_f hz3]
         exact Or.inr ⟨rfl, by rw [hC]; exact hz3, by rw [hC]; exact hop3.1⟩)
      | (have hz2 : e2.1.1 ≠ 0 := by
           rcases hop2.2 with h | h
           · exfalso; omega
           · exact h.2
         have hC : clB (tx M0) (M0 17 1) s = e2 := by
           unfold clB
           rw [← he1, ← he2, opN_f hz2, opE_f hz2]
         exact Or.inr ⟨rfl, by rw [hC]; exact hz2, by rw [hC]; exact hop2.1⟩)
      | (have hz1 : e1.1.1 ≠ 0 := by
           rcases hop1.2 with h | h
           · exfalso; omega
           · exact h.2
         have hC : clB (tx M0) (M0 17 1) s = e1 := by
           unfold clB
           rw [← he1, opW_f hz1, opN_f hz1, opE_f hz1]
         exact Or.inr ⟨rfl, by rw [hC]; exact hz1, by rw [hC]; exact hop1.1⟩)
    · exfalso; omega
  · have hs1 : e1.1.1 = 0 := by
      rcases hop1.2 with h | h
      · exact h.2
      · exfalso; omega
    have hv1 := opN_v (t := tx M0) (n := M0 17 1) (sg := 0) (lo := 0) (hi := 5) (s := s) hS (by rw [← he1]; exact hs1)
    rw [← he1] at hv1
    have hc1 : e1.2.1 = 1 := by omega
    refine z_aload_nr dX2_readBlur_9 rfl ?_
    refine z_ldcs (j := 8) rfl (by decide) dX2_readBlur_10 ?_
    refine z_callVi (n2 := 93) (A_X2_readWord l g Mz1 8 (by decide) _ (e1) (hop1.1) (hs1) (ok1) (hn)) cb_X2_readWord cl_X2_86 (clr0 rfl rfl (by decide) (by decide)) rfl (by decide) ⟨_, rfl, rfl⟩ rfl (by decide) rfl (Nat.le_of_ble_eq_true rfl) rfl dX2_readBlur_12 (fun x4 Mz4 bx4 kMz4 hc4 => ?_)
    have hop2 := hc4
    obtain ⟨e2, he2⟩ : ∃ z, z = opW (tx M0) (M0 17 1) 8 e1 := ⟨_, rfl⟩
    rw [← he2] at hop2
    have ok2 : SOk (M0 17 1) e2 := by rw [he2]; exact opW_ok (by decide) ok1
    refine z_if_eq (tgt := 40) dX2_readBlur_15 (by decide) (fun c5 => ?_) (fun c5 => ?_)
    · refine z_iconst dX2_readBlur_40 ⟨by decide, by decide⟩ ?_
      refine z_istore_n (loc2 := [fr 17, fr 42, fi 0]) dX2_readBlur_41 (by decide) rfl ?_
      refine z_iload_n dX2_readBlur_42 rfl ?_
      refine z_if_eq (tgt := 63) dX2_readBlur_43 (by decide) (fun c6 => ?_) (fun c6 => ?_)
      · refine z_iload_n dX2_readBlur_63 rfl ?_
        refine z_zret rfl (by omega) (by decide) rfl (Nat.sub_self _) dX2_readBlur_64 ?_
        first
        | (refine Or.inl ⟨rfl, by rw [hC]; exact hs4, _, by rw [hC]; exact hop4.1, ?_⟩
           rw [hNONE, hC, g0, g1]
           rfl)
        | (have hz4 : e4.1.1 ≠ 0 := by
             rcases hop4.2 with h | h
             · exfalso; omega
             · exact h.2
           have hC : clB (tx M0) (M0 17 1) s = e4 := by
             unfold clB
             rw [← he1, ← he2, ← he3, ← he4]
           exact Or.inr ⟨rfl, by rw [hC]; exact hz4, by rw [hC]; exact hop4.1⟩)
        | (have hz3 : e3.1.1 ≠ 0 := by
             rcases hop3.2 with h | h
             · exfalso; omega
             · exact h.2
           have hC : clB (tx M0) (M0 17 1) s = e3 := by
             unfold clB
             rw [← he1, ← he2, ← he3, opE_f hz3]
           exact Or.inr ⟨rfl, by rw [hC]; exact hz3, by rw [hC]; exact hop3.1⟩)
        | (have hz2 : e2.1.1 ≠ 0 := by
             rcases hop2.2 with h | h
             · exfalso; omega
             · exact h.2
           have hC : clB (tx M0) (M0 17 1) s = e2 := by
             unfold clB
             rw [← he1, ← he2, opN_f hz2, opE_f hz2]
           exact Or.inr ⟨rfl, by rw [hC]; exact hz2, by rw [hC]; exact hop2.1⟩)
        | (have hz1 : e1.1.1 ≠ 0 := by
             rcases hop1.2 with h | h
             · exfalso; omega
             · exact h.2
           have hC : clB (tx M0) (M0 17 1) s = e1 := by
             unfold clB
             rw [← he1, opW_f hz1, opN_f hz1, opE_f hz1]
           exact Or.inr ⟨rfl, by rw [hC]; exact hz1, by rw [hC]; exact hop1.1⟩)
      · exfalso; omega
    · have hs2 : e2.1.1 = 0 := by
        rcases hop2.2 with h | h
        · exact h.2
        · exfalso; omega
      have hc2 : e2.2.1 = 1 := by rw [he2, (opW_v (t := tx M0) (n := M0 17 1)).1]; omega
      refine z_aload_nr dX2_readBlur_18 rfl ?_
      refine z_iconst dX2_readBlur_19 ⟨by decide, by decide⟩ ?_
      refine z_sipush dX2_readBlur_20 ⟨by decide, by decide⟩ (by decide) ?_
      refine z_callVi (n2 := 93) (A_X2_readNumber l g Mz4 0 999 _ (e2) (hop2.1) (hs2) (ok2) (hn) (by omega)) cb_X2_readNumber cl_X2_92 (clr0 rfl rfl (by decide) (by decide)) rfl (by decide) ⟨_, rfl, rfl⟩ rfl (by decide) rfl (Nat.le_of_ble_eq_true rfl) rfl dX2_readBlur_23 (fun x7 Mz7 bx7 kMz7 hc7 => ?_)
      have hop3 := hc7
      obtain ⟨e3, he3⟩ : ∃ z, z = opN (tx M0) (M0 17 1) 0 0 999 e2 := ⟨_, rfl⟩
      rw [← he3] at hop3
      have ok3 : SOk (M0 17 1) e3 := by rw [he3]; exact opN_ok ok2
      refine z_if_eq (tgt := 40) dX2_readBlur_26 (by decide) (fun c8 => ?_) (fun c8 => ?_)
      · refine z_iconst dX2_readBlur_40 ⟨by decide, by decide⟩ ?_
        refine z_istore_n (loc2 := [fr 17, fr 42, fi 0]) dX2_readBlur_41 (by decide) rfl ?_
        refine z_iload_n dX2_readBlur_42 rfl ?_
        refine z_if_eq (tgt := 63) dX2_readBlur_43 (by decide) (fun c9 => ?_) (fun c9 => ?_)
        · refine z_iload_n dX2_readBlur_63 rfl ?_
          refine z_zret rfl (by omega) (by decide) rfl (Nat.sub_self _) dX2_readBlur_64 ?_
          first
          | (refine Or.inl ⟨rfl, by rw [hC]; exact hs4, _, by rw [hC]; exact hop4.1, ?_⟩
             rw [hNONE, hC, g0, g1]
             rfl)
          | (have hz4 : e4.1.1 ≠ 0 := by
               rcases hop4.2 with h | h
               · exfalso; omega
               · exact h.2
             have hC : clB (tx M0) (M0 17 1) s = e4 := by
               unfold clB
               rw [← he1, ← he2, ← he3, ← he4]
             exact Or.inr ⟨rfl, by rw [hC]; exact hz4, by rw [hC]; exact hop4.1⟩)
          | (have hz3 : e3.1.1 ≠ 0 := by
               rcases hop3.2 with h | h
               · exfalso; omega
               · exact h.2
             have hC : clB (tx M0) (M0 17 1) s = e3 := by
               unfold clB
               rw [← he1, ← he2, ← he3, opE_f hz3]
             exact Or.inr ⟨rfl, by rw [hC]; exact hz3, by rw [hC]; exact hop3.1⟩)
          | (have hz2 : e2.1.1 ≠ 0 := by
               rcases hop2.2 with h | h
               · exfalso; omega
               · exact h.2
             have hC : clB (tx M0) (M0 17 1) s = e2 := by
               unfold clB
               rw [← he1, ← he2, opN_f hz2, opE_f hz2]
             exact Or.inr ⟨rfl, by rw [hC]; exact hz2, by rw [hC]; exact hop2.1⟩)
          | (have hz1 : e1.1.1 ≠ 0 := by
               rcases hop1.2 with h | h
               · exfalso; omega
               · exact h.2
             have hC : clB (tx M0) (M0 17 1) s = e1 := by
               unfold clB
               rw [← he1, opW_f hz1, opN_f hz1, opE_f hz1]
             exact Or.inr ⟨rfl, by rw [hC]; exact hz1, by rw [hC]; exact hop1.1⟩)
        · exfalso; omega
      · have hs3 : e3.1.1 = 0 := by
          rcases hop3.2 with h | h
          · exact h.2
          · exfalso; omega
        have hv3 := opN_v (t := tx M0) (n := M0 17 1) (sg := 0) (lo := 0) (hi := 999) (s := e2) ok2 (by rw [← he3]; exact hs3)
        rw [← he3] at hv3
        have hc3 : e3.2.1 = 2 := by omega
        refine z_aload_nr dX2_readBlur_29 rfl ?_
        refine z_callVi (n2 := 93) (A_X2_readEnd l g Mz7 _ (e3) (hop3.1) (hs3) (ok3) (hn)) cb_X2_readEnd cl_X2_108 (clr0 rfl rfl (by decide) (by decide)) rfl (by decide) ⟨_, rfl, rfl⟩ rfl (by decide) rfl (Nat.le_of_ble_eq_true rfl) rfl dX2_readBlur_30 (fun x10 Mz10 bx10 kMz10 hc10 => ?_)
        have hop4 := hc10
        obtain ⟨e4, he4⟩ : ∃ z, z = opE (tx M0) (M0 17 1) e3 := ⟨_, rfl⟩
        rw [← he4] at hop4
        have ok4 : SOk (M0 17 1) e4 := by rw [he4]; exact opE_ok ok3
        refine z_if_eq (tgt := 40) dX2_readBlur_33 (by decide) (fun c11 => ?_) (fun c11 => ?_)
        · refine z_iconst dX2_readBlur_40 ⟨by decide, by decide⟩ ?_
          refine z_istore_n (loc2 := [fr 17, fr 42, fi 0]) dX2_readBlur_41 (by decide) rfl ?_
          refine z_iload_n dX2_readBlur_42 rfl ?_
          refine z_if_eq (tgt := 63) dX2_readBlur_43 (by decide) (fun c12 => ?_) (fun c12 => ?_)
          · refine z_iload_n dX2_readBlur_63 rfl ?_
            refine z_zret rfl (by omega) (by decide) rfl (Nat.sub_self _) dX2_readBlur_64 ?_
            first
            | (refine Or.inl ⟨rfl, by rw [hC]; exact hs4, _, by rw [hC]; exact hop4.1, ?_⟩
               rw [hNONE, hC, g0, g1]
               rfl)
            | (have hz4 : e4.1.1 ≠ 0 := by
                 rcases hop4.2 with h | h
                 · exfalso; omega
                 · exact h.2
               have hC : clB (tx M0) (M0 17 1) s = e4 := by
                 unfold clB
                 rw [← he1, ← he2, ← he3, ← he4]
               exact Or.inr ⟨rfl, by rw [hC]; exact hz4, by rw [hC]; exact hop4.1⟩)
            | (have hz3 : e3.1.1 ≠ 0 := by
                 rcases hop3.2 with h | h
                 · exfalso; omega
                 · exact h.2
               have hC : clB (tx M0) (M0 17 1) s = e3 := by
                 unfold clB
                 rw [← he1, ← he2, ← he3, opE_f hz3]
               exact Or.inr ⟨rfl, by rw [hC]; exact hz3, by rw [hC]; exact hop3.1⟩)
            | (have hz2 : e2.1.1 ≠ 0 := by
                 rcases hop2.2 with h | h
                 · exfalso; omega
                 · exact h.2
               have hC : clB (tx M0) (M0 17 1) s = e2 := by
                 unfold clB
                 rw [← he1, ← he2, opN_f hz2, opE_f hz2]
               exact Or.inr ⟨rfl, by rw [hC]; exact hz2, by rw [hC]; exact hop2.1⟩)
            | (have hz1 : e1.1.1 ≠ 0 := by
                 rcases hop1.2 with h | h
                 · exfalso; omega
                 · exact h.2
               have hC : clB (tx M0) (M0 17 1) s = e1 := by
                 unfold clB
                 rw [← he1, opW_f hz1, opN_f hz1, opE_f hz1]
               exact Or.inr ⟨rfl, by rw [hC]; exact hz1, by rw [hC]; exact hop1.1⟩)
          · exfalso; omega
        · have hs4 : e4.1.1 = 0 := by
            rcases hop4.2 with h | h
            · exact h.2
            · exfalso; omega
          have hc4 : e4.2.1 = 2 := by rw [he4, (opE_v (t := tx M0) (n := M0 17 1)).1]; omega
          have hC : clB (tx M0) (M0 17 1) s = e4 := by unfold clB; rw [← he1, ← he2, ← he3, ← he4]
          have hcv := clB_v (t := tx M0) hS hz (by rw [hC]; exact hs4)
          rw [hC] at hcv
          have hnu := (hop4.1.2.1 hs4).2.2.2.2
          rw [hc4] at hnu
          have hn0 := hnu 0 (by decide) (by decide)
          have hn1 := hnu 1 (by decide) (by decide)
          refine z_iconst dX2_readBlur_36 ⟨by decide, by decide⟩ ?_
          refine z_goto (tgt := 41) dX2_readBlur_37 (by decide) ?_
          refine z_istore_n (loc2 := [fr 17, fr 42, fi 1]) dX2_readBlur_41 (by decide) rfl ?_
          refine z_iload_n dX2_readBlur_42 rfl ?_
          refine z_if_eq (tgt := 63) dX2_readBlur_43 (by decide) (fun c13 => ?_) (fun c13 => ?_)
          · exfalso; omega
          · refine z_aload_nr dX2_readBlur_46 rfl ?_
            refine z_getr (b := 47) fl_X2_127 rfl (by decide) rf_42_4 rfl dX2_readBlur_47 ?_
            refine z_aload_nr dX2_readBlur_50 rfl ?_
            refine z_getr (b := 19) fl_X2_28 rfl (by decide) rf_17_5 rfl dX2_readBlur_51 ?_
            refine z_iconst dX2_readBlur_54 ⟨by decide, by decide⟩ ?_
            refine z_iald rfl (by decide) (by omega) (by omega) dX2_readBlur_55 (fun x14 hx14 bx14 => ?_)
            have g0 := hx14
            rw [hn0] at g0
            refine z_aload_nr dX2_readBlur_56 rfl ?_
            refine z_getr (b := 19) fl_X2_28 rfl (by decide) rf_17_5 rfl dX2_readBlur_57 ?_
            refine z_iconst dX2_readBlur_60 ⟨by decide, by decide⟩ ?_
            refine z_iald rfl (by decide) (by omega) (by omega) dX2_readBlur_61 (fun x15 hx15 bx15 => ?_)
            have g1 := hx15
            rw [hn1] at g1
            refine z_iast rfl (by decide) (by omega) (by omega) dX2_readBlur_62 (fun Mz16 hMz16 => ?_)
            refine z_iload_n dX2_readBlur_63 rfl ?_
            refine z_zret rfl (by omega) (by decide) rfl (Nat.sub_self _) dX2_readBlur_64 ?_
            first
            | (refine Or.inl ⟨rfl, by rw [hC]; exact hs4, _, by rw [hC]; exact hop4.1, ?_⟩
               rw [hMz16, hC, g0, g1]
               rfl)
            | (have hz4 : e4.1.1 ≠ 0 := by
                 rcases hop4.2 with h | h
                 · exfalso; omega
                 · exact h.2
               have hC : clB (tx M0) (M0 17 1) s = e4 := by
                 unfold clB
                 rw [← he1, ← he2, ← he3, ← he4]
               exact Or.inr ⟨rfl, by rw [hC]; exact hz4, by rw [hC]; exact hop4.1⟩)
            | (have hz3 : e3.1.1 ≠ 0 := by
                 rcases hop3.2 with h | h
                 · exfalso; omega
                 · exact h.2
               have hC : clB (tx M0) (M0 17 1) s = e3 := by
                 unfold clB
                 rw [← he1, ← he2, ← he3, opE_f hz3]
               exact Or.inr ⟨rfl, by rw [hC]; exact hz3, by rw [hC]; exact hop3.1⟩)
            | (have hz2 : e2.1.1 ≠ 0 := by
                 rcases hop2.2 with h | h
                 · exfalso; omega
                 · exact h.2
               have hC : clB (tx M0) (M0 17 1) s = e2 := by
                 unfold clB
                 rw [← he1, ← he2, opN_f hz2, opE_f hz2]
               exact Or.inr ⟨rfl, by rw [hC]; exact hz2, by rw [hC]; exact hop2.1⟩)
            | (have hz1 : e1.1.1 ≠ 0 := by
                 rcases hop1.2 with h | h
                 · exfalso; omega
                 · exact h.2
               have hC : clB (tx M0) (M0 17 1) s = e1 := by
                 unfold clB
                 rw [← he1, opW_f hz1, opN_f hz1, opE_f hz1]
               exact Or.inr ⟨rfl, by rw [hC]; exact hz1, by rw [hC]; exact hop1.1⟩)
set_option maxHeartbeats 1600000 in
theorem A_X2_readOwn42 (l : Launch) (g : Cx) (M : FMem) (M0 : FMem) (s : PS) (hR : Rs M0 s M) (hf : s.1.1 = 0) (hS : SOk (M0 17 1) s) (hn : M0 17 1 ≤ 240) (hz : s.2.1 = 0) : AMi l g true fi_X2_readOwn [fr 17, fr 42] 93 M (fun q M2 => (q = 1 ∧ (clO (tx M0) (M0 17 1) s).1.1 = 0 ∧ ∃ M1, Rs M0 (clO (tx M0) (M0 17 1) s) M1 ∧ M2 = effR 42 3 (clO (tx M0) (M0 17 1) s).2.2 0 M1) ∨ (q = 0 ∧ (clO (tx M0) (M0 17 1) s).1.1 ≠ 0 ∧ Rs M0 (clO (tx M0) (M0 17 1) s) M2)) := by
  refine AMi_intro [fr 17, fr 42, fu] (by decide) (knall rfl) (Nat.le_of_ble_eq_true rfl) rfl ?_
  intro hNV hM0 μ
  have hR1 := hR.2.1 hf
  have hof := offR_tx hR.1
  have hsp := hS hf
  have hsb := sk_b (t := tx M0) hsp.1 hsp.2
  refine z_aload_nr dX2_readOwn_0 rfl ?_
  refine z_iconst dX2_readOwn_1 ⟨by decide, by decide⟩ ?_
  refine z_sipush dX2_readOwn_2 ⟨by decide, by decide⟩ (by decide) ?_
  refine z_callVi (n2 := 93) (A_X2_readNumber l g M 0 9999 _ (s) (hR) (hf) (hS) (hn) (by omega)) cb_X2_readNumber cl_X2_92 (clr0 rfl rfl (by decide) (by decide)) rfl (by decide) ⟨_, rfl, rfl⟩ rfl (by decide) rfl (Nat.le_of_ble_eq_true rfl) rfl dX2_readOwn_5 (fun x1 Mz1 bx1 kMz1 hc1 => ?_)
  have hop1 := hc1
  obtain ⟨e1, he1⟩ : ∃ z, z = opN (tx M0) (M0 17 1) 0 0 9999 s := ⟨_, rfl⟩
  rw [← he1] at hop1
  have ok1 : SOk (M0 17 1) e1 := by rw [he1]; exact opN_ok hS
  refine z_if_eq (tgt := 22) dX2_readOwn_8 (by decide) (fun c2 => ?_) (fun c2 => ?_)
  · refine z_iconst dX2_readOwn_22 ⟨by decide, by decide⟩ ?_
    refine z_istore_n (loc2 := [fr 17, fr 42, fi 0]) dX2_readOwn_23 (by decide) rfl ?_
    refine z_iload_n dX2_readOwn_24 rfl ?_
    refine z_if_eq (tgt := 38) dX2_readOwn_25 (by decide) (fun c3 => ?_) (fun c3 => ?_)
    · refine z_iload_n dX2_readOwn_38 rfl ?_
      refine z_zret rfl (by omega) (by decide) rfl (Nat.sub_self _) dX2_readOwn_39 ?_
      first
      | (refine Or.inl ⟨rfl, by rw [hC]; exact hs2, _, by rw [hC]; exact hop2.1, ?_⟩
         rw [hNONE, hC, g0]
         rfl)
      | (have hz2 : e2.1.1 ≠ 0 := by
           rcases hop2.2 with h | h
           · exfalso; omega
           · exact h.2
         have hC : clO (tx M0) (M0 17 1) s = e2 := by
           unfold clO
           rw [← he1, ← he2]
         exact Or.inr ⟨rfl, by rw [hC]; exact hz2, by rw [hC]; exact hop2.1⟩)
      | (have hz1 : e1.1.1 ≠ 0 := by
           rcases hop1.2 with h | h
           · exfalso; omega
           · exact h.2
         have hC : clO (tx M0) (M0 17 1) s = e1 := by
           unfold clO
           rw [← he1, opE_f hz1]
         exact Or.inr ⟨rfl, by rw [hC]; exact hz1, by rw [hC]; exact hop1.1⟩)
    · exfalso; omega
  · have hs1 : e1.1.1 = 0 := by
      rcases hop1.2 with h | h
      · exact h.2
      · exfalso; omega
    have hv1 := opN_v (t := tx M0) (n := M0 17 1) (sg := 0) (lo := 0) (hi := 9999) (s := s) hS (by rw [← he1]; exact hs1)
    rw [← he1] at hv1
    have hc1 : e1.2.1 = 1 := by omega
    refine z_aload_nr dX2_readOwn_11 rfl ?_
    refine z_callVi (n2 := 93) (A_X2_readEnd l g Mz1 _ (e1) (hop1.1) (hs1) (ok1) (hn)) cb_X2_readEnd cl_X2_108 (clr0 rfl rfl (by decide) (by decide)) rfl (by decide) ⟨_, rfl, rfl⟩ rfl (by decide) rfl (Nat.le_of_ble_eq_true rfl) rfl dX2_readOwn_12 (fun x4 Mz4 bx4 kMz4 hc4 => ?_)
    have hop2 := hc4
    obtain ⟨e2, he2⟩ : ∃ z, z = opE (tx M0) (M0 17 1) e1 := ⟨_, rfl⟩
    rw [← he2] at hop2
    have ok2 : SOk (M0 17 1) e2 := by rw [he2]; exact opE_ok ok1
    refine z_if_eq (tgt := 22) dX2_readOwn_15 (by decide) (fun c5 => ?_) (fun c5 => ?_)
    · refine z_iconst dX2_readOwn_22 ⟨by decide, by decide⟩ ?_
      refine z_istore_n (loc2 := [fr 17, fr 42, fi 0]) dX2_readOwn_23 (by decide) rfl ?_
      refine z_iload_n dX2_readOwn_24 rfl ?_
      refine z_if_eq (tgt := 38) dX2_readOwn_25 (by decide) (fun c6 => ?_) (fun c6 => ?_)
      · refine z_iload_n dX2_readOwn_38 rfl ?_
        refine z_zret rfl (by omega) (by decide) rfl (Nat.sub_self _) dX2_readOwn_39 ?_
        first
        | (refine Or.inl ⟨rfl, by rw [hC]; exact hs2, _, by rw [hC]; exact hop2.1, ?_⟩
           rw [hNONE, hC, g0]
           rfl)
        | (have hz2 : e2.1.1 ≠ 0 := by
             rcases hop2.2 with h | h
             · exfalso; omega
             · exact h.2
           have hC : clO (tx M0) (M0 17 1) s = e2 := by
             unfold clO
             rw [← he1, ← he2]
           exact Or.inr ⟨rfl, by rw [hC]; exact hz2, by rw [hC]; exact hop2.1⟩)
        | (have hz1 : e1.1.1 ≠ 0 := by
             rcases hop1.2 with h | h
             · exfalso; omega
             · exact h.2
           have hC : clO (tx M0) (M0 17 1) s = e1 := by
             unfold clO
             rw [← he1, opE_f hz1]
           exact Or.inr ⟨rfl, by rw [hC]; exact hz1, by rw [hC]; exact hop1.1⟩)
      · exfalso; omega
    · have hs2 : e2.1.1 = 0 := by
        rcases hop2.2 with h | h
        · exact h.2
        · exfalso; omega
      have hc2 : e2.2.1 = 1 := by rw [he2, (opE_v (t := tx M0) (n := M0 17 1)).1]; omega
      have hC : clO (tx M0) (M0 17 1) s = e2 := by unfold clO; rw [← he1, ← he2]
      have hcv := clO_v (t := tx M0) hS hz (by rw [hC]; exact hs2)
      rw [hC] at hcv
      have hnu := (hop2.1.2.1 hs2).2.2.2.2
      rw [hc2] at hnu
      have hn0 := hnu 0 (by decide) (by decide)
      refine z_iconst dX2_readOwn_18 ⟨by decide, by decide⟩ ?_
      refine z_goto (tgt := 23) dX2_readOwn_19 (by decide) ?_
      refine z_istore_n (loc2 := [fr 17, fr 42, fi 1]) dX2_readOwn_23 (by decide) rfl ?_
      refine z_iload_n dX2_readOwn_24 rfl ?_
      refine z_if_eq (tgt := 38) dX2_readOwn_25 (by decide) (fun c7 => ?_) (fun c7 => ?_)
      · exfalso; omega
      · refine z_aload_nr dX2_readOwn_28 rfl ?_
        refine z_aload_nr dX2_readOwn_29 rfl ?_
        refine z_getr (b := 19) fl_X2_28 rfl (by decide) rf_17_5 rfl dX2_readOwn_30 ?_
        refine z_iconst dX2_readOwn_33 ⟨by decide, by decide⟩ ?_
        refine z_iald rfl (by decide) (by omega) (by omega) dX2_readOwn_34 (fun x8 hx8 bx8 => ?_)
        have g0 := hx8
        rw [hn0] at g0
        refine z_puti (kz := 7) fl_X2_129 rfl (by decide) rfl nr_42_7 dX2_readOwn_35 (fun Mz9 hMz9 => ?_)
        refine z_iload_n dX2_readOwn_38 rfl ?_
        refine z_zret rfl (by omega) (by decide) rfl (Nat.sub_self _) dX2_readOwn_39 ?_
        first
        | (refine Or.inl ⟨rfl, by rw [hC]; exact hs2, _, by rw [hC]; exact hop2.1, ?_⟩
           rw [hMz9, hC, g0]
           rfl)
        | (have hz2 : e2.1.1 ≠ 0 := by
             rcases hop2.2 with h | h
             · exfalso; omega
             · exact h.2
           have hC : clO (tx M0) (M0 17 1) s = e2 := by
             unfold clO
             rw [← he1, ← he2]
           exact Or.inr ⟨rfl, by rw [hC]; exact hz2, by rw [hC]; exact hop2.1⟩)
        | (have hz1 : e1.1.1 ≠ 0 := by
             rcases hop1.2 with h | h
             · exfalso; omega
             · exact h.2
           have hC : clO (tx M0) (M0 17 1) s = e1 := by
             unfold clO
             rw [← he1, opE_f hz1]
           exact Or.inr ⟨rfl, by rw [hC]; exact hz1, by rw [hC]; exact hop1.1⟩)
set_option maxHeartbeats 1600000 in
theorem A_X2_readSort51 (l : Launch) (g : Cx) (M : FMem) (M0 : FMem) (s : PS) (hR : Rs M0 s M) (hf : s.1.1 = 0) (hS : SOk (M0 17 1) s) (hn : M0 17 1 ≤ 240) (hz : s.2.1 = 0) : AMi l g true fi_X2_readSort [fr 17, fr 51] 93 M (fun q M2 => (q = 1 ∧ (clS (tx M0) (M0 17 1) s).1.1 = 0 ∧ ∃ M1, Rs M0 (clS (tx M0) (M0 17 1) s) M1 ∧ M2 = effR 51 0 (clS (tx M0) (M0 17 1) s).2.2 0 M1) ∨ (q = 0 ∧ (clS (tx M0) (M0 17 1) s).1.1 ≠ 0 ∧ Rs M0 (clS (tx M0) (M0 17 1) s) M2)) := by
  refine AMi_intro [fr 17, fr 51, fu] (by decide) (knall rfl) (Nat.le_of_ble_eq_true rfl) rfl ?_
  intro hNV hM0 μ
  have hR1 := hR.2.1 hf
  have hof := offR_tx hR.1
  have hsp := hS hf
  have hsb := sk_b (t := tx M0) hsp.1 hsp.2
  refine z_aload_nr dX2_readSort_0 rfl ?_
  refine z_iconst dX2_readSort_1 ⟨by decide, by decide⟩ ?_
  refine z_iconst dX2_readSort_2 ⟨by decide, by decide⟩ ?_
  refine z_callVi (n2 := 93) (A_X2_readNumber l g M 0 5 _ (s) (hR) (hf) (hS) (hn) (by omega)) cb_X2_readNumber cl_X2_92 (clr0 rfl rfl (by decide) (by decide)) rfl (by decide) ⟨_, rfl, rfl⟩ rfl (by decide) rfl (Nat.le_of_ble_eq_true rfl) rfl dX2_readSort_3 (fun x1 Mz1 bx1 kMz1 hc1 => ?_)
  have hop1 := hc1
  obtain ⟨e1, he1⟩ : ∃ z, z = opN (tx M0) (M0 17 1) 0 0 5 s := ⟨_, rfl⟩
  rw [← he1] at hop1
  have ok1 : SOk (M0 17 1) e1 := by rw [he1]; exact opN_ok hS
  refine z_if_eq (tgt := 110) dX2_readSort_6 (by decide) (fun c2 => ?_) (fun c2 => ?_)
  · refine z_iconst dX2_readSort_110 ⟨by decide, by decide⟩ ?_
    refine z_istore_n (loc2 := [fr 17, fr 51, fi 0]) dX2_readSort_111 (by decide) rfl ?_
    refine z_iload_n dX2_readSort_112 rfl ?_
    refine z_if_eq (tgt := 160) dX2_readSort_113 (by decide) (fun c3 => ?_) (fun c3 => ?_)
    · refine z_iload_n dX2_readSort_160 rfl ?_
      refine z_zret rfl (by omega) (by decide) rfl (Nat.sub_self _) dX2_readSort_161 ?_
      first
      | (refine Or.inl ⟨rfl, by rw [hC]; exact hs10, _, by rw [hC]; exact hop10.1, ?_⟩
         rw [hst2, hst1, hC]
         simp only [effR, if_true, Nat.reduceAdd]
         rw [g0, g1, g2, g3, g4, g5])
      | (have hz10 : e10.1.1 ≠ 0 := by
           rcases hop10.2 with h | h
           · exfalso; omega
           · exact h.2
         have hC : clS (tx M0) (M0 17 1) s = e10 := by
           unfold clS
           rw [← he1, ← he2, ← he3, ← he4, ← he5, ← he6, ← he7, ← he8, ← he9, ← he10]
         exact Or.inr ⟨rfl, by rw [hC]; exact hz10, by rw [hC]; exact hop10.1⟩)
      | (have hz9 : e9.1.1 ≠ 0 := by
           rcases hop9.2 with h | h
           · exfalso; omega
           · exact h.2
         have hC : clS (tx M0) (M0 17 1) s = e9 := by
           unfold clS
           rw [← he1, ← he2, ← he3, ← he4, ← he5, ← he6, ← he7, ← he8, ← he9, opE_f hz9]
         exact Or.inr ⟨rfl, by rw [hC]; exact hz9, by rw [hC]; exact hop9.1⟩)
      | (have hz8 : e8.1.1 ≠ 0 := by
           rcases hop8.2 with h | h
           · exfalso; omega
           · exact h.2
         have hC : clS (tx M0) (M0 17 1) s = e8 := by
           unfold clS
           rw [← he1, ← he2, ← he3, ← he4, ← he5, ← he6, ← he7, ← he8, opT_f hz8, opE_f hz8]
         exact Or.inr ⟨rfl, by rw [hC]; exact hz8, by rw [hC]; exact hop8.1⟩)
      | (have hz7 : e7.1.1 ≠ 0 := by
           rcases hop7.2 with h | h
           · exfalso; omega
           · exact h.2
         have hC : clS (tx M0) (M0 17 1) s = e7 := by
           unfold clS
           rw [← he1, ← he2, ← he3, ← he4, ← he5, ← he6, ← he7, opW_f hz7, opT_f hz7, opE_f hz7]
         exact Or.inr ⟨rfl, by rw [hC]; exact hz7, by rw [hC]; exact hop7.1⟩)
      | (have hz6 : e6.1.1 ≠ 0 := by
           rcases hop6.2 with h | h
           · exfalso; omega
           · exact h.2
         have hC : clS (tx M0) (M0 17 1) s = e6 := by
           unfold clS
           rw [← he1, ← he2, ← he3, ← he4, ← he5, ← he6, opN_f hz6, opW_f hz6, opT_f hz6, opE_f hz6]
         exact Or.inr ⟨rfl, by rw [hC]; exact hz6, by rw [hC]; exact hop6.1⟩)
      | (have hz5 : e5.1.1 ≠ 0 := by
           rcases hop5.2 with h | h
           · exfalso; omega
           · exact h.2
         have hC : clS (tx M0) (M0 17 1) s = e5 := by
           unfold clS
           rw [← he1, ← he2, ← he3, ← he4, ← he5, opW_f hz5, opN_f hz5, opW_f hz5, opT_f hz5, opE_f hz5]
         exact Or.inr ⟨rfl, by rw [hC]; exact hz5, by rw [hC]; exact hop5.1⟩)
      | (have hz4 : e4.1.1 ≠ 0 := by
           rcases hop4.2 with h | h
           · exfalso; omega
           · exact h.2
         have hC : clS (tx M0) (M0 17 1) s = e4 := by
           unfold clS
           rw [← he1, ← he2, ← he3, ← he4, opT_f hz4, opW_f hz4, opN_f hz4, opW_f hz4, opT_f hz4, opE_f hz4]
         exact Or.inr ⟨rfl, by rw [hC]; exact hz4, by rw [hC]; exact hop4.1⟩)
      | (have hz3 : e3.1.1 ≠ 0 := by
           rcases hop3.2 with h | h
           · exfalso; omega
           · exact h.2
         have hC : clS (tx M0) (M0 17 1) s = e3 := by
           unfold clS
           rw [← he1, ← he2, ← he3, opW_f hz3, opT_f hz3, opW_f hz3, opN_f hz3, opW_f hz3, opT_f hz3, opE_f hz3]
         exact Or.inr ⟨rfl, by rw [hC]; exact hz3, by rw [hC]; exact hop3.1⟩)
      | (have hz2 : e2.1.1 ≠ 0 := by
           rcases hop2.2 with h | h
           · exfalso; omega
           · exact h.2
         have hC : clS (tx M0) (M0 17 1) s = e2 := by
           unfold clS
           rw [← he1, ← he2, opN_f hz2, opW_f hz2, opT_f hz2, opW_f hz2, opN_f hz2, opW_f hz2, opT_f hz2, opE_f hz2]
         exact Or.inr ⟨rfl, by rw [hC]; exact hz2, by rw [hC]; exact hop2.1⟩)
      | (have hz1 : e1.1.1 ≠ 0 := by
           rcases hop1.2 with h | h
           · exfalso; omega
           · exact h.2
         have hC : clS (tx M0) (M0 17 1) s = e1 := by
           unfold clS
           rw [← he1, opW_f hz1, opN_f hz1, opW_f hz1, opT_f hz1, opW_f hz1, opN_f hz1, opW_f hz1, opT_f hz1, opE_f hz1]
         exact Or.inr ⟨rfl, by rw [hC]; exact hz1, by rw [hC]; exact hop1.1⟩)
    · exfalso; omega
  · have hs1 : e1.1.1 = 0 := by
      rcases hop1.2 with h | h
      · exact h.2
      · exfalso; omega
    have hv1 := opN_v (t := tx M0) (n := M0 17 1) (sg := 0) (lo := 0) (hi := 5) (s := s) hS (by rw [← he1]; exact hs1)
    rw [← he1] at hv1
    have hc1 : e1.2.1 = 1 := by omega
    refine z_aload_nr dX2_readSort_9 rfl ?_
    refine z_ldcs (j := 5) rfl (by decide) dX2_readSort_10 ?_
    refine z_callVi (n2 := 93) (A_X2_readWord l g Mz1 5 (by decide) _ (e1) (hop1.1) (hs1) (ok1) (hn)) cb_X2_readWord cl_X2_86 (clr0 rfl rfl (by decide) (by decide)) rfl (by decide) ⟨_, rfl, rfl⟩ rfl (by decide) rfl (Nat.le_of_ble_eq_true rfl) rfl dX2_readSort_12 (fun x4 Mz4 bx4 kMz4 hc4 => ?_)
    have hop2 := hc4
    obtain ⟨e2, he2⟩ : ∃ z, z = opW (tx M0) (M0 17 1) 5 e1 := ⟨_, rfl⟩
    rw [← he2] at hop2
    have ok2 : SOk (M0 17 1) e2 := by rw [he2]; exact opW_ok (by decide) ok1
    refine z_if_eq (tgt := 110) dX2_readSort_15 (by decide) (fun c5 => ?_) (fun c5 => ?_)
    · refine z_iconst dX2_readSort_110 ⟨by decide, by decide⟩ ?_
      refine z_istore_n (loc2 := [fr 17, fr 51, fi 0]) dX2_readSort_111 (by decide) rfl ?_
      refine z_iload_n dX2_readSort_112 rfl ?_
      refine z_if_eq (tgt := 160) dX2_readSort_113 (by decide) (fun c6 => ?_) (fun c6 => ?_)
      · refine z_iload_n dX2_readSort_160 rfl ?_
        refine z_zret rfl (by omega) (by decide) rfl (Nat.sub_self _) dX2_readSort_161 ?_
        first
        | (refine Or.inl ⟨rfl, by rw [hC]; exact hs10, _, by rw [hC]; exact hop10.1, ?_⟩
           rw [hst2, hst1, hC]
           simp only [effR, if_true, Nat.reduceAdd]
           rw [g0, g1, g2, g3, g4, g5])
        | (have hz10 : e10.1.1 ≠ 0 := by
             rcases hop10.2 with h | h
             · exfalso; omega
             · exact h.2
           have hC : clS (tx M0) (M0 17 1) s = e10 := by
             unfold clS
             rw [← he1, ← he2, ← he3, ← he4, ← he5, ← he6, ← he7, ← he8, ← he9, ← he10]
           exact Or.inr ⟨rfl, by rw [hC]; exact hz10, by rw [hC]; exact hop10.1⟩)
        | (have hz9 : e9.1.1 ≠ 0 := by
             rcases hop9.2 with h | h
             · exfalso; omega
             · exact h.2
           have hC : clS (tx M0) (M0 17 1) s = e9 := by
             unfold clS
             rw [← he1, ← he2, ← he3, ← he4, ← he5, ← he6, ← he7, ← he8, ← he9, opE_f hz9]
           exact Or.inr ⟨rfl, by rw [hC]; exact hz9, by rw [hC]; exact hop9.1⟩)
        | (have hz8 : e8.1.1 ≠ 0 := by
             rcases hop8.2 with h | h
             · exfalso; omega
             · exact h.2
           have hC : clS (tx M0) (M0 17 1) s = e8 := by
             unfold clS
             rw [← he1, ← he2, ← he3, ← he4, ← he5, ← he6, ← he7, ← he8, opT_f hz8, opE_f hz8]
           exact Or.inr ⟨rfl, by rw [hC]; exact hz8, by rw [hC]; exact hop8.1⟩)
        | (have hz7 : e7.1.1 ≠ 0 := by
             rcases hop7.2 with h | h
             · exfalso; omega
             · exact h.2
           have hC : clS (tx M0) (M0 17 1) s = e7 := by
             unfold clS
             rw [← he1, ← he2, ← he3, ← he4, ← he5, ← he6, ← he7, opW_f hz7, opT_f hz7, opE_f hz7]
           exact Or.inr ⟨rfl, by rw [hC]; exact hz7, by rw [hC]; exact hop7.1⟩)
        | (have hz6 : e6.1.1 ≠ 0 := by
             rcases hop6.2 with h | h
             · exfalso; omega
             · exact h.2
           have hC : clS (tx M0) (M0 17 1) s = e6 := by
             unfold clS
             rw [← he1, ← he2, ← he3, ← he4, ← he5, ← he6, opN_f hz6, opW_f hz6, opT_f hz6, opE_f hz6]
           exact Or.inr ⟨rfl, by rw [hC]; exact hz6, by rw [hC]; exact hop6.1⟩)
        | (have hz5 : e5.1.1 ≠ 0 := by
             rcases hop5.2 with h | h
             · exfalso; omega
             · exact h.2
           have hC : clS (tx M0) (M0 17 1) s = e5 := by
             unfold clS
             rw [← he1, ← he2, ← he3, ← he4, ← he5, opW_f hz5, opN_f hz5, opW_f hz5, opT_f hz5, opE_f hz5]
           exact Or.inr ⟨rfl, by rw [hC]; exact hz5, by rw [hC]; exact hop5.1⟩)
        | (have hz4 : e4.1.1 ≠ 0 := by
             rcases hop4.2 with h | h
             · exfalso; omega
             · exact h.2
           have hC : clS (tx M0) (M0 17 1) s = e4 := by
             unfold clS
             rw [← he1, ← he2, ← he3, ← he4, opT_f hz4, opW_f hz4, opN_f hz4, opW_f hz4, opT_f hz4, opE_f hz4]
           exact Or.inr ⟨rfl, by rw [hC]; exact hz4, by rw [hC]; exact hop4.1⟩)
        | (have hz3 : e3.1.1 ≠ 0 := by
             rcases hop3.2 with h | h
             · exfalso; omega
             · exact h.2
           have hC : clS (tx M0) (M0 17 1) s = e3 := by
             unfold clS
             rw [← he1, ← he2, ← he3, opW_f hz3, opT_f hz3, opW_f hz3, opN_f hz3, opW_f hz3, opT_f hz3, opE_f hz3]
           exact Or.inr ⟨rfl, by rw [hC]; exact hz3, by rw [hC]; exact hop3.1⟩)
        | (have hz2 : e2.1.1 ≠ 0 := by
             rcases hop2.2 with h | h
             · exfalso; omega
             · exact h.2
           have hC : clS (tx M0) (M0 17 1) s = e2 := by
             unfold clS
             rw [← he1, ← he2, opN_f hz2, opW_f hz2, opT_f hz2, opW_f hz2, opN_f hz2, opW_f hz2, opT_f hz2, opE_f hz2]
           exact Or.inr ⟨rfl, by rw [hC]; exact hz2, by rw [hC]; exact hop2.1⟩)
        | (have hz1 : e1.1.1 ≠ 0 := by
             rcases hop1.2 with h | h
             · exfalso; omega
             · exact h.2
           have hC : clS (tx M0) (M0 17 1) s = e1 := by
             unfold clS
             rw [← he1, opW_f hz1, opN_f hz1, opW_f hz1, opT_f hz1, opW_f hz1, opN_f hz1, opW_f hz1, opT_f hz1, opE_f hz1]
           exact Or.inr ⟨rfl, by rw [hC]; exact hz1, by rw [hC]; exact hop1.1⟩)
      · exfalso; omega
    · have hs2 : e2.1.1 = 0 := by
        rcases hop2.2 with h | h
        · exact h.2
        · exfalso; omega
      have hc2 : e2.2.1 = 1 := by rw [he2, (opW_v (t := tx M0) (n := M0 17 1)).1]; omega
      refine z_aload_nr dX2_readSort_18 rfl ?_
      refine z_sipush dX2_readSort_19 ⟨by decide, by decide⟩ (by decide) ?_
      refine z_sipush dX2_readSort_22 ⟨by decide, by decide⟩ (by decide) ?_
      refine z_callVi (n2 := 93) (A_X2_readSigned l g Mz4 (-9999) 9999 _ (e2) (hop2.1) (hs2) (ok2) (hn) (by omega)) cb_X2_readSigned cl_X2_97 (clr0 rfl rfl (by decide) (by decide)) rfl (by decide) ⟨_, rfl, rfl⟩ rfl (by decide) rfl (Nat.le_of_ble_eq_true rfl) rfl dX2_readSort_25 (fun x7 Mz7 bx7 kMz7 hc7 => ?_)
      have hop3 := hc7
      obtain ⟨e3, he3⟩ : ∃ z, z = opN (tx M0) (M0 17 1) 1 (-9999) 9999 e2 := ⟨_, rfl⟩
      rw [← he3] at hop3
      have ok3 : SOk (M0 17 1) e3 := by rw [he3]; exact opN_ok ok2
      refine z_if_eq (tgt := 110) dX2_readSort_28 (by decide) (fun c8 => ?_) (fun c8 => ?_)
      · refine z_iconst dX2_readSort_110 ⟨by decide, by decide⟩ ?_
        refine z_istore_n (loc2 := [fr 17, fr 51, fi 0]) dX2_readSort_111 (by decide) rfl ?_
        refine z_iload_n dX2_readSort_112 rfl ?_
        refine z_if_eq (tgt := 160) dX2_readSort_113 (by decide) (fun c9 => ?_) (fun c9 => ?_)
        · refine z_iload_n dX2_readSort_160 rfl ?_
          refine z_zret rfl (by omega) (by decide) rfl (Nat.sub_self _) dX2_readSort_161 ?_
          first
          | (refine Or.inl ⟨rfl, by rw [hC]; exact hs10, _, by rw [hC]; exact hop10.1, ?_⟩
             rw [hst2, hst1, hC]
             simp only [effR, if_true, Nat.reduceAdd]
             rw [g0, g1, g2, g3, g4, g5])
          | (have hz10 : e10.1.1 ≠ 0 := by
               rcases hop10.2 with h | h
               · exfalso; omega
               · exact h.2
             have hC : clS (tx M0) (M0 17 1) s = e10 := by
               unfold clS
               rw [← he1, ← he2, ← he3, ← he4, ← he5, ← he6, ← he7, ← he8, ← he9, ← he10]
             exact Or.inr ⟨rfl, by rw [hC]; exact hz10, by rw [hC]; exact hop10.1⟩)
          | (have hz9 : e9.1.1 ≠ 0 := by
               rcases hop9.2 with h | h
               · exfalso; omega
               · exact h.2
             have hC : clS (tx M0) (M0 17 1) s = e9 := by
               unfold clS
               rw [← he1, ← he2, ← he3, ← he4, ← he5, ← he6, ← he7, ← he8, ← he9, opE_f hz9]
             exact Or.inr ⟨rfl, by rw [hC]; exact hz9, by rw [hC]; exact hop9.1⟩)
          | (have hz8 : e8.1.1 ≠ 0 := by
               rcases hop8.2 with h | h
               · exfalso; omega
               · exact h.2
             have hC : clS (tx M0) (M0 17 1) s = e8 := by
               unfold clS
               rw [← he1, ← he2, ← he3, ← he4, ← he5, ← he6, ← he7, ← he8, opT_f hz8, opE_f hz8]
             exact Or.inr ⟨rfl, by rw [hC]; exact hz8, by rw [hC]; exact hop8.1⟩)
          | (have hz7 : e7.1.1 ≠ 0 := by
               rcases hop7.2 with h | h
               · exfalso; omega
               · exact h.2
             have hC : clS (tx M0) (M0 17 1) s = e7 := by
               unfold clS
               rw [← he1, ← he2, ← he3, ← he4, ← he5, ← he6, ← he7, opW_f hz7, opT_f hz7, opE_f hz7]
             exact Or.inr ⟨rfl, by rw [hC]; exact hz7, by rw [hC]; exact hop7.1⟩)
          | (have hz6 : e6.1.1 ≠ 0 := by
               rcases hop6.2 with h | h
               · exfalso; omega
               · exact h.2
             have hC : clS (tx M0) (M0 17 1) s = e6 := by
               unfold clS
               rw [← he1, ← he2, ← he3, ← he4, ← he5, ← he6, opN_f hz6, opW_f hz6, opT_f hz6, opE_f hz6]
             exact Or.inr ⟨rfl, by rw [hC]; exact hz6, by rw [hC]; exact hop6.1⟩)
          | (have hz5 : e5.1.1 ≠ 0 := by
               rcases hop5.2 with h | h
               · exfalso; omega
               · exact h.2
             have hC : clS (tx M0) (M0 17 1) s = e5 := by
               unfold clS
               rw [← he1, ← he2, ← he3, ← he4, ← he5, opW_f hz5, opN_f hz5, opW_f hz5, opT_f hz5, opE_f hz5]
             exact Or.inr ⟨rfl, by rw [hC]; exact hz5, by rw [hC]; exact hop5.1⟩)
          | (have hz4 : e4.1.1 ≠ 0 := by
               rcases hop4.2 with h | h
               · exfalso; omega
               · exact h.2
             have hC : clS (tx M0) (M0 17 1) s = e4 := by
               unfold clS
               rw [← he1, ← he2, ← he3, ← he4, opT_f hz4, opW_f hz4, opN_f hz4, opW_f hz4, opT_f hz4, opE_f hz4]
             exact Or.inr ⟨rfl, by rw [hC]; exact hz4, by rw [hC]; exact hop4.1⟩)
          | (have hz3 : e3.1.1 ≠ 0 := by
               rcases hop3.2 with h | h
               · exfalso; omega
               · exact h.2
             have hC : clS (tx M0) (M0 17 1) s = e3 := by
               unfold clS
               rw [← he1, ← he2, ← he3, opW_f hz3, opT_f hz3, opW_f hz3, opN_f hz3, opW_f hz3, opT_f hz3, opE_f hz3]
             exact Or.inr ⟨rfl, by rw [hC]; exact hz3, by rw [hC]; exact hop3.1⟩)
          | (have hz2 : e2.1.1 ≠ 0 := by
               rcases hop2.2 with h | h
               · exfalso; omega
               · exact h.2
             have hC : clS (tx M0) (M0 17 1) s = e2 := by
               unfold clS
               rw [← he1, ← he2, opN_f hz2, opW_f hz2, opT_f hz2, opW_f hz2, opN_f hz2, opW_f hz2, opT_f hz2, opE_f hz2]
             exact Or.inr ⟨rfl, by rw [hC]; exact hz2, by rw [hC]; exact hop2.1⟩)
          | (have hz1 : e1.1.1 ≠ 0 := by
               rcases hop1.2 with h | h
               · exfalso; omega
               · exact h.2
             have hC : clS (tx M0) (M0 17 1) s = e1 := by
               unfold clS
               rw [← he1, opW_f hz1, opN_f hz1, opW_f hz1, opT_f hz1, opW_f hz1, opN_f hz1, opW_f hz1, opT_f hz1, opE_f hz1]
             exact Or.inr ⟨rfl, by rw [hC]; exact hz1, by rw [hC]; exact hop1.1⟩)
        · exfalso; omega
      · have hs3 : e3.1.1 = 0 := by
          rcases hop3.2 with h | h
          · exact h.2
          · exfalso; omega
        have hv3 := opN_v (t := tx M0) (n := M0 17 1) (sg := 1) (lo := (-9999)) (hi := 9999) (s := e2) ok2 (by rw [← he3]; exact hs3)
        rw [← he3] at hv3
        have hc3 : e3.2.1 = 2 := by omega
        refine z_aload_nr dX2_readSort_31 rfl ?_
        refine z_ldcs (j := 6) rfl (by decide) dX2_readSort_32 ?_
        refine z_callVi (n2 := 93) (A_X2_readWord l g Mz7 6 (by decide) _ (e3) (hop3.1) (hs3) (ok3) (hn)) cb_X2_readWord cl_X2_86 (clr0 rfl rfl (by decide) (by decide)) rfl (by decide) ⟨_, rfl, rfl⟩ rfl (by decide) rfl (Nat.le_of_ble_eq_true rfl) rfl dX2_readSort_34 (fun x10 Mz10 bx10 kMz10 hc10 => ?_)
        have hop4 := hc10
        obtain ⟨e4, he4⟩ : ∃ z, z = opW (tx M0) (M0 17 1) 6 e3 := ⟨_, rfl⟩
        rw [← he4] at hop4
        have ok4 : SOk (M0 17 1) e4 := by rw [he4]; exact opW_ok (by decide) ok3
        refine z_if_eq (tgt := 110) dX2_readSort_37 (by decide) (fun c11 => ?_) (fun c11 => ?_)
        · refine z_iconst dX2_readSort_110 ⟨by decide, by decide⟩ ?_
          refine z_istore_n (loc2 := [fr 17, fr 51, fi 0]) dX2_readSort_111 (by decide) rfl ?_
          refine z_iload_n dX2_readSort_112 rfl ?_
          refine z_if_eq (tgt := 160) dX2_readSort_113 (by decide) (fun c12 => ?_) (fun c12 => ?_)
          · refine z_iload_n dX2_readSort_160 rfl ?_
            refine z_zret rfl (by omega) (by decide) rfl (Nat.sub_self _) dX2_readSort_161 ?_
            first
            | (refine Or.inl ⟨rfl, by rw [hC]; exact hs10, _, by rw [hC]; exact hop10.1, ?_⟩
               rw [hst2, hst1, hC]
               simp only [effR, if_true, Nat.reduceAdd]
               rw [g0, g1, g2, g3, g4, g5])
            | (have hz10 : e10.1.1 ≠ 0 := by
                 rcases hop10.2 with h | h
                 · exfalso; omega
                 · exact h.2
               have hC : clS (tx M0) (M0 17 1) s = e10 := by
                 unfold clS
                 rw [← he1, ← he2, ← he3, ← he4, ← he5, ← he6, ← he7, ← he8, ← he9, ← he10]
               exact Or.inr ⟨rfl, by rw [hC]; exact hz10, by rw [hC]; exact hop10.1⟩)
            | (have hz9 : e9.1.1 ≠ 0 := by
                 rcases hop9.2 with h | h
                 · exfalso; omega
                 · exact h.2
               have hC : clS (tx M0) (M0 17 1) s = e9 := by
                 unfold clS
                 rw [← he1, ← he2, ← he3, ← he4, ← he5, ← he6, ← he7, ← he8, ← he9, opE_f hz9]
               exact Or.inr ⟨rfl, by rw [hC]; exact hz9, by rw [hC]; exact hop9.1⟩)
            | (have hz8 : e8.1.1 ≠ 0 := by
                 rcases hop8.2 with h | h
                 · exfalso; omega
                 · exact h.2
               have hC : clS (tx M0) (M0 17 1) s = e8 := by
                 unfold clS
                 rw [← he1, ← he2, ← he3, ← he4, ← he5, ← he6, ← he7, ← he8, opT_f hz8, opE_f hz8]
               exact Or.inr ⟨rfl, by rw [hC]; exact hz8, by rw [hC]; exact hop8.1⟩)
            | (have hz7 : e7.1.1 ≠ 0 := by
                 rcases hop7.2 with h | h
                 · exfalso; omega
                 · exact h.2
               have hC : clS (tx M0) (M0 17 1) s = e7 := by
                 unfold clS
                 rw [← he1, ← he2, ← he3, ← he4, ← he5, ← he6, ← he7, opW_f hz7, opT_f hz7, opE_f hz7]
               exact Or.inr ⟨rfl, by rw [hC]; exact hz7, by rw [hC]; exact hop7.1⟩)
            | (have hz6 : e6.1.1 ≠ 0 := by
                 rcases hop6.2 with h | h
                 · exfalso; omega
                 · exact h.2
               have hC : clS (tx M0) (M0 17 1) s = e6 := by
                 unfold clS
                 rw [← he1, ← he2, ← he3, ← he4, ← he5, ← he6, opN_f hz6, opW_f hz6, opT_f hz6, opE_f hz6]
               exact Or.inr ⟨rfl, by rw [hC]; exact hz6, by rw [hC]; exact hop6.1⟩)
            | (have hz5 : e5.1.1 ≠ 0 := by
                 rcases hop5.2 with h | h
                 · exfalso; omega
                 · exact h.2
               have hC : clS (tx M0) (M0 17 1) s = e5 := by
                 unfold clS
                 rw [← he1, ← he2, ← he3, ← he4, ← he5, opW_f hz5, opN_f hz5, opW_f hz5, opT_f hz5, opE_f hz5]
               exact Or.inr ⟨rfl, by rw [hC]; exact hz5, by rw [hC]; exact hop5.1⟩)
            | (have hz4 : e4.1.1 ≠ 0 := by
                 rcases hop4.2 with h | h
                 · exfalso; omega
                 · exact h.2
               have hC : clS (tx M0) (M0 17 1) s = e4 := by
                 unfold clS
                 rw [← he1, ← he2, ← he3, ← he4, opT_f hz4, opW_f hz4, opN_f hz4, opW_f hz4, opT_f hz4, opE_f hz4]
               exact Or.inr ⟨rfl, by rw [hC]; exact hz4, by rw [hC]; exact hop4.1⟩)
            | (have hz3 : e3.1.1 ≠ 0 := by
                 rcases hop3.2 with h | h
                 · exfalso; omega
                 · exact h.2
               have hC : clS (tx M0) (M0 17 1) s = e3 := by
                 unfold clS
                 rw [← he1, ← he2, ← he3, opW_f hz3, opT_f hz3, opW_f hz3, opN_f hz3, opW_f hz3, opT_f hz3, opE_f hz3]
               exact Or.inr ⟨rfl, by rw [hC]; exact hz3, by rw [hC]; exact hop3.1⟩)
            | (have hz2 : e2.1.1 ≠ 0 := by
                 rcases hop2.2 with h | h
                 · exfalso; omega
                 · exact h.2
               have hC : clS (tx M0) (M0 17 1) s = e2 := by
                 unfold clS
                 rw [← he1, ← he2, opN_f hz2, opW_f hz2, opT_f hz2, opW_f hz2, opN_f hz2, opW_f hz2, opT_f hz2, opE_f hz2]
               exact Or.inr ⟨rfl, by rw [hC]; exact hz2, by rw [hC]; exact hop2.1⟩)
            | (have hz1 : e1.1.1 ≠ 0 := by
                 rcases hop1.2 with h | h
                 · exfalso; omega
                 · exact h.2
               have hC : clS (tx M0) (M0 17 1) s = e1 := by
                 unfold clS
                 rw [← he1, opW_f hz1, opN_f hz1, opW_f hz1, opT_f hz1, opW_f hz1, opN_f hz1, opW_f hz1, opT_f hz1, opE_f hz1]
               exact Or.inr ⟨rfl, by rw [hC]; exact hz1, by rw [hC]; exact hop1.1⟩)
          · exfalso; omega
        · have hs4 : e4.1.1 = 0 := by
            rcases hop4.2 with h | h
            · exact h.2
            · exfalso; omega
          have hc4 : e4.2.1 = 2 := by rw [he4, (opW_v (t := tx M0) (n := M0 17 1)).1]; omega
          refine z_aload_nr dX2_readSort_40 rfl ?_
          refine z_aload_nr dX2_readSort_41 rfl ?_
          refine z_callVip (n2 := 93) (A_X2_latest l g Mz10 (by have hq := (hop4.1.2.1 hs4).2.2.2.1; omega)) cb_X2_latest cl_X2_102 (clr0 rfl rfl (by decide) (by decide)) rfl (by decide) ⟨_, rfl, rfl⟩ rfl (by decide) rfl (Nat.le_of_ble_eq_true rfl) rfl dX2_readSort_42 (fun x13 bx13 hx13 => ?_)
          have hl5 : x13 = e4.2.2 (e4.2.1 - 1) := by rw [hx13, (hop4.1.2.1 hs4).2.2.2.1]; exact (hop4.1.2.1 hs4).2.2.2.2 _ (by omega) (by omega)
          refine z_sipush dX2_readSort_45 ⟨by decide, by decide⟩ (by decide) ?_
          refine z_callVi (n2 := 93) (A_X2_readSigned l g Mz10 x13 9999 _ (e4) (hop4.1) (hs4) (ok4) (hn) (by omega)) cb_X2_readSigned cl_X2_97 (clr0 rfl rfl (by decide) (by decide)) rfl (by decide) ⟨_, rfl, rfl⟩ rfl (by decide) rfl (Nat.le_of_ble_eq_true rfl) rfl dX2_readSort_48 (fun x14 Mz14 bx14 kMz14 hc14 => ?_)
          have hop5 := hc14
          rw [hl5] at hop5
          obtain ⟨e5, he5⟩ : ∃ z, z = opT (tx M0) (M0 17 1) 1 9999 e4 := ⟨_, rfl⟩
          rw [show opN (tx M0) (M0 17 1) 1 (e4.2.2 (e4.2.1 - 1)) 9999 e4 = e5 from he5.symm] at hop5
          have ok5 : SOk (M0 17 1) e5 := by rw [he5]; exact opT_ok ok4
          refine z_if_eq (tgt := 110) dX2_readSort_51 (by decide) (fun c15 => ?_) (fun c15 => ?_)
          · refine z_iconst dX2_readSort_110 ⟨by decide, by decide⟩ ?_
            refine z_istore_n (loc2 := [fr 17, fr 51, fi 0]) dX2_readSort_111 (by decide) rfl ?_
            refine z_iload_n dX2_readSort_112 rfl ?_
            refine z_if_eq (tgt := 160) dX2_readSort_113 (by decide) (fun c16 => ?_) (fun c16 => ?_)
            · refine z_iload_n dX2_readSort_160 rfl ?_
              refine z_zret rfl (by omega) (by decide) rfl (Nat.sub_self _) dX2_readSort_161 ?_
              first
              | (refine Or.inl ⟨rfl, by rw [hC]; exact hs10, _, by rw [hC]; exact hop10.1, ?_⟩
                 rw [hst2, hst1, hC]
                 simp only [effR, if_true, Nat.reduceAdd]
                 rw [g0, g1, g2, g3, g4, g5])
              | (have hz10 : e10.1.1 ≠ 0 := by
                   rcases hop10.2 with h | h
                   · exfalso; omega
                   · exact h.2
                 have hC : clS (tx M0) (M0 17 1) s = e10 := by
                   unfold clS
                   rw [← he1, ← he2, ← he3, ← he4, ← he5, ← he6, ← he7, ← he8, ← he9, ← he10]
                 exact Or.inr ⟨rfl, by rw [hC]; exact hz10, by rw [hC]; exact hop10.1⟩)
              | (have hz9 : e9.1.1 ≠ 0 := by
                   rcases hop9.2 with h | h
                   · exfalso; omega
                   · exact h.2
                 have hC : clS (tx M0) (M0 17 1) s = e9 := by
                   unfold clS
                   rw [← he1, ← he2, ← he3, ← he4, ← he5, ← he6, ← he7, ← he8, ← he9, opE_f hz9]
                 exact Or.inr ⟨rfl, by rw [hC]; exact hz9, by rw [hC]; exact hop9.1⟩)
              | (have hz8 : e8.1.1 ≠ 0 := by
                   rcases hop8.2 with h | h
                   · exfalso; omega
                   · exact h.2
                 have hC : clS (tx M0) (M0 17 1) s = e8 := by
                   unfold clS
                   rw [← he1, ← he2, ← he3, ← he4, ← he5, ← he6, ← he7, ← he8, opT_f hz8, opE_f hz8]
                 exact Or.inr ⟨rfl, by rw [hC]; exact hz8, by rw [hC]; exact hop8.1⟩)
              | (have hz7 : e7.1.1 ≠ 0 := by
                   rcases hop7.2 with h | h
                   · exfalso; omega
                   · exact h.2
                 have hC : clS (tx M0) (M0 17 1) s = e7 := by
                   unfold clS
                   rw [← he1, ← he2, ← he3, ← he4, ← he5, ← he6, ← he7, opW_f hz7, opT_f hz7, opE_f hz7]
                 exact Or.inr ⟨rfl, by rw [hC]; exact hz7, by rw [hC]; exact hop7.1⟩)
              | (have hz6 : e6.1.1 ≠ 0 := by
                   rcases hop6.2 with h | h
                   · exfalso; omega
                   · exact h.2
                 have hC : clS (tx M0) (M0 17 1) s = e6 := by
                   unfold clS
                   rw [← he1, ← he2, ← he3, ← he4, ← he5, ← he6, opN_f hz6, opW_f hz6, opT_f hz6, opE_f hz6]
                 exact Or.inr ⟨rfl, by rw [hC]; exact hz6, by rw [hC]; exact hop6.1⟩)
              | (have hz5 : e5.1.1 ≠ 0 := by
                   rcases hop5.2 with h | h
                   · exfalso; omega
                   · exact h.2
                 have hC : clS (tx M0) (M0 17 1) s = e5 := by
                   unfold clS
                   rw [← he1, ← he2, ← he3, ← he4, ← he5, opW_f hz5, opN_f hz5, opW_f hz5, opT_f hz5, opE_f hz5]
                 exact Or.inr ⟨rfl, by rw [hC]; exact hz5, by rw [hC]; exact hop5.1⟩)
              | (have hz4 : e4.1.1 ≠ 0 := by
                   rcases hop4.2 with h | h
                   · exfalso; omega
                   · exact h.2
                 have hC : clS (tx M0) (M0 17 1) s = e4 := by
                   unfold clS
                   rw [← he1, ← he2, ← he3, ← he4, opT_f hz4, opW_f hz4, opN_f hz4, opW_f hz4, opT_f hz4, opE_f hz4]
                 exact Or.inr ⟨rfl, by rw [hC]; exact hz4, by rw [hC]; exact hop4.1⟩)
              | (have hz3 : e3.1.1 ≠ 0 := by
                   rcases hop3.2 with h | h
                   · exfalso; omega
                   · exact h.2
                 have hC : clS (tx M0) (M0 17 1) s = e3 := by
                   unfold clS
                   rw [← he1, ← he2, ← he3, opW_f hz3, opT_f hz3, opW_f hz3, opN_f hz3, opW_f hz3, opT_f hz3, opE_f hz3]
                 exact Or.inr ⟨rfl, by rw [hC]; exact hz3, by rw [hC]; exact hop3.1⟩)
              | (have hz2 : e2.1.1 ≠ 0 := by
                   rcases hop2.2 with h | h
                   · exfalso; omega
                   · exact h.2
                 have hC : clS (tx M0) (M0 17 1) s = e2 := by
                   unfold clS
                   rw [← he1, ← he2, opN_f hz2, opW_f hz2, opT_f hz2, opW_f hz2, opN_f hz2, opW_f hz2, opT_f hz2, opE_f hz2]
                 exact Or.inr ⟨rfl, by rw [hC]; exact hz2, by rw [hC]; exact hop2.1⟩)
              | (have hz1 : e1.1.1 ≠ 0 := by
                   rcases hop1.2 with h | h
                   · exfalso; omega
                   · exact h.2
                 have hC : clS (tx M0) (M0 17 1) s = e1 := by
                   unfold clS
                   rw [← he1, opW_f hz1, opN_f hz1, opW_f hz1, opT_f hz1, opW_f hz1, opN_f hz1, opW_f hz1, opT_f hz1, opE_f hz1]
                 exact Or.inr ⟨rfl, by rw [hC]; exact hz1, by rw [hC]; exact hop1.1⟩)
            · exfalso; omega
          · have hs5 : e5.1.1 = 0 := by
              rcases hop5.2 with h | h
              · exact h.2
              · exfalso; omega
            have hv5 := opN_v (t := tx M0) (n := M0 17 1) (sg := 1) (lo := e4.2.2 (e4.2.1 - 1)) (hi := 9999) (s := e4) ok4 (by rw [show opN (tx M0) (M0 17 1) 1 (e4.2.2 (e4.2.1 - 1)) 9999 e4 = e5 from he5.symm]; exact hs5)
            rw [show opN (tx M0) (M0 17 1) 1 (e4.2.2 (e4.2.1 - 1)) 9999 e4 = e5 from he5.symm] at hv5
            have hc5 : e5.2.1 = 3 := by omega
            refine z_aload_nr dX2_readSort_54 rfl ?_
            refine z_ldcs (j := 7) rfl (by decide) dX2_readSort_55 ?_
            refine z_callVi (n2 := 93) (A_X2_readWord l g Mz14 7 (by decide) _ (e5) (hop5.1) (hs5) (ok5) (hn)) cb_X2_readWord cl_X2_86 (clr0 rfl rfl (by decide) (by decide)) rfl (by decide) ⟨_, rfl, rfl⟩ rfl (by decide) rfl (Nat.le_of_ble_eq_true rfl) rfl dX2_readSort_57 (fun x17 Mz17 bx17 kMz17 hc17 => ?_)
            have hop6 := hc17
            obtain ⟨e6, he6⟩ : ∃ z, z = opW (tx M0) (M0 17 1) 7 e5 := ⟨_, rfl⟩
            rw [← he6] at hop6
            have ok6 : SOk (M0 17 1) e6 := by rw [he6]; exact opW_ok (by decide) ok5
            refine z_if_eq (tgt := 110) dX2_readSort_60 (by decide) (fun c18 => ?_) (fun c18 => ?_)
            · refine z_iconst dX2_readSort_110 ⟨by decide, by decide⟩ ?_
              refine z_istore_n (loc2 := [fr 17, fr 51, fi 0]) dX2_readSort_111 (by decide) rfl ?_
              refine z_iload_n dX2_readSort_112 rfl ?_
              refine z_if_eq (tgt := 160) dX2_readSort_113 (by decide) (fun c19 => ?_) (fun c19 => ?_)
              · refine z_iload_n dX2_readSort_160 rfl ?_
                refine z_zret rfl (by omega) (by decide) rfl (Nat.sub_self _) dX2_readSort_161 ?_
                first
                | (refine Or.inl ⟨rfl, by rw [hC]; exact hs10, _, by rw [hC]; exact hop10.1, ?_⟩
                   rw [hst2, hst1, hC]
                   simp only [effR, if_true, Nat.reduceAdd]
                   rw [g0, g1, g2, g3, g4, g5])
                | (have hz10 : e10.1.1 ≠ 0 := by
                     rcases hop10.2 with h | h
                     · exfalso; omega
                     · exact h.2
                   have hC : clS (tx M0) (M0 17 1) s = e10 := by
                     unfold clS
                     rw [← he1, ← he2, ← he3, ← he4, ← he5, ← he6, ← he7, ← he8, ← he9, ← he10]
                   exact Or.inr ⟨rfl, by rw [hC]; exact hz10, by rw [hC]; exact hop10.1⟩)
                | (have hz9 : e9.1.1 ≠ 0 := by
                     rcases hop9.2 with h | h
                     · exfalso; omega
                     · exact h.2
                   have hC : clS (tx M0) (M0 17 1) s = e9 := by
                     unfold clS
                     rw [← he1, ← he2, ← he3, ← he4, ← he5, ← he6, ← he7, ← he8, ← he9, opE_f hz9]
                   exact Or.inr ⟨rfl, by rw [hC]; exact hz9, by rw [hC]; exact hop9.1⟩)
                | (have hz8 : e8.1.1 ≠ 0 := by
                     rcases hop8.2 with h | h
                     · exfalso; omega
                     · exact h.2
                   have hC : clS (tx M0) (M0 17 1) s = e8 := by
                     unfold clS
                     rw [← he1, ← he2, ← he3, ← he4, ← he5, ← he6, ← he7, ← he8, opT_f hz8, opE_f hz8]
                   exact Or.inr ⟨rfl, by rw [hC]; exact hz8, by rw [hC]; exact hop8.1⟩)
                | (have hz7 : e7.1.1 ≠ 0 := by
                     rcases hop7.2 with h | h
                     · exfalso; omega
                     · exact h.2
                   have hC : clS (tx M0) (M0 17 1) s = e7 := by
                     unfold clS
                     rw [← he1, ← he2, ← he3, ← he4, ← he5, ← he6, ← he7, opW_f hz7, opT_f hz7, opE_f hz7]
                   exact Or.inr ⟨rfl, by rw [hC]; exact hz7, by rw [hC]; exact hop7.1⟩)
                | (have hz6 : e6.1.1 ≠ 0 := by
                     rcases hop6.2 with h | h
                     · exfalso; omega
                     · exact h.2
                   have hC : clS (tx M0) (M0 17 1) s = e6 := by
                     unfold clS
                     rw [← he1, ← he2, ← he3, ← he4, ← he5, ← he6, opN_f hz6, opW_f hz6, opT_f hz6, opE_f hz6]
                   exact Or.inr ⟨rfl, by rw [hC]; exact hz6, by rw [hC]; exact hop6.1⟩)
                | (have hz5 : e5.1.1 ≠ 0 := by
                     rcases hop5.2 with h | h
                     · exfalso; omega
                     · exact h.2
                   have hC : clS (tx M0) (M0 17 1) s = e5 := by
                     unfold clS
                     rw [← he1, ← he2, ← he3, ← he4, ← he5, opW_f hz5, opN_f hz5, opW_f hz5, opT_f hz5, opE_f hz5]
                   exact Or.inr ⟨rfl, by rw [hC]; exact hz5, by rw [hC]; exact hop5.1⟩)
                | (have hz4 : e4.1.1 ≠ 0 := by
                     rcases hop4.2 with h | h
                     · exfalso; omega
                     · exact h.2
                   have hC : clS (tx M0) (M0 17 1) s = e4 := by
                     unfold clS
                     rw [← he1, ← he2, ← he3, ← he4, opT_f hz4, opW_f hz4, opN_f hz4, opW_f hz4, opT_f hz4, opE_f hz4]
                   exact Or.inr ⟨rfl, by rw [hC]; exact hz4, by rw [hC]; exact hop4.1⟩)
                | (have hz3 : e3.1.1 ≠ 0 := by
                     rcases hop3.2 with h | h
                     · exfalso; omega
                     · exact h.2
                   have hC : clS (tx M0) (M0 17 1) s = e3 := by
                     unfold clS
                     rw [← he1, ← he2, ← he3, opW_f hz3, opT_f hz3, opW_f hz3, opN_f hz3, opW_f hz3, opT_f hz3, opE_f hz3]
                   exact Or.inr ⟨rfl, by rw [hC]; exact hz3, by rw [hC]; exact hop3.1⟩)
                | (have hz2 : e2.1.1 ≠ 0 := by
                     rcases hop2.2 with h | h
                     · exfalso; omega
                     · exact h.2
                   have hC : clS (tx M0) (M0 17 1) s = e2 := by
                     unfold clS
                     rw [← he1, ← he2, opN_f hz2, opW_f hz2, opT_f hz2, opW_f hz2, opN_f hz2, opW_f hz2, opT_f hz2, opE_f hz2]
                   exact Or.inr ⟨rfl, by rw [hC]; exact hz2, by rw [hC]; exact hop2.1⟩)
                | (have hz1 : e1.1.1 ≠ 0 := by
                     rcases hop1.2 with h | h
                     · exfalso; omega
                     · exact h.2
                   have hC : clS (tx M0) (M0 17 1) s = e1 := by
                     unfold clS
                     rw [← he1, opW_f hz1, opN_f hz1, opW_f hz1, opT_f hz1, opW_f hz1, opN_f hz1, opW_f hz1, opT_f hz1, opE_f hz1]
                   exact Or.inr ⟨rfl, by rw [hC]; exact hz1, by rw [hC]; exact hop1.1⟩)
              · exfalso; omega
            · have hs6 : e6.1.1 = 0 := by
                rcases hop6.2 with h | h
                · exact h.2
                · exfalso; omega
              have hc6 : e6.2.1 = 3 := by rw [he6, (opW_v (t := tx M0) (n := M0 17 1)).1]; omega
              refine z_aload_nr dX2_readSort_63 rfl ?_
              refine z_sipush dX2_readSort_64 ⟨by decide, by decide⟩ (by decide) ?_
              refine z_sipush dX2_readSort_67 ⟨by decide, by decide⟩ (by decide) ?_
              refine z_callVi (n2 := 93) (A_X2_readSigned l g Mz17 (-9999) 9999 _ (e6) (hop6.1) (hs6) (ok6) (hn) (by omega)) cb_X2_readSigned cl_X2_97 (clr0 rfl rfl (by decide) (by decide)) rfl (by decide) ⟨_, rfl, rfl⟩ rfl (by decide) rfl (Nat.le_of_ble_eq_true rfl) rfl dX2_readSort_70 (fun x20 Mz20 bx20 kMz20 hc20 => ?_)
              have hop7 := hc20
              obtain ⟨e7, he7⟩ : ∃ z, z = opN (tx M0) (M0 17 1) 1 (-9999) 9999 e6 := ⟨_, rfl⟩
              rw [← he7] at hop7
              have ok7 : SOk (M0 17 1) e7 := by rw [he7]; exact opN_ok ok6
              refine z_if_eq (tgt := 110) dX2_readSort_73 (by decide) (fun c21 => ?_) (fun c21 => ?_)
              · refine z_iconst dX2_readSort_110 ⟨by decide, by decide⟩ ?_
                refine z_istore_n (loc2 := [fr 17, fr 51, fi 0]) dX2_readSort_111 (by decide) rfl ?_
                refine z_iload_n dX2_readSort_112 rfl ?_
                refine z_if_eq (tgt := 160) dX2_readSort_113 (by decide) (fun c22 => ?_) (fun c22 => ?_)
                · refine z_iload_n dX2_readSort_160 rfl ?_
                  refine z_zret rfl (by omega) (by decide) rfl (Nat.sub_self _) dX2_readSort_161 ?_
                  first
                  | (refine Or.inl ⟨rfl, by rw [hC]; exact hs10, _, by rw [hC]; exact hop10.1, ?_⟩
                     rw [hst2, hst1, hC]
                     simp only [effR, if_true, Nat.reduceAdd]
                     rw [g0, g1, g2, g3, g4, g5])
                  | (have hz10 : e10.1.1 ≠ 0 := by
                       rcases hop10.2 with h | h
                       · exfalso; omega
                       · exact h.2
                     have hC : clS (tx M0) (M0 17 1) s = e10 := by
                       unfold clS
                       rw [← he1, ← he2, ← he3, ← he4, ← he5, ← he6, ← he7, ← he8, ← he9, ← he10]
                     exact Or.inr ⟨rfl, by rw [hC]; exact hz10, by rw [hC]; exact hop10.1⟩)
                  | (have hz9 : e9.1.1 ≠ 0 := by
                       rcases hop9.2 with h | h
                       · exfalso; omega
                       · exact h.2
                     have hC : clS (tx M0) (M0 17 1) s = e9 := by
                       unfold clS
                       rw [← he1, ← he2, ← he3, ← he4, ← he5, ← he6, ← he7, ← he8, ← he9, opE_f hz9]
                     exact Or.inr ⟨rfl, by rw [hC]; exact hz9, by rw [hC]; exact hop9.1⟩)
                  | (have hz8 : e8.1.1 ≠ 0 := by
                       rcases hop8.2 with h | h
                       · exfalso; omega
                       · exact h.2
                     have hC : clS (tx M0) (M0 17 1) s = e8 := by
                       unfold clS
                       rw [← he1, ← he2, ← he3, ← he4, ← he5, ← he6, ← he7, ← he8, opT_f hz8, opE_f hz8]
                     exact Or.inr ⟨rfl, by rw [hC]; exact hz8, by rw [hC]; exact hop8.1⟩)
                  | (have hz7 : e7.1.1 ≠ 0 := by
                       rcases hop7.2 with h | h
                       · exfalso; omega
                       · exact h.2
                     have hC : clS (tx M0) (M0 17 1) s = e7 := by
                       unfold clS
                       rw [← he1, ← he2, ← he3, ← he4, ← he5, ← he6, ← he7, opW_f hz7, opT_f hz7, opE_f hz7]
                     exact Or.inr ⟨rfl, by rw [hC]; exact hz7, by rw [hC]; exact hop7.1⟩)
                  | (have hz6 : e6.1.1 ≠ 0 := by
                       rcases hop6.2 with h | h
                       · exfalso; omega
                       · exact h.2
                     have hC : clS (tx M0) (M0 17 1) s = e6 := by
                       unfold clS
                       rw [← he1, ← he2, ← he3, ← he4, ← he5, ← he6, opN_f hz6, opW_f hz6, opT_f hz6, opE_f hz6]
                     exact Or.inr ⟨rfl, by rw [hC]; exact hz6, by rw [hC]; exact hop6.1⟩)
                  | (have hz5 : e5.1.1 ≠ 0 := by
                       rcases hop5.2 with h | h
                       · exfalso; omega
                       · exact h.2
                     have hC : clS (tx M0) (M0 17 1) s = e5 := by
                       unfold clS
                       rw [← he1, ← he2, ← he3, ← he4, ← he5, opW_f hz5, opN_f hz5, opW_f hz5, opT_f hz5, opE_f hz5]
                     exact Or.inr ⟨rfl, by rw [hC]; exact hz5, by rw [hC]; exact hop5.1⟩)
                  | (have hz4 : e4.1.1 ≠ 0 := by
                       rcases hop4.2 with h | h
                       · exfalso; omega
                       · exact h.2
                     have hC : clS (tx M0) (M0 17 1) s = e4 := by
                       unfold clS
                       rw [← he1, ← he2, ← he3, ← he4, opT_f hz4, opW_f hz4, opN_f hz4, opW_f hz4, opT_f hz4, opE_f hz4]
                     exact Or.inr ⟨rfl, by rw [hC]; exact hz4, by rw [hC]; exact hop4.1⟩)
                  | (have hz3 : e3.1.1 ≠ 0 := by
                       rcases hop3.2 with h | h
                       · exfalso; omega
                       · exact h.2
                     have hC : clS (tx M0) (M0 17 1) s = e3 := by
                       unfold clS
                       rw [← he1, ← he2, ← he3, opW_f hz3, opT_f hz3, opW_f hz3, opN_f hz3, opW_f hz3, opT_f hz3, opE_f hz3]
                     exact Or.inr ⟨rfl, by rw [hC]; exact hz3, by rw [hC]; exact hop3.1⟩)
                  | (have hz2 : e2.1.1 ≠ 0 := by
                       rcases hop2.2 with h | h
                       · exfalso; omega
                       · exact h.2
                     have hC : clS (tx M0) (M0 17 1) s = e2 := by
                       unfold clS
                       rw [← he1, ← he2, opN_f hz2, opW_f hz2, opT_f hz2, opW_f hz2, opN_f hz2, opW_f hz2, opT_f hz2, opE_f hz2]
                     exact Or.inr ⟨rfl, by rw [hC]; exact hz2, by rw [hC]; exact hop2.1⟩)
                  | (have hz1 : e1.1.1 ≠ 0 := by
                       rcases hop1.2 with h | h
                       · exfalso; omega
                       · exact h.2
                     have hC : clS (tx M0) (M0 17 1) s = e1 := by
                       unfold clS
                       rw [← he1, opW_f hz1, opN_f hz1, opW_f hz1, opT_f hz1, opW_f hz1, opN_f hz1, opW_f hz1, opT_f hz1, opE_f hz1]
                     exact Or.inr ⟨rfl, by rw [hC]; exact hz1, by rw [hC]; exact hop1.1⟩)
                · exfalso; omega
              · have hs7 : e7.1.1 = 0 := by
                  rcases hop7.2 with h | h
                  · exact h.2
                  · exfalso; omega
                have hv7 := opN_v (t := tx M0) (n := M0 17 1) (sg := 1) (lo := (-9999)) (hi := 9999) (s := e6) ok6 (by rw [← he7]; exact hs7)
                rw [← he7] at hv7
                have hc7 : e7.2.1 = 4 := by omega
                refine z_aload_nr dX2_readSort_76 rfl ?_
                refine z_ldcs (j := 6) rfl (by decide) dX2_readSort_77 ?_
                refine z_callVi (n2 := 93) (A_X2_readWord l g Mz20 6 (by decide) _ (e7) (hop7.1) (hs7) (ok7) (hn)) cb_X2_readWord cl_X2_86 (clr0 rfl rfl (by decide) (by decide)) rfl (by decide) ⟨_, rfl, rfl⟩ rfl (by decide) rfl (Nat.le_of_ble_eq_true rfl) rfl dX2_readSort_79 (fun x23 Mz23 bx23 kMz23 hc23 => ?_)
                have hop8 := hc23
                obtain ⟨e8, he8⟩ : ∃ z, z = opW (tx M0) (M0 17 1) 6 e7 := ⟨_, rfl⟩
                rw [← he8] at hop8
                have ok8 : SOk (M0 17 1) e8 := by rw [he8]; exact opW_ok (by decide) ok7
                refine z_if_eq (tgt := 110) dX2_readSort_82 (by decide) (fun c24 => ?_) (fun c24 => ?_)
                · refine z_iconst dX2_readSort_110 ⟨by decide, by decide⟩ ?_
                  refine z_istore_n (loc2 := [fr 17, fr 51, fi 0]) dX2_readSort_111 (by decide) rfl ?_
                  refine z_iload_n dX2_readSort_112 rfl ?_
                  refine z_if_eq (tgt := 160) dX2_readSort_113 (by decide) (fun c25 => ?_) (fun c25 => ?_)
                  · refine z_iload_n dX2_readSort_160 rfl ?_
                    refine z_zret rfl (by omega) (by decide) rfl (Nat.sub_self _) dX2_readSort_161 ?_
                    first
                    | (refine Or.inl ⟨rfl, by rw [hC]; exact hs10, _, by rw [hC]; exact hop10.1, ?_⟩
                       rw [hst2, hst1, hC]
                       simp only [effR, if_true, Nat.reduceAdd]
                       rw [g0, g1, g2, g3, g4, g5])
                    | (have hz10 : e10.1.1 ≠ 0 := by
                         rcases hop10.2 with h | h
                         · exfalso; omega
                         · exact h.2
                       have hC : clS (tx M0) (M0 17 1) s = e10 := by
                         unfold clS
                         rw [← he1, ← he2, ← he3, ← he4, ← he5, ← he6, ← he7, ← he8, ← he9, ← he10]
                       exact Or.inr ⟨rfl, by rw [hC]; exact hz10, by rw [hC]; exact hop10.1⟩)
                    | (have hz9 : e9.1.1 ≠ 0 := by
                         rcases hop9.2 with h | h
                         · exfalso; omega
                         · exact h.2
                       have hC : clS (tx M0) (M0 17 1) s = e9 := by
                         unfold clS
                         rw [← he1, ← he2, ← he3, ← he4, ← he5, ← he6, ← he7, ← he8, ← he9, opE_f hz9]
                       exact Or.inr ⟨rfl, by rw [hC]; exact hz9, by rw [hC]; exact hop9.1⟩)
                    | (have hz8 : e8.1.1 ≠ 0 := by
                         rcases hop8.2 with h | h
                         · exfalso; omega
                         · exact h.2
                       have hC : clS (tx M0) (M0 17 1) s = e8 := by
                         unfold clS
                         rw [← he1, ← he2, ← he3, ← he4, ← he5, ← he6, ← he7, ← he8, opT_f hz8, opE_f hz8]
                       exact Or.inr ⟨rfl, by rw [hC]; exact hz8, by rw [hC]; exact hop8.1⟩)
                    | (have hz7 : e7.1.1 ≠ 0 := by
                         rcases hop7.2 with h | h
                         · exfalso; omega
                         · exact h.2
                       have hC : clS (tx M0) (M0 17 1) s = e7 := by
                         unfold clS
                         rw [← he1, ← he2, ← he3, ← he4, ← he5, ← he6, ← he7, opW_f hz7, opT_f hz7, opE_f hz7]
                       exact Or.inr ⟨rfl, by rw [hC]; exact hz7, by rw [hC]; exact hop7.1⟩)
                    | (have hz6 : e6.1.1 ≠ 0 := by
                         rcases hop6.2 with h | h
                         · exfalso; omega
                         · exact h.2
                       have hC : clS (tx M0) (M0 17 1) s = e6 := by
                         unfold clS
                         rw [← he1, ← he2, ← he3, ← he4, ← he5, ← he6, opN_f hz6, opW_f hz6, opT_f hz6, opE_f hz6]
                       exact Or.inr ⟨rfl, by rw [hC]; exact hz6, by rw [hC]; exact hop6.1⟩)
                    | (have hz5 : e5.1.1 ≠ 0 := by
                         rcases hop5.2 with h | h
                         · exfalso; omega
                         · exact h.2
                       have hC : clS (tx M0) (M0 17 1) s = e5 := by
                         unfold clS
                         rw [← he1, ← he2, ← he3, ← he4, ← he5, opW_f hz5, opN_f hz5, opW_f hz5, opT_f hz5, opE_f hz5]
                       exact Or.inr ⟨rfl, by rw [hC]; exact hz5, by rw [hC]; exact hop5.1⟩)
                    | (have hz4 : e4.1.1 ≠ 0 := by
                         rcases hop4.2 with h | h
                         · exfalso; omega
                         · exact h.2
                       have hC : clS (tx M0) (M0 17 1) s = e4 := by
                         unfold clS
                         rw [← he1, ← he2, ← he3, ← he4, opT_f hz4, opW_f hz4, opN_f hz4, opW_f hz4, opT_f hz4, opE_f hz4]
                       exact Or.inr ⟨rfl, by rw [hC]; exact hz4, by rw [hC]; exact hop4.1⟩)
                    | (have hz3 : e3.1.1 ≠ 0 := by
                         rcases hop3.2 with h | h
                         · exfalso; omega
                         · exact h.2
                       have hC : clS (tx M0) (M0 17 1) s = e3 := by
                         unfold clS
                         rw [← he1, ← he2, ← he3, opW_f hz3, opT_f hz3, opW_f hz3, opN_f hz3, opW_f hz3, opT_f hz3, opE_f hz3]
                       exact Or.inr ⟨rfl, by rw [hC]; exact hz3, by rw [hC]; exact hop3.1⟩)
                    | (have hz2 : e2.1.1 ≠ 0 := by
                         rcases hop2.2 with h | h
                         · exfalso; omega
                         · exact h.2
                       have hC : clS (tx M0) (M0 17 1) s = e2 := by
                         unfold clS
                         rw [← he1, ← he2, opN_f hz2, opW_f hz2, opT_f hz2, opW_f hz2, opN_f hz2, opW_f hz2, opT_f hz2, opE_f hz2]
                       exact Or.inr ⟨rfl, by rw [hC]; exact hz2, by rw [hC]; exact hop2.1⟩)
                    | (have hz1 : e1.1.1 ≠ 0 := by
                         rcases hop1.2 with h | h
                         · exfalso; omega
                         · exact h.2
                       have hC : clS (tx M0) (M0 17 1) s = e1 := by
                         unfold clS
                         rw [← he1, opW_f hz1, opN_f hz1, opW_f hz1, opT_f hz1, opW_f hz1, opN_f hz1, opW_f hz1, opT_f hz1, opE_f hz1]
                       exact Or.inr ⟨rfl, by rw [hC]; exact hz1, by rw [hC]; exact hop1.1⟩)
                  · exfalso; omega
                · have hs8 : e8.1.1 = 0 := by
                    rcases hop8.2 with h | h
                    · exact h.2
                    · exfalso; omega
                  have hc8 : e8.2.1 = 4 := by rw [he8, (opW_v (t := tx M0) (n := M0 17 1)).1]; omega
                  refine z_aload_nr dX2_readSort_85 rfl ?_
                  refine z_aload_nr dX2_readSort_86 rfl ?_
                  refine z_callVip (n2 := 93) (A_X2_latest l g Mz23 (by have hq := (hop8.1.2.1 hs8).2.2.2.1; omega)) cb_X2_latest cl_X2_102 (clr0 rfl rfl (by decide) (by decide)) rfl (by decide) ⟨_, rfl, rfl⟩ rfl (by decide) rfl (Nat.le_of_ble_eq_true rfl) rfl dX2_readSort_87 (fun x26 bx26 hx26 => ?_)
                  have hl9 : x26 = e8.2.2 (e8.2.1 - 1) := by rw [hx26, (hop8.1.2.1 hs8).2.2.2.1]; exact (hop8.1.2.1 hs8).2.2.2.2 _ (by omega) (by omega)
                  refine z_sipush dX2_readSort_90 ⟨by decide, by decide⟩ (by decide) ?_
                  refine z_callVi (n2 := 93) (A_X2_readSigned l g Mz23 x26 9999 _ (e8) (hop8.1) (hs8) (ok8) (hn) (by omega)) cb_X2_readSigned cl_X2_97 (clr0 rfl rfl (by decide) (by decide)) rfl (by decide) ⟨_, rfl, rfl⟩ rfl (by decide) rfl (Nat.le_of_ble_eq_true rfl) rfl dX2_readSort_93 (fun x27 Mz27 bx27 kMz27 hc27 => ?_)
                  have hop9 := hc27
                  rw [hl9] at hop9
                  obtain ⟨e9, he9⟩ : ∃ z, z = opT (tx M0) (M0 17 1) 1 9999 e8 := ⟨_, rfl⟩
                  rw [show opN (tx M0) (M0 17 1) 1 (e8.2.2 (e8.2.1 - 1)) 9999 e8 = e9 from he9.symm] at hop9
                  have ok9 : SOk (M0 17 1) e9 := by rw [he9]; exact opT_ok ok8
                  refine z_if_eq (tgt := 110) dX2_readSort_96 (by decide) (fun c28 => ?_) (fun c28 => ?_)
                  · refine z_iconst dX2_readSort_110 ⟨by decide, by decide⟩ ?_
                    refine z_istore_n (loc2 := [fr 17, fr 51, fi 0]) dX2_readSort_111 (by decide) rfl ?_
                    refine z_iload_n dX2_readSort_112 rfl ?_
                    refine z_if_eq (tgt := 160) dX2_readSort_113 (by decide) (fun c29 => ?_) (fun c29 => ?_)
                    · refine z_iload_n dX2_readSort_160 rfl ?_
                      refine z_zret rfl (by omega) (by decide) rfl (Nat.sub_self _) dX2_readSort_161 ?_
                      first
                      | (refine Or.inl ⟨rfl, by rw [hC]; exact hs10, _, by rw [hC]; exact hop10.1, ?_⟩
                         rw [hst2, hst1, hC]
                         simp only [effR, if_true, Nat.reduceAdd]
                         rw [g0, g1, g2, g3, g4, g5])
                      | (have hz10 : e10.1.1 ≠ 0 := by
                           rcases hop10.2 with h | h
                           · exfalso; omega
                           · exact h.2
                         have hC : clS (tx M0) (M0 17 1) s = e10 := by
                           unfold clS
                           rw [← he1, ← he2, ← he3, ← he4, ← he5, ← he6, ← he7, ← he8, ← he9, ← he10]
                         exact Or.inr ⟨rfl, by rw [hC]; exact hz10, by rw [hC]; exact hop10.1⟩)
                      | (have hz9 : e9.1.1 ≠ 0 := by
                           rcases hop9.2 with h | h
                           · exfalso; omega
                           · exact h.2
                         have hC : clS (tx M0) (M0 17 1) s = e9 := by
                           unfold clS
                           rw [← he1, ← he2, ← he3, ← he4, ← he5, ← he6, ← he7, ← he8, ← he9, opE_f hz9]
                         exact Or.inr ⟨rfl, by rw [hC]; exact hz9, by rw [hC]; exact hop9.1⟩)
                      | (have hz8 : e8.1.1 ≠ 0 := by
                           rcases hop8.2 with h | h
                           · exfalso; omega
                           · exact h.2
                         have hC : clS (tx M0) (M0 17 1) s = e8 := by
                           unfold clS
                           rw [← he1, ← he2, ← he3, ← he4, ← he5, ← he6, ← he7, ← he8, opT_f hz8, opE_f hz8]
                         exact Or.inr ⟨rfl, by rw [hC]; exact hz8, by rw [hC]; exact hop8.1⟩)
                      | (have hz7 : e7.1.1 ≠ 0 := by
                           rcases hop7.2 with h | h
                           · exfalso; omega
                           · exact h.2
                         have hC : clS (tx M0) (M0 17 1) s = e7 := by
                           unfold clS
                           rw [← he1, ← he2, ← he3, ← he4, ← he5, ← he6, ← he7, opW_f hz7, opT_f hz7, opE_f hz7]
                         exact Or.inr ⟨rfl, by rw [hC]; exact hz7, by rw [hC]; exact hop7.1⟩)
                      | (have hz6 : e6.1.1 ≠ 0 := by
                           rcases hop6.2 with h | h
                           · exfalso; omega
                           · exact h.2
                         have hC : clS (tx M0) (M0 17 1) s = e6 := by
                           unfold clS
                           rw [← he1, ← he2, ← he3, ← he4, ← he5, ← he6, opN_f hz6, opW_f hz6, opT_f hz6, opE_f hz6]
                         exact Or.inr ⟨rfl, by rw [hC]; exact hz6, by rw [hC]; exact hop6.1⟩)
                      | (have hz5 : e5.1.1 ≠ 0 := by
                           rcases hop5.2 with h | h
                           · exfalso; omega
                           · exact h.2
                         have hC : clS (tx M0) (M0 17 1) s = e5 := by
                           unfold clS
                           rw [← he1, ← he2, ← he3, ← he4, ← he5, opW_f hz5, opN_f hz5, opW_f hz5, opT_f hz5, opE_f hz5]
                         exact Or.inr ⟨rfl, by rw [hC]; exact hz5, by rw [hC]; exact hop5.1⟩)
                      | (have hz4 : e4.1.1 ≠ 0 := by
                           rcases hop4.2 with h | h
                           · exfalso; omega
                           · exact h.2
                         have hC : clS (tx M0) (M0 17 1) s = e4 := by
                           unfold clS
                           rw [← he1, ← he2, ← he3, ← he4, opT_f hz4, opW_f hz4, opN_f hz4, opW_f hz4, opT_f hz4, opE_f hz4]
                         exact Or.inr ⟨rfl, by rw [hC]; exact hz4, by rw [hC]; exact hop4.1⟩)
                      | (have hz3 : e3.1.1 ≠ 0 := by
                           rcases hop3.2 with h | h
                           · exfalso; omega
                           · exact h.2
                         have hC : clS (tx M0) (M0 17 1) s = e3 := by
                           unfold clS
                           rw [← he1, ← he2, ← he3, opW_f hz3, opT_f hz3, opW_f hz3, opN_f hz3, opW_f hz3, opT_f hz3, opE_f hz3]
                         exact Or.inr ⟨rfl, by rw [hC]; exact hz3, by rw [hC]; exact hop3.1⟩)
                      | (have hz2 : e2.1.1 ≠ 0 := by
                           rcases hop2.2 with h | h
                           · exfalso; omega
                           · exact h.2
                         have hC : clS (tx M0) (M0 17 1) s = e2 := by
                           unfold clS
                           rw [← he1, ← he2, opN_f hz2, opW_f hz2, opT_f hz2, opW_f hz2, opN_f hz2, opW_f hz2, opT_f hz2, opE_f hz2]
                         exact Or.inr ⟨rfl, by rw [hC]; exact hz2, by rw [hC]; exact hop2.1⟩)
                      | (have hz1 : e1.1.1 ≠ 0 := by
                           rcases hop1.2 with h | h
                           · exfalso; omega
                           · exact h.2
                         have hC : clS (tx M0) (M0 17 1) s = e1 := by
                           unfold clS
                           rw [← he1, opW_f hz1, opN_f hz1, opW_f hz1, opT_f hz1, opW_f hz1, opN_f hz1, opW_f hz1, opT_f hz1, opE_f hz1]
                         exact Or.inr ⟨rfl, by rw [hC]; exact hz1, by rw [hC]; exact hop1.1⟩)
                    · exfalso; omega
                  · have hs9 : e9.1.1 = 0 := by
                      rcases hop9.2 with h | h
                      · exact h.2
                      · exfalso; omega
                    have hv9 := opN_v (t := tx M0) (n := M0 17 1) (sg := 1) (lo := e8.2.2 (e8.2.1 - 1)) (hi := 9999) (s := e8) ok8 (by rw [show opN (tx M0) (M0 17 1) 1 (e8.2.2 (e8.2.1 - 1)) 9999 e8 = e9 from he9.symm]; exact hs9)
                    rw [show opN (tx M0) (M0 17 1) 1 (e8.2.2 (e8.2.1 - 1)) 9999 e8 = e9 from he9.symm] at hv9
                    have hc9 : e9.2.1 = 5 := by omega
                    refine z_aload_nr dX2_readSort_99 rfl ?_
                    refine z_callVi (n2 := 93) (A_X2_readEnd l g Mz27 _ (e9) (hop9.1) (hs9) (ok9) (hn)) cb_X2_readEnd cl_X2_108 (clr0 rfl rfl (by decide) (by decide)) rfl (by decide) ⟨_, rfl, rfl⟩ rfl (by decide) rfl (Nat.le_of_ble_eq_true rfl) rfl dX2_readSort_100 (fun x30 Mz30 bx30 kMz30 hc30 => ?_)
                    have hop10 := hc30
                    obtain ⟨e10, he10⟩ : ∃ z, z = opE (tx M0) (M0 17 1) e9 := ⟨_, rfl⟩
                    rw [← he10] at hop10
                    have ok10 : SOk (M0 17 1) e10 := by rw [he10]; exact opE_ok ok9
                    refine z_if_eq (tgt := 110) dX2_readSort_103 (by decide) (fun c31 => ?_) (fun c31 => ?_)
                    · refine z_iconst dX2_readSort_110 ⟨by decide, by decide⟩ ?_
                      refine z_istore_n (loc2 := [fr 17, fr 51, fi 0]) dX2_readSort_111 (by decide) rfl ?_
                      refine z_iload_n dX2_readSort_112 rfl ?_
                      refine z_if_eq (tgt := 160) dX2_readSort_113 (by decide) (fun c32 => ?_) (fun c32 => ?_)
                      · refine z_iload_n dX2_readSort_160 rfl ?_
                        refine z_zret rfl (by omega) (by decide) rfl (Nat.sub_self _) dX2_readSort_161 ?_
                        first
                        | (refine Or.inl ⟨rfl, by rw [hC]; exact hs10, _, by rw [hC]; exact hop10.1, ?_⟩
                           rw [hst2, hst1, hC]
                           simp only [effR, if_true, Nat.reduceAdd]
                           rw [g0, g1, g2, g3, g4, g5])
                        | (have hz10 : e10.1.1 ≠ 0 := by
                             rcases hop10.2 with h | h
                             · exfalso; omega
                             · exact h.2
                           have hC : clS (tx M0) (M0 17 1) s = e10 := by
                             unfold clS
                             rw [← he1, ← he2, ← he3, ← he4, ← he5, ← he6, ← he7, ← he8, ← he9, ← he10]
                           exact Or.inr ⟨rfl, by rw [hC]; exact hz10, by rw [hC]; exact hop10.1⟩)
                        | (have hz9 : e9.1.1 ≠ 0 := by
                             rcases hop9.2 with h | h
                             · exfalso; omega
                             · exact h.2
                           have hC : clS (tx M0) (M0 17 1) s = e9 := by
                             unfold clS
                             rw [← he1, ← he2, ← he3, ← he4, ← he5, ← he6, ← he7, ← he8, ← he9, opE_f hz9]
                           exact Or.inr ⟨rfl, by rw [hC]; exact hz9, by rw [hC]; exact hop9.1⟩)
                        | (have hz8 : e8.1.1 ≠ 0 := by
                             rcases hop8.2 with h | h
                             · exfalso; omega
                             · exact h.2
                           have hC : clS (tx M0) (M0 17 1) s = e8 := by
                             unfold clS
                             rw [← he1, ← he2, ← he3, ← he4, ← he5, ← he6, ← he7, ← he8, opT_f hz8, opE_f hz8]
                           exact Or.inr ⟨rfl, by rw [hC]; exact hz8, by rw [hC]; exact hop8.1⟩)
                        | (have hz7 : e7.1.1 ≠ 0 := by
                             rcases hop7.2 with h | h
                             · exfalso; omega
                             · exact h.2
                           have hC : clS (tx M0) (M0 17 1) s = e7 := by
                             unfold clS
                             rw [← he1, ← he2, ← he3, ← he4, ← he5, ← he6, ← he7, opW_f hz7, opT_f hz7, opE_f hz7]
                           exact Or.inr ⟨rfl, by rw [hC]; exact hz7, by rw [hC]; exact hop7.1⟩)
                        | (have hz6 : e6.1.1 ≠ 0 := by
                             rcases hop6.2 with h | h
                             · exfalso; omega
                             · exact h.2
                           have hC : clS (tx M0) (M0 17 1) s = e6 := by
                             unfold clS
                             rw [← he1, ← he2, ← he3, ← he4, ← he5, ← he6, opN_f hz6, opW_f hz6, opT_f hz6, opE_f hz6]
                           exact Or.inr ⟨rfl, by rw [hC]; exact hz6, by rw [hC]; exact hop6.1⟩)
                        | (have hz5 : e5.1.1 ≠ 0 := by
                             rcases hop5.2 with h | h
                             · exfalso; omega
                             · exact h.2
                           have hC : clS (tx M0) (M0 17 1) s = e5 := by
                             unfold clS
                             rw [← he1, ← he2, ← he3, ← he4, ← he5, opW_f hz5, opN_f hz5, opW_f hz5, opT_f hz5, opE_f hz5]
                           exact Or.inr ⟨rfl, by rw [hC]; exact hz5, by rw [hC]; exact hop5.1⟩)
                        | (have hz4 : e4.1.1 ≠ 0 := by
                             rcases hop4.2 with h | h
                             · exfalso; omega
                             · exact h.2
                           have hC : clS (tx M0) (M0 17 1) s = e4 := by
                             unfold clS
                             rw [← he1, ← he2, ← he3, ← he4, opT_f hz4, opW_f hz4, opN_f hz4, opW_f hz4, opT_f hz4, opE_f hz4]
                           exact Or.inr ⟨rfl, by rw [hC]; exact hz4, by rw [hC]; exact hop4.1⟩)
                        | (have hz3 : e3.1.1 ≠ 0 := by
                             rcases hop3.2 with h | h
                             · exfalso; omega
                             · exact h.2
                           have hC : clS (tx M0) (M0 17 1) s = e3 := by
                             unfold clS
                             rw [← he1, ← he2, ← he3, opW_f hz3, opT_f hz3, opW_f hz3, opN_f hz3, opW_f hz3, opT_f hz3, opE_f hz3]
                           exact Or.inr ⟨rfl, by rw [hC]; exact hz3, by rw [hC]; exact hop3.1⟩)
                        | (have hz2 : e2.1.1 ≠ 0 := by
                             rcases hop2.2 with h | h
                             · exfalso; omega
                             · exact h.2
                           have hC : clS (tx M0) (M0 17 1) s = e2 := by
                             unfold clS
                             rw [← he1, ← he2, opN_f hz2, opW_f hz2, opT_f hz2, opW_f hz2, opN_f hz2, opW_f hz2, opT_f hz2, opE_f hz2]
                           exact Or.inr ⟨rfl, by rw [hC]; exact hz2, by rw [hC]; exact hop2.1⟩)
                        | (have hz1 : e1.1.1 ≠ 0 := by
                             rcases hop1.2 with h | h
                             · exfalso; omega
                             · exact h.2
                           have hC : clS (tx M0) (M0 17 1) s = e1 := by
                             unfold clS
                             rw [← he1, opW_f hz1, opN_f hz1, opW_f hz1, opT_f hz1, opW_f hz1, opN_f hz1, opW_f hz1, opT_f hz1, opE_f hz1]
                           exact Or.inr ⟨rfl, by rw [hC]; exact hz1, by rw [hC]; exact hop1.1⟩)
                      · exfalso; omega
                    · have hs10 : e10.1.1 = 0 := by
                        rcases hop10.2 with h | h
                        · exact h.2
                        · exfalso; omega
                      have hc10 : e10.2.1 = 5 := by rw [he10, (opE_v (t := tx M0) (n := M0 17 1)).1]; omega
                      have hC : clS (tx M0) (M0 17 1) s = e10 := by unfold clS; rw [← he1, ← he2, ← he3, ← he4, ← he5, ← he6, ← he7, ← he8, ← he9, ← he10]
                      have hcv := clS_v (t := tx M0) hS hz (by rw [hC]; exact hs10)
                      rw [hC] at hcv
                      have hnu := (hop10.1.2.1 hs10).2.2.2.2
                      rw [hc10] at hnu
                      have hn0 := hnu 0 (by decide) (by decide)
                      have hn1 := hnu 1 (by decide) (by decide)
                      have hn2 := hnu 2 (by decide) (by decide)
                      have hn3 := hnu 3 (by decide) (by decide)
                      have hn4 := hnu 4 (by decide) (by decide)
                      refine z_iconst dX2_readSort_106 ⟨by decide, by decide⟩ ?_
                      refine z_goto (tgt := 111) dX2_readSort_107 (by decide) ?_
                      refine z_istore_n (loc2 := [fr 17, fr 51, fi 1]) dX2_readSort_111 (by decide) rfl ?_
                      refine z_iload_n dX2_readSort_112 rfl ?_
                      refine z_if_eq (tgt := 160) dX2_readSort_113 (by decide) (fun c33 => ?_) (fun c33 => ?_)
                      · exfalso; omega
                      · refine z_aload_nr dX2_readSort_116 rfl ?_
                        refine z_aload_nr dX2_readSort_117 rfl ?_
                        refine z_getr (b := 19) fl_X2_28 rfl (by decide) rf_17_5 rfl dX2_readSort_118 ?_
                        refine z_iconst dX2_readSort_121 ⟨by decide, by decide⟩ ?_
                        refine z_iald rfl (by decide) (by omega) (by omega) dX2_readSort_122 (fun x34 hx34 bx34 => ?_)
                        have g0 := hx34
                        rw [hn0] at g0
                        refine z_aload_nr dX2_readSort_123 rfl ?_
                        refine z_getr (b := 19) fl_X2_28 rfl (by decide) rf_17_5 rfl dX2_readSort_124 ?_
                        refine z_iconst dX2_readSort_127 ⟨by decide, by decide⟩ ?_
                        refine z_iald rfl (by decide) (by omega) (by omega) dX2_readSort_128 (fun x35 hx35 bx35 => ?_)
                        have g1 := hx35
                        rw [hn1] at g1
                        refine z_aload_nr dX2_readSort_129 rfl ?_
                        refine z_getr (b := 19) fl_X2_28 rfl (by decide) rf_17_5 rfl dX2_readSort_130 ?_
                        refine z_iconst dX2_readSort_133 ⟨by decide, by decide⟩ ?_
                        refine z_iald rfl (by decide) (by omega) (by omega) dX2_readSort_134 (fun x36 hx36 bx36 => ?_)
                        have g2 := hx36
                        rw [hn2] at g2
                        refine z_callVv (n2 := 93) (A_X3_setTime51 l g Mz30 x34 x35 x36 (by omega)) cb_X3_setTime cl_X2_112 (clr0 rfl rfl (by decide) (by decide)) rfl (by decide) ⟨_, rfl, rfl⟩ rfl (by decide) rfl (Nat.le_of_ble_eq_true rfl) rfl dX2_readSort_135 (fun Mz37 kMz37 hc37 => ?_)
                        have hst1 := hc37
                        refine z_aload_nr dX2_readSort_138 rfl ?_
                        refine z_aload_nr dX2_readSort_139 rfl ?_
                        refine z_getr (b := 19) fl_X2_28 rfl (by decide) rf_17_5 rfl dX2_readSort_140 ?_
                        refine z_iconst dX2_readSort_143 ⟨by decide, by decide⟩ ?_
                        refine z_iald rfl (by decide) (by omega) (by omega) dX2_readSort_144 (fun x38 hx38 bx38 => ?_)
                        have g3 := hx38
                        rw [hst1, st_cell (by decide), st_cell (by decide), hn0] at g3
                        refine z_aload_nr dX2_readSort_145 rfl ?_
                        refine z_getr (b := 19) fl_X2_28 rfl (by decide) rf_17_5 rfl dX2_readSort_146 ?_
                        refine z_iconst dX2_readSort_149 ⟨by decide, by decide⟩ ?_
                        refine z_iald rfl (by decide) (by omega) (by omega) dX2_readSort_150 (fun x39 hx39 bx39 => ?_)
                        have g4 := hx39
                        rw [hst1, st_cell (by decide), st_cell (by decide), hn3] at g4
                        refine z_aload_nr dX2_readSort_151 rfl ?_
                        refine z_getr (b := 19) fl_X2_28 rfl (by decide) rf_17_5 rfl dX2_readSort_152 ?_
                        refine z_iconst dX2_readSort_155 ⟨by decide, by decide⟩ ?_
                        refine z_iald rfl (by decide) (by omega) (by omega) dX2_readSort_156 (fun x40 hx40 bx40 => ?_)
                        have g5 := hx40
                        rw [hst1, st_cell (by decide), st_cell (by decide), hn4] at g5
                        refine z_callVv (n2 := 93) (A_X3_setColour51 l g Mz37 x38 x39 x40 (by omega)) cb_X3_setColour cl_X2_116 (clr0 rfl rfl (by decide) (by decide)) rfl (by decide) ⟨_, rfl, rfl⟩ rfl (by decide) rfl (Nat.le_of_ble_eq_true rfl) rfl dX2_readSort_157 (fun Mz41 kMz41 hc41 => ?_)
                        have hst2 := hc41
                        refine z_iload_n dX2_readSort_160 rfl ?_
                        refine z_zret rfl (by omega) (by decide) rfl (Nat.sub_self _) dX2_readSort_161 ?_
                        first
                        | (refine Or.inl ⟨rfl, by rw [hC]; exact hs10, _, by rw [hC]; exact hop10.1, ?_⟩
                           rw [hst2, hst1, hC]
                           simp only [effR, if_true, Nat.reduceAdd]
                           rw [g0, g1, g2, g3, g4, g5])
                        | (have hz10 : e10.1.1 ≠ 0 := by
                             rcases hop10.2 with h | h
                             · exfalso; omega
                             · exact h.2
                           have hC : clS (tx M0) (M0 17 1) s = e10 := by
                             unfold clS
                             rw [← he1, ← he2, ← he3, ← he4, ← he5, ← he6, ← he7, ← he8, ← he9, ← he10]
                           exact Or.inr ⟨rfl, by rw [hC]; exact hz10, by rw [hC]; exact hop10.1⟩)
                        | (have hz9 : e9.1.1 ≠ 0 := by
                             rcases hop9.2 with h | h
                             · exfalso; omega
                             · exact h.2
                           have hC : clS (tx M0) (M0 17 1) s = e9 := by
                             unfold clS
                             rw [← he1, ← he2, ← he3, ← he4, ← he5, ← he6, ← he7, ← he8, ← he9, opE_f hz9]
                           exact Or.inr ⟨rfl, by rw [hC]; exact hz9, by rw [hC]; exact hop9.1⟩)
                        | (have hz8 : e8.1.1 ≠ 0 := by
                             rcases hop8.2 with h | h
                             · exfalso; omega
                             · exact h.2
                           have hC : clS (tx M0) (M0 17 1) s = e8 := by
                             unfold clS
                             rw [← he1, ← he2, ← he3, ← he4, ← he5, ← he6, ← he7, ← he8, opT_f hz8, opE_f hz8]
                           exact Or.inr ⟨rfl, by rw [hC]; exact hz8, by rw [hC]; exact hop8.1⟩)
                        | (have hz7 : e7.1.1 ≠ 0 := by
                             rcases hop7.2 with h | h
                             · exfalso; omega
                             · exact h.2
                           have hC : clS (tx M0) (M0 17 1) s = e7 := by
                             unfold clS
                             rw [← he1, ← he2, ← he3, ← he4, ← he5, ← he6, ← he7, opW_f hz7, opT_f hz7, opE_f hz7]
                           exact Or.inr ⟨rfl, by rw [hC]; exact hz7, by rw [hC]; exact hop7.1⟩)
                        | (have hz6 : e6.1.1 ≠ 0 := by
                             rcases hop6.2 with h | h
                             · exfalso; omega
                             · exact h.2
                           have hC : clS (tx M0) (M0 17 1) s = e6 := by
                             unfold clS
                             rw [← he1, ← he2, ← he3, ← he4, ← he5, ← he6, opN_f hz6, opW_f hz6, opT_f hz6, opE_f hz6]
                           exact Or.inr ⟨rfl, by rw [hC]; exact hz6, by rw [hC]; exact hop6.1⟩)
                        | (have hz5 : e5.1.1 ≠ 0 := by
                             rcases hop5.2 with h | h
                             · exfalso; omega
                             · exact h.2
                           have hC : clS (tx M0) (M0 17 1) s = e5 := by
                             unfold clS
                             rw [← he1, ← he2, ← he3, ← he4, ← he5, opW_f hz5, opN_f hz5, opW_f hz5, opT_f hz5, opE_f hz5]
                           exact Or.inr ⟨rfl, by rw [hC]; exact hz5, by rw [hC]; exact hop5.1⟩)
                        | (have hz4 : e4.1.1 ≠ 0 := by
                             rcases hop4.2 with h | h
                             · exfalso; omega
                             · exact h.2
                           have hC : clS (tx M0) (M0 17 1) s = e4 := by
                             unfold clS
                             rw [← he1, ← he2, ← he3, ← he4, opT_f hz4, opW_f hz4, opN_f hz4, opW_f hz4, opT_f hz4, opE_f hz4]
                           exact Or.inr ⟨rfl, by rw [hC]; exact hz4, by rw [hC]; exact hop4.1⟩)
                        | (have hz3 : e3.1.1 ≠ 0 := by
                             rcases hop3.2 with h | h
                             · exfalso; omega
                             · exact h.2
                           have hC : clS (tx M0) (M0 17 1) s = e3 := by
                             unfold clS
                             rw [← he1, ← he2, ← he3, opW_f hz3, opT_f hz3, opW_f hz3, opN_f hz3, opW_f hz3, opT_f hz3, opE_f hz3]
                           exact Or.inr ⟨rfl, by rw [hC]; exact hz3, by rw [hC]; exact hop3.1⟩)
                        | (have hz2 : e2.1.1 ≠ 0 := by
                             rcases hop2.2 with h | h
                             · exfalso; omega
                             · exact h.2
                           have hC : clS (tx M0) (M0 17 1) s = e2 := by
                             unfold clS
                             rw [← he1, ← he2, opN_f hz2, opW_f hz2, opT_f hz2, opW_f hz2, opN_f hz2, opW_f hz2, opT_f hz2, opE_f hz2]
                           exact Or.inr ⟨rfl, by rw [hC]; exact hz2, by rw [hC]; exact hop2.1⟩)
                        | (have hz1 : e1.1.1 ≠ 0 := by
                             rcases hop1.2 with h | h
                             · exfalso; omega
                             · exact h.2
                           have hC : clS (tx M0) (M0 17 1) s = e1 := by
                             unfold clS
                             rw [← he1, opW_f hz1, opN_f hz1, opW_f hz1, opT_f hz1, opW_f hz1, opN_f hz1, opW_f hz1, opT_f hz1, opE_f hz1]
                           exact Or.inr ⟨rfl, by rw [hC]; exact hz1, by rw [hC]; exact hop1.1⟩)
set_option maxHeartbeats 1600000 in
theorem A_X2_readDust51 (l : Launch) (g : Cx) (M : FMem) (M0 : FMem) (s : PS) (hR : Rs M0 s M) (hf : s.1.1 = 0) (hS : SOk (M0 17 1) s) (hn : M0 17 1 ≤ 240) (hz : s.2.1 = 0) : AMi l g true fi_X2_readDust [fr 17, fr 51] 93 M (fun q M2 => (q = 1 ∧ (clD (tx M0) (M0 17 1) s).1.1 = 0 ∧ ∃ M1, Rs M0 (clD (tx M0) (M0 17 1) s) M1 ∧ M2 = effR 51 1 (clD (tx M0) (M0 17 1) s).2.2 0 M1) ∨ (q = 0 ∧ (clD (tx M0) (M0 17 1) s).1.1 ≠ 0 ∧ Rs M0 (clD (tx M0) (M0 17 1) s) M2)) := by
  refine AMi_intro [fr 17, fr 51, fu] (by decide) (knall rfl) (Nat.le_of_ble_eq_true rfl) rfl ?_
  intro hNV hM0 μ
  have hR1 := hR.2.1 hf
  have hof := offR_tx hR.1
  have hsp := hS hf
  have hsb := sk_b (t := tx M0) hsp.1 hsp.2
  refine z_aload_nr dX2_readDust_0 rfl ?_
  refine z_iconst dX2_readDust_1 ⟨by decide, by decide⟩ ?_
  refine z_bipush dX2_readDust_2 ⟨by decide, by decide⟩ (by decide) ?_
  refine z_callVi (n2 := 93) (A_X2_readNumber l g M 0 99 _ (s) (hR) (hf) (hS) (hn) (by omega)) cb_X2_readNumber cl_X2_92 (clr0 rfl rfl (by decide) (by decide)) rfl (by decide) ⟨_, rfl, rfl⟩ rfl (by decide) rfl (Nat.le_of_ble_eq_true rfl) rfl dX2_readDust_4 (fun x1 Mz1 bx1 kMz1 hc1 => ?_)
  have hop1 := hc1
  obtain ⟨e1, he1⟩ : ∃ z, z = opN (tx M0) (M0 17 1) 0 0 99 s := ⟨_, rfl⟩
  rw [← he1] at hop1
  have ok1 : SOk (M0 17 1) e1 := by rw [he1]; exact opN_ok hS
  refine z_if_eq (tgt := 43) dX2_readDust_7 (by decide) (fun c2 => ?_) (fun c2 => ?_)
  · refine z_iconst dX2_readDust_43 ⟨by decide, by decide⟩ ?_
    refine z_istore_n (loc2 := [fr 17, fr 51, fi 0]) dX2_readDust_44 (by decide) rfl ?_
    refine z_iload_n dX2_readDust_45 rfl ?_
    refine z_if_eq (tgt := 69) dX2_readDust_46 (by decide) (fun c3 => ?_) (fun c3 => ?_)
    · refine z_iload_n dX2_readDust_69 rfl ?_
      refine z_zret rfl (by omega) (by decide) rfl (Nat.sub_self _) dX2_readDust_70 ?_
      first
      | (refine Or.inl ⟨rfl, by rw [hC]; exact hs4, _, by rw [hC]; exact hop4.1, ?_⟩
         rw [hNONE, hC, g0, g1]
         rfl)
      | (have hz4 : e4.1.1 ≠ 0 := by
           rcases hop4.2 with h | h
           · exfalso; omega
           · exact h.2
         have hC : clD (tx M0) (M0 17 1) s = e4 := by
           unfold clD
           rw [← he1, ← he2, ← he3, ← he4]
         exact Or.inr ⟨rfl, by rw [hC]; exact hz4, by rw [hC]; exact hop4.1⟩)
      | (have hz3 : e3.1.1 ≠ 0 := by
           rcases hop3.2 with h | h
           · exfalso; omega
           · exact h.2
         have hC : clD (tx M0) (M0 17 1) s = e3 := by
           unfold clD
           rw [← he1, ← he2, ← he3, opE_f hz3]
         exact Or.inr ⟨rfl, by rw [hC]; exact hz3, by rw [hC]; exact hop3.1⟩)
      | (have hz2 : e2.1.1 ≠ 0 := by
           rcases hop2.2 with h | h
           · exfalso; omega
           · exact h.2
         have hC : clD (tx M0) (M0 17 1) s = e2 := by
           unfold clD
           rw [← he1, ← he2, opT_f hz2, opE_f hz2]
         exact Or.inr ⟨rfl, by rw [hC]; exact hz2, by rw [hC]; exact hop2.1⟩)
      | (have hz1 : e1.1.1 ≠ 0 := by
           rcases hop1.2 with h | h
           · exfalso; omega
           · exact h.2
         have hC : clD (tx M0) (M0 17 1) s = e1 := by
           unfold clD
           rw [← he1, opW_f hz1, opT_f hz1, opE_f hz1]
         exact Or.inr ⟨rfl, by rw [hC]; exact hz1, by rw [hC]; exact hop1.1⟩)
    · exfalso; omega
  · have hs1 : e1.1.1 = 0 := by
      rcases hop1.2 with h | h
      · exact h.2
      · exfalso; omega
    have hv1 := opN_v (t := tx M0) (n := M0 17 1) (sg := 0) (lo := 0) (hi := 99) (s := s) hS (by rw [← he1]; exact hs1)
    rw [← he1] at hv1
    have hc1 : e1.2.1 = 1 := by omega
    refine z_aload_nr dX2_readDust_10 rfl ?_
    refine z_ldcs (j := 6) rfl (by decide) dX2_readDust_11 ?_
    refine z_callVi (n2 := 93) (A_X2_readWord l g Mz1 6 (by decide) _ (e1) (hop1.1) (hs1) (ok1) (hn)) cb_X2_readWord cl_X2_86 (clr0 rfl rfl (by decide) (by decide)) rfl (by decide) ⟨_, rfl, rfl⟩ rfl (by decide) rfl (Nat.le_of_ble_eq_true rfl) rfl dX2_readDust_13 (fun x4 Mz4 bx4 kMz4 hc4 => ?_)
    have hop2 := hc4
    obtain ⟨e2, he2⟩ : ∃ z, z = opW (tx M0) (M0 17 1) 6 e1 := ⟨_, rfl⟩
    rw [← he2] at hop2
    have ok2 : SOk (M0 17 1) e2 := by rw [he2]; exact opW_ok (by decide) ok1
    refine z_if_eq (tgt := 43) dX2_readDust_16 (by decide) (fun c5 => ?_) (fun c5 => ?_)
    · refine z_iconst dX2_readDust_43 ⟨by decide, by decide⟩ ?_
      refine z_istore_n (loc2 := [fr 17, fr 51, fi 0]) dX2_readDust_44 (by decide) rfl ?_
      refine z_iload_n dX2_readDust_45 rfl ?_
      refine z_if_eq (tgt := 69) dX2_readDust_46 (by decide) (fun c6 => ?_) (fun c6 => ?_)
      · refine z_iload_n dX2_readDust_69 rfl ?_
        refine z_zret rfl (by omega) (by decide) rfl (Nat.sub_self _) dX2_readDust_70 ?_
        first
        | (refine Or.inl ⟨rfl, by rw [hC]; exact hs4, _, by rw [hC]; exact hop4.1, ?_⟩
           rw [hNONE, hC, g0, g1]
           rfl)
        | (have hz4 : e4.1.1 ≠ 0 := by
             rcases hop4.2 with h | h
             · exfalso; omega
             · exact h.2
           have hC : clD (tx M0) (M0 17 1) s = e4 := by
             unfold clD
             rw [← he1, ← he2, ← he3, ← he4]
           exact Or.inr ⟨rfl, by rw [hC]; exact hz4, by rw [hC]; exact hop4.1⟩)
        | (have hz3 : e3.1.1 ≠ 0 := by
             rcases hop3.2 with h | h
             · exfalso; omega
             · exact h.2
           have hC : clD (tx M0) (M0 17 1) s = e3 := by
             unfold clD
             rw [← he1, ← he2, ← he3, opE_f hz3]
           exact Or.inr ⟨rfl, by rw [hC]; exact hz3, by rw [hC]; exact hop3.1⟩)
        | (have hz2 : e2.1.1 ≠ 0 := by
             rcases hop2.2 with h | h
             · exfalso; omega
             · exact h.2
           have hC : clD (tx M0) (M0 17 1) s = e2 := by
             unfold clD
             rw [← he1, ← he2, opT_f hz2, opE_f hz2]
           exact Or.inr ⟨rfl, by rw [hC]; exact hz2, by rw [hC]; exact hop2.1⟩)
        | (have hz1 : e1.1.1 ≠ 0 := by
             rcases hop1.2 with h | h
             · exfalso; omega
             · exact h.2
           have hC : clD (tx M0) (M0 17 1) s = e1 := by
             unfold clD
             rw [← he1, opW_f hz1, opT_f hz1, opE_f hz1]
           exact Or.inr ⟨rfl, by rw [hC]; exact hz1, by rw [hC]; exact hop1.1⟩)
      · exfalso; omega
    · have hs2 : e2.1.1 = 0 := by
        rcases hop2.2 with h | h
        · exact h.2
        · exfalso; omega
      have hc2 : e2.2.1 = 1 := by rw [he2, (opW_v (t := tx M0) (n := M0 17 1)).1]; omega
      refine z_aload_nr dX2_readDust_19 rfl ?_
      refine z_aload_nr dX2_readDust_20 rfl ?_
      refine z_callVip (n2 := 93) (A_X2_latest l g Mz4 (by have hq := (hop2.1.2.1 hs2).2.2.2.1; omega)) cb_X2_latest cl_X2_102 (clr0 rfl rfl (by decide) (by decide)) rfl (by decide) ⟨_, rfl, rfl⟩ rfl (by decide) rfl (Nat.le_of_ble_eq_true rfl) rfl dX2_readDust_21 (fun x7 bx7 hx7 => ?_)
      have hl3 : x7 = e2.2.2 (e2.2.1 - 1) := by rw [hx7, (hop2.1.2.1 hs2).2.2.2.1]; exact (hop2.1.2.1 hs2).2.2.2.2 _ (by omega) (by omega)
      refine z_bipush dX2_readDust_24 ⟨by decide, by decide⟩ (by decide) ?_
      refine z_callVi (n2 := 93) (A_X2_readNumber l g Mz4 x7 99 _ (e2) (hop2.1) (hs2) (ok2) (hn) (by omega)) cb_X2_readNumber cl_X2_92 (clr0 rfl rfl (by decide) (by decide)) rfl (by decide) ⟨_, rfl, rfl⟩ rfl (by decide) rfl (Nat.le_of_ble_eq_true rfl) rfl dX2_readDust_26 (fun x8 Mz8 bx8 kMz8 hc8 => ?_)
      have hop3 := hc8
      rw [hl3] at hop3
      obtain ⟨e3, he3⟩ : ∃ z, z = opT (tx M0) (M0 17 1) 0 99 e2 := ⟨_, rfl⟩
      rw [show opN (tx M0) (M0 17 1) 0 (e2.2.2 (e2.2.1 - 1)) 99 e2 = e3 from he3.symm] at hop3
      have ok3 : SOk (M0 17 1) e3 := by rw [he3]; exact opT_ok ok2
      refine z_if_eq (tgt := 43) dX2_readDust_29 (by decide) (fun c9 => ?_) (fun c9 => ?_)
      · refine z_iconst dX2_readDust_43 ⟨by decide, by decide⟩ ?_
        refine z_istore_n (loc2 := [fr 17, fr 51, fi 0]) dX2_readDust_44 (by decide) rfl ?_
        refine z_iload_n dX2_readDust_45 rfl ?_
        refine z_if_eq (tgt := 69) dX2_readDust_46 (by decide) (fun c10 => ?_) (fun c10 => ?_)
        · refine z_iload_n dX2_readDust_69 rfl ?_
          refine z_zret rfl (by omega) (by decide) rfl (Nat.sub_self _) dX2_readDust_70 ?_
          first
          | (refine Or.inl ⟨rfl, by rw [hC]; exact hs4, _, by rw [hC]; exact hop4.1, ?_⟩
             rw [hNONE, hC, g0, g1]
             rfl)
          | (have hz4 : e4.1.1 ≠ 0 := by
               rcases hop4.2 with h | h
               · exfalso; omega
               · exact h.2
             have hC : clD (tx M0) (M0 17 1) s = e4 := by
               unfold clD
               rw [← he1, ← he2, ← he3, ← he4]
             exact Or.inr ⟨rfl, by rw [hC]; exact hz4, by rw [hC]; exact hop4.1⟩)
          | (have hz3 : e3.1.1 ≠ 0 := by
               rcases hop3.2 with h | h
               · exfalso; omega
               · exact h.2
             have hC : clD (tx M0) (M0 17 1) s = e3 := by
               unfold clD
               rw [← he1, ← he2, ← he3, opE_f hz3]
             exact Or.inr ⟨rfl, by rw [hC]; exact hz3, by rw [hC]; exact hop3.1⟩)
          | (have hz2 : e2.1.1 ≠ 0 := by
               rcases hop2.2 with h | h
               · exfalso; omega
               · exact h.2
             have hC : clD (tx M0) (M0 17 1) s = e2 := by
               unfold clD
               rw [← he1, ← he2, opT_f hz2, opE_f hz2]
             exact Or.inr ⟨rfl, by rw [hC]; exact hz2, by rw [hC]; exact hop2.1⟩)
          | (have hz1 : e1.1.1 ≠ 0 := by
               rcases hop1.2 with h | h
               · exfalso; omega
               · exact h.2
             have hC : clD (tx M0) (M0 17 1) s = e1 := by
               unfold clD
               rw [← he1, opW_f hz1, opT_f hz1, opE_f hz1]
             exact Or.inr ⟨rfl, by rw [hC]; exact hz1, by rw [hC]; exact hop1.1⟩)
        · exfalso; omega
      · have hs3 : e3.1.1 = 0 := by
          rcases hop3.2 with h | h
          · exact h.2
          · exfalso; omega
        have hv3 := opN_v (t := tx M0) (n := M0 17 1) (sg := 0) (lo := e2.2.2 (e2.2.1 - 1)) (hi := 99) (s := e2) ok2 (by rw [show opN (tx M0) (M0 17 1) 0 (e2.2.2 (e2.2.1 - 1)) 99 e2 = e3 from he3.symm]; exact hs3)
        rw [show opN (tx M0) (M0 17 1) 0 (e2.2.2 (e2.2.1 - 1)) 99 e2 = e3 from he3.symm] at hv3
        have hc3 : e3.2.1 = 2 := by omega
        refine z_aload_nr dX2_readDust_32 rfl ?_
        refine z_callVi (n2 := 93) (A_X2_readEnd l g Mz8 _ (e3) (hop3.1) (hs3) (ok3) (hn)) cb_X2_readEnd cl_X2_108 (clr0 rfl rfl (by decide) (by decide)) rfl (by decide) ⟨_, rfl, rfl⟩ rfl (by decide) rfl (Nat.le_of_ble_eq_true rfl) rfl dX2_readDust_33 (fun x11 Mz11 bx11 kMz11 hc11 => ?_)
        have hop4 := hc11
        obtain ⟨e4, he4⟩ : ∃ z, z = opE (tx M0) (M0 17 1) e3 := ⟨_, rfl⟩
        rw [← he4] at hop4
        have ok4 : SOk (M0 17 1) e4 := by rw [he4]; exact opE_ok ok3
        refine z_if_eq (tgt := 43) dX2_readDust_36 (by decide) (fun c12 => ?_) (fun c12 => ?_)
        · refine z_iconst dX2_readDust_43 ⟨by decide, by decide⟩ ?_
          refine z_istore_n (loc2 := [fr 17, fr 51, fi 0]) dX2_readDust_44 (by decide) rfl ?_
          refine z_iload_n dX2_readDust_45 rfl ?_
          refine z_if_eq (tgt := 69) dX2_readDust_46 (by decide) (fun c13 => ?_) (fun c13 => ?_)
          · refine z_iload_n dX2_readDust_69 rfl ?_
            refine z_zret rfl (by omega) (by decide) rfl (Nat.sub_self _) dX2_readDust_70 ?_
            first
            | (refine Or.inl ⟨rfl, by rw [hC]; exact hs4, _, by rw [hC]; exact hop4.1, ?_⟩
               rw [hNONE, hC, g0, g1]
               rfl)
            | (have hz4 : e4.1.1 ≠ 0 := by
                 rcases hop4.2 with h | h
                 · exfalso; omega
                 · exact h.2
               have hC : clD (tx M0) (M0 17 1) s = e4 := by
                 unfold clD
                 rw [← he1, ← he2, ← he3, ← he4]
               exact Or.inr ⟨rfl, by rw [hC]; exact hz4, by rw [hC]; exact hop4.1⟩)
            | (have hz3 : e3.1.1 ≠ 0 := by
                 rcases hop3.2 with h | h
                 · exfalso; omega
                 · exact h.2
               have hC : clD (tx M0) (M0 17 1) s = e3 := by
                 unfold clD
                 rw [← he1, ← he2, ← he3, opE_f hz3]
               exact Or.inr ⟨rfl, by rw [hC]; exact hz3, by rw [hC]; exact hop3.1⟩)
            | (have hz2 : e2.1.1 ≠ 0 := by
                 rcases hop2.2 with h | h
                 · exfalso; omega
                 · exact h.2
               have hC : clD (tx M0) (M0 17 1) s = e2 := by
                 unfold clD
                 rw [← he1, ← he2, opT_f hz2, opE_f hz2]
               exact Or.inr ⟨rfl, by rw [hC]; exact hz2, by rw [hC]; exact hop2.1⟩)
            | (have hz1 : e1.1.1 ≠ 0 := by
                 rcases hop1.2 with h | h
                 · exfalso; omega
                 · exact h.2
               have hC : clD (tx M0) (M0 17 1) s = e1 := by
                 unfold clD
                 rw [← he1, opW_f hz1, opT_f hz1, opE_f hz1]
               exact Or.inr ⟨rfl, by rw [hC]; exact hz1, by rw [hC]; exact hop1.1⟩)
          · exfalso; omega
        · have hs4 : e4.1.1 = 0 := by
            rcases hop4.2 with h | h
            · exact h.2
            · exfalso; omega
          have hc4 : e4.2.1 = 2 := by rw [he4, (opE_v (t := tx M0) (n := M0 17 1)).1]; omega
          have hC : clD (tx M0) (M0 17 1) s = e4 := by unfold clD; rw [← he1, ← he2, ← he3, ← he4]
          have hcv := clD_v (t := tx M0) hS hz (by rw [hC]; exact hs4)
          rw [hC] at hcv
          have hnu := (hop4.1.2.1 hs4).2.2.2.2
          rw [hc4] at hnu
          have hn0 := hnu 0 (by decide) (by decide)
          have hn1 := hnu 1 (by decide) (by decide)
          refine z_iconst dX2_readDust_39 ⟨by decide, by decide⟩ ?_
          refine z_goto (tgt := 44) dX2_readDust_40 (by decide) ?_
          refine z_istore_n (loc2 := [fr 17, fr 51, fi 1]) dX2_readDust_44 (by decide) rfl ?_
          refine z_iload_n dX2_readDust_45 rfl ?_
          refine z_if_eq (tgt := 69) dX2_readDust_46 (by decide) (fun c14 => ?_) (fun c14 => ?_)
          · exfalso; omega
          · refine z_aload_nr dX2_readDust_49 rfl ?_
            refine z_aload_nr dX2_readDust_50 rfl ?_
            refine z_getr (b := 19) fl_X2_28 rfl (by decide) rf_17_5 rfl dX2_readDust_51 ?_
            refine z_iconst dX2_readDust_54 ⟨by decide, by decide⟩ ?_
            refine z_iald rfl (by decide) (by omega) (by omega) dX2_readDust_55 (fun x15 hx15 bx15 => ?_)
            have g0 := hx15
            rw [hn0] at g0
            refine z_puti (kz := 5) fl_X2_119 rfl (by decide) rfl nr_51_5 dX2_readDust_56 (fun Mz16 hMz16 => ?_)
            refine z_aload_nr dX2_readDust_59 rfl ?_
            refine z_aload_nr dX2_readDust_60 rfl ?_
            refine z_getr (b := 19) fl_X2_28 rfl (by decide) rf_17_5 rfl dX2_readDust_61 ?_
            refine z_iconst dX2_readDust_64 ⟨by decide, by decide⟩ ?_
            refine z_iald rfl (by decide) (by omega) (by omega) dX2_readDust_65 (fun x17 hx17 bx17 => ?_)
            rw [hMz16, st_cell (by decide)] at hx17
            have g1 := hx17
            rw [hn1] at g1
            refine z_puti (kz := 6) fl_X2_122 rfl (by decide) rfl nr_51_6 dX2_readDust_66 (fun Mz18 hMz18 => ?_)
            refine z_iload_n dX2_readDust_69 rfl ?_
            refine z_zret rfl (by omega) (by decide) rfl (Nat.sub_self _) dX2_readDust_70 ?_
            first
            | (refine Or.inl ⟨rfl, by rw [hC]; exact hs4, _, by rw [hC]; exact hop4.1, ?_⟩
               rw [hMz18, hMz16, hC, g0, g1]
               rfl)
            | (have hz4 : e4.1.1 ≠ 0 := by
                 rcases hop4.2 with h | h
                 · exfalso; omega
                 · exact h.2
               have hC : clD (tx M0) (M0 17 1) s = e4 := by
                 unfold clD
                 rw [← he1, ← he2, ← he3, ← he4]
               exact Or.inr ⟨rfl, by rw [hC]; exact hz4, by rw [hC]; exact hop4.1⟩)
            | (have hz3 : e3.1.1 ≠ 0 := by
                 rcases hop3.2 with h | h
                 · exfalso; omega
                 · exact h.2
               have hC : clD (tx M0) (M0 17 1) s = e3 := by
                 unfold clD
                 rw [← he1, ← he2, ← he3, opE_f hz3]
               exact Or.inr ⟨rfl, by rw [hC]; exact hz3, by rw [hC]; exact hop3.1⟩)
            | (have hz2 : e2.1.1 ≠ 0 := by
                 rcases hop2.2 with h | h
                 · exfalso; omega
                 · exact h.2
               have hC : clD (tx M0) (M0 17 1) s = e2 := by
                 unfold clD
                 rw [← he1, ← he2, opT_f hz2, opE_f hz2]
               exact Or.inr ⟨rfl, by rw [hC]; exact hz2, by rw [hC]; exact hop2.1⟩)
            | (have hz1 : e1.1.1 ≠ 0 := by
                 rcases hop1.2 with h | h
                 · exfalso; omega
                 · exact h.2
               have hC : clD (tx M0) (M0 17 1) s = e1 := by
                 unfold clD
                 rw [← he1, opW_f hz1, opT_f hz1, opE_f hz1]
               exact Or.inr ⟨rfl, by rw [hC]; exact hz1, by rw [hC]; exact hop1.1⟩)
set_option maxHeartbeats 1600000 in
theorem A_X2_readBlur51 (l : Launch) (g : Cx) (M : FMem) (M0 : FMem) (s : PS) (hR : Rs M0 s M) (hf : s.1.1 = 0) (hS : SOk (M0 17 1) s) (hn : M0 17 1 ≤ 240) (hz : s.2.1 = 0) : AMi l g true fi_X2_readBlur [fr 17, fr 51] 93 M (fun q M2 => (q = 1 ∧ (clB (tx M0) (M0 17 1) s).1.1 = 0 ∧ ∃ M1, Rs M0 (clB (tx M0) (M0 17 1) s) M1 ∧ M2 = effR 51 2 (clB (tx M0) (M0 17 1) s).2.2 0 M1) ∨ (q = 0 ∧ (clB (tx M0) (M0 17 1) s).1.1 ≠ 0 ∧ Rs M0 (clB (tx M0) (M0 17 1) s) M2)) := by
  refine AMi_intro [fr 17, fr 51, fu] (by decide) (knall rfl) (Nat.le_of_ble_eq_true rfl) rfl ?_
  intro hNV hM0 μ
  have hR1 := hR.2.1 hf
  have hof := offR_tx hR.1
  have hsp := hS hf
  have hsb := sk_b (t := tx M0) hsp.1 hsp.2
  refine z_aload_nr dX2_readBlur_0 rfl ?_
  refine z_iconst dX2_readBlur_1 ⟨by decide, by decide⟩ ?_
  refine z_iconst dX2_readBlur_2 ⟨by decide, by decide⟩ ?_
  refine z_callVi (n2 := 93) (A_X2_readNumber l g M 0 5 _ (s) (hR) (hf) (hS) (hn) (by omega)) cb_X2_readNumber cl_X2_92 (clr0 rfl rfl (by decide) (by decide)) rfl (by decide) ⟨_, rfl, rfl⟩ rfl (by decide) rfl (Nat.le_of_ble_eq_true rfl) rfl dX2_readBlur_3 (fun x1 Mz1 bx1 kMz1 hc1 => ?_)
  have hop1 := hc1
  obtain ⟨e1, he1⟩ : ∃ z, z = opN (tx M0) (M0 17 1) 0 0 5 s := ⟨_, rfl⟩
  rw [← he1] at hop1
  have ok1 : SOk (M0 17 1) e1 := by rw [he1]; exact opN_ok hS
  refine z_if_eq (tgt := 40) dX2_readBlur_6 (by decide) (fun c2 => ?_) (fun c2 => ?_)
  · refine z_iconst dX2_readBlur_40 ⟨by decide, by decide⟩ ?_
    refine z_istore_n (loc2 := [fr 17, fr 51, fi 0]) dX2_readBlur_41 (by decide) rfl ?_
    refine z_iload_n dX2_readBlur_42 rfl ?_
    refine z_if_eq (tgt := 63) dX2_readBlur_43 (by decide) (fun c3 => ?_) (fun c3 => ?_)
    · refine z_iload_n dX2_readBlur_63 rfl ?_
      refine z_zret rfl (by omega) (by decide) rfl (Nat.sub_self _) dX2_readBlur_64 ?_
      first
      | (refine Or.inl ⟨rfl, by rw [hC]; exact hs4, _, by rw [hC]; exact hop4.1, ?_⟩
         rw [hNONE, hC, g0, g1]
         rfl)
      | (have hz4 : e4.1.1 ≠ 0 := by
           rcases hop4.2 with h | h
           · exfalso; omega
           · exact h.2
         have hC : clB (tx M0) (M0 17 1) s = e4 := by
           unfold clB
           rw [← he1, ← he2, ← he3, ← he4]
         exact Or.inr ⟨rfl, by rw [hC]; exact hz4, by rw [hC]; exact hop4.1⟩)
      | (have hz3 : e3.1.1 ≠ 0 := by
           rcases hop3.2 with h | h
           · exfalso; omega
           · exact h.2
         have hC : clB (tx M0) (M0 17 1) s = e3 := by
           unfold clB
           rw [← he1, ← he2, ← he3, opE_f hz3]
         exact Or.inr ⟨rfl, by rw [hC]; exact hz3, by rw [hC]; exact hop3.1⟩)
      | (have hz2 : e2.1.1 ≠ 0 := by
           rcases hop2.2 with h | h
           · exfalso; omega
           · exact h.2
         have hC : clB (tx M0) (M0 17 1) s = e2 := by
           unfold clB
           rw [← he1, ← he2, opN_f hz2, opE_f hz2]
         exact Or.inr ⟨rfl, by rw [hC]; exact hz2, by rw [hC]; exact hop2.1⟩)
      | (have hz1 : e1.1.1 ≠ 0 := by
           rcases hop1.2 with h | h
           · exfalso; omega
           · exact h.2
         have hC : clB (tx M0) (M0 17 1) s = e1 := by
           unfold clB
           rw [← he1, opW_f hz1, opN_f hz1, opE_f hz1]
         exact Or.inr ⟨rfl, by rw [hC]; exact hz1, by rw [hC]; exact hop1.1⟩)
    · exfalso; omega
  · have hs1 : e1.1.1 = 0 := by
      rcases hop1.2 with h | h
      · exact h.2
      · exfalso; omega
    have hv1 := opN_v (t := tx M0) (n := M0 17 1) (sg := 0) (lo := 0) (hi := 5) (s := s) hS (by rw [← he1]; exact hs1)
    rw [← he1] at hv1
    have hc1 : e1.2.1 = 1 := by omega
    refine z_aload_nr dX2_readBlur_9 rfl ?_
    refine z_ldcs (j := 8) rfl (by decide) dX2_readBlur_10 ?_
    refine z_callVi (n2 := 93) (A_X2_readWord l g Mz1 8 (by decide) _ (e1) (hop1.1) (hs1) (ok1) (hn)) cb_X2_readWord cl_X2_86 (clr0 rfl rfl (by decide) (by decide)) rfl (by decide) ⟨_, rfl, rfl⟩ rfl (by decide) rfl (Nat.le_of_ble_eq_true rfl) rfl dX2_readBlur_12 (fun x4 Mz4 bx4 kMz4 hc4 => ?_)
    have hop2 := hc4
    obtain ⟨e2, he2⟩ : ∃ z, z = opW (tx M0) (M0 17 1) 8 e1 := ⟨_, rfl⟩
    rw [← he2] at hop2
    have ok2 : SOk (M0 17 1) e2 := by rw [he2]; exact opW_ok (by decide) ok1
    refine z_if_eq (tgt := 40) dX2_readBlur_15 (by decide) (fun c5 => ?_) (fun c5 => ?_)
    · refine z_iconst dX2_readBlur_40 ⟨by decide, by decide⟩ ?_
      refine z_istore_n (loc2 := [fr 17, fr 51, fi 0]) dX2_readBlur_41 (by decide) rfl ?_
      refine z_iload_n dX2_readBlur_42 rfl ?_
      refine z_if_eq (tgt := 63) dX2_readBlur_43 (by decide) (fun c6 => ?_) (fun c6 => ?_)
      · refine z_iload_n dX2_readBlur_63 rfl ?_
        refine z_zret rfl (by omega) (by decide) rfl (Nat.sub_self _) dX2_readBlur_64 ?_
        first
        | (refine Or.inl ⟨rfl, by rw [hC]; exact hs4, _, by rw [hC]; exact hop4.1, ?_⟩
           rw [hNONE, hC, g0, g1]
           rfl)
        | (have hz4 : e4.1.1 ≠ 0 := by
             rcases hop4.2 with h | h
             · exfalso; omega
             · exact h.2
           have hC : clB (tx M0) (M0 17 1) s = e4 := by
             unfold clB
             rw [← he1, ← he2, ← he3, ← he4]
           exact Or.inr ⟨rfl, by rw [hC]; exact hz4, by rw [hC]; exact hop4.1⟩)
        | (have hz3 : e3.1.1 ≠ 0 := by
             rcases hop3.2 with h | h
             · exfalso; omega
             · exact h.2
           have hC : clB (tx M0) (M0 17 1) s = e3 := by
             unfold clB
             rw [← he1, ← he2, ← he3, opE_f hz3]
           exact Or.inr ⟨rfl, by rw [hC]; exact hz3, by rw [hC]; exact hop3.1⟩)
        | (have hz2 : e2.1.1 ≠ 0 := by
             rcases hop2.2 with h | h
             · exfalso; omega
             · exact h.2
           have hC : clB (tx M0) (M0 17 1) s = e2 := by
             unfold clB
             rw [← he1, ← he2, opN_f hz2, opE_f hz2]
           exact Or.inr ⟨rfl, by rw [hC]; exact hz2, by rw [hC]; exact hop2.1⟩)
        | (have hz1 : e1.1.1 ≠ 0 := by
             rcases hop1.2 with h | h
             · exfalso; omega
             · exact h.2
           have hC : clB (tx M0) (M0 17 1) s = e1 := by
             unfold clB
             rw [← he1, opW_f hz1, opN_f hz1, opE_f hz1]
           exact Or.inr ⟨rfl, by rw [hC]; exact hz1, by rw [hC]; exact hop1.1⟩)
      · exfalso; omega
    · have hs2 : e2.1.1 = 0 := by
        rcases hop2.2 with h | h
        · exact h.2
        · exfalso; omega
      have hc2 : e2.2.1 = 1 := by rw [he2, (opW_v (t := tx M0) (n := M0 17 1)).1]; omega
      refine z_aload_nr dX2_readBlur_18 rfl ?_
      refine z_iconst dX2_readBlur_19 ⟨by decide, by decide⟩ ?_
      refine z_sipush dX2_readBlur_20 ⟨by decide, by decide⟩ (by decide) ?_
      refine z_callVi (n2 := 93) (A_X2_readNumber l g Mz4 0 999 _ (e2) (hop2.1) (hs2) (ok2) (hn) (by omega)) cb_X2_readNumber cl_X2_92 (clr0 rfl rfl (by decide) (by decide)) rfl (by decide) ⟨_, rfl, rfl⟩ rfl (by decide) rfl (Nat.le_of_ble_eq_true rfl) rfl dX2_readBlur_23 (fun x7 Mz7 bx7 kMz7 hc7 => ?_)
      have hop3 := hc7
      obtain ⟨e3, he3⟩ : ∃ z, z = opN (tx M0) (M0 17 1) 0 0 999 e2 := ⟨_, rfl⟩
      rw [← he3] at hop3
      have ok3 : SOk (M0 17 1) e3 := by rw [he3]; exact opN_ok ok2
      refine z_if_eq (tgt := 40) dX2_readBlur_26 (by decide) (fun c8 => ?_) (fun c8 => ?_)
      · refine z_iconst dX2_readBlur_40 ⟨by decide, by decide⟩ ?_
        refine z_istore_n (loc2 := [fr 17, fr 51, fi 0]) dX2_readBlur_41 (by decide) rfl ?_
        refine z_iload_n dX2_readBlur_42 rfl ?_
        refine z_if_eq (tgt := 63) dX2_readBlur_43 (by decide) (fun c9 => ?_) (fun c9 => ?_)
        · refine z_iload_n dX2_readBlur_63 rfl ?_
          refine z_zret rfl (by omega) (by decide) rfl (Nat.sub_self _) dX2_readBlur_64 ?_
          first
          | (refine Or.inl ⟨rfl, by rw [hC]; exact hs4, _, by rw [hC]; exact hop4.1, ?_⟩
             rw [hNONE, hC, g0, g1]
             rfl)
          | (have hz4 : e4.1.1 ≠ 0 := by
               rcases hop4.2 with h | h
               · exfalso; omega
               · exact h.2
             have hC : clB (tx M0) (M0 17 1) s = e4 := by
               unfold clB
               rw [← he1, ← he2, ← he3, ← he4]
             exact Or.inr ⟨rfl, by rw [hC]; exact hz4, by rw [hC]; exact hop4.1⟩)
          | (have hz3 : e3.1.1 ≠ 0 := by
               rcases hop3.2 with h | h
               · exfalso; omega
               · exact h.2
             have hC : clB (tx M0) (M0 17 1) s = e3 := by
               unfold clB
               rw [← he1, ← he2, ← he3, opE_f hz3]
             exact Or.inr ⟨rfl, by rw [hC]; exact hz3, by rw [hC]; exact hop3.1⟩)
          | (have hz2 : e2.1.1 ≠ 0 := by
               rcases hop2.2 with h | h
               · exfalso; omega
               · exact h.2
             have hC : clB (tx M0) (M0 17 1) s = e2 := by
               unfold clB
               rw [← he1, ← he2, opN_f hz2, opE_f hz2]
             exact Or.inr ⟨rfl, by rw [hC]; exact hz2, by rw [hC]; exact hop2.1⟩)
          | (have hz1 : e1.1.1 ≠ 0 := by
               rcases hop1.2 with h | h
               · exfalso; omega
               · exact h.2
             have hC : clB (tx M0) (M0 17 1) s = e1 := by
               unfold clB
               rw [← he1, opW_f hz1, opN_f hz1, opE_f hz1]
             exact Or.inr ⟨rfl, by rw [hC]; exact hz1, by rw [hC]; exact hop1.1⟩)
        · exfalso; omega
      · have hs3 : e3.1.1 = 0 := by
          rcases hop3.2 with h | h
          · exact h.2
          · exfalso; omega
        have hv3 := opN_v (t := tx M0) (n := M0 17 1) (sg := 0) (lo := 0) (hi := 999) (s := e2) ok2 (by rw [← he3]; exact hs3)
        rw [← he3] at hv3
        have hc3 : e3.2.1 = 2 := by omega
        refine z_aload_nr dX2_readBlur_29 rfl ?_
        refine z_callVi (n2 := 93) (A_X2_readEnd l g Mz7 _ (e3) (hop3.1) (hs3) (ok3) (hn)) cb_X2_readEnd cl_X2_108 (clr0 rfl rfl (by decide) (by decide)) rfl (by decide) ⟨_, rfl, rfl⟩ rfl (by decide) rfl (Nat.le_of_ble_eq_true rfl) rfl dX2_readBlur_30 (fun x10 Mz10 bx10 kMz10 hc10 => ?_)
        have hop4 := hc10
        obtain ⟨e4, he4⟩ : ∃ z, z = opE (tx M0) (M0 17 1) e3 := ⟨_, rfl⟩
        rw [← he4] at hop4
        have ok4 : SOk (M0 17 1) e4 := by rw [he4]; exact opE_ok ok3
        refine z_if_eq (tgt := 40) dX2_readBlur_33 (by decide) (fun c11 => ?_) (fun c11 => ?_)
        · refine z_iconst dX2_readBlur_40 ⟨by decide, by decide⟩ ?_
          refine z_istore_n (loc2 := [fr 17, fr 51, fi 0]) dX2_readBlur_41 (by decide) rfl ?_
          refine z_iload_n dX2_readBlur_42 rfl ?_
          refine z_if_eq (tgt := 63) dX2_readBlur_43 (by decide) (fun c12 => ?_) (fun c12 => ?_)
          · refine z_iload_n dX2_readBlur_63 rfl ?_
            refine z_zret rfl (by omega) (by decide) rfl (Nat.sub_self _) dX2_readBlur_64 ?_
            first
            | (refine Or.inl ⟨rfl, by rw [hC]; exact hs4, _, by rw [hC]; exact hop4.1, ?_⟩
               rw [hNONE, hC, g0, g1]
               rfl)
            | (have hz4 : e4.1.1 ≠ 0 := by
                 rcases hop4.2 with h | h
                 · exfalso; omega
                 · exact h.2
               have hC : clB (tx M0) (M0 17 1) s = e4 := by
                 unfold clB
                 rw [← he1, ← he2, ← he3, ← he4]
               exact Or.inr ⟨rfl, by rw [hC]; exact hz4, by rw [hC]; exact hop4.1⟩)
            | (have hz3 : e3.1.1 ≠ 0 := by
                 rcases hop3.2 with h | h
                 · exfalso; omega
                 · exact h.2
               have hC : clB (tx M0) (M0 17 1) s = e3 := by
                 unfold clB
                 rw [← he1, ← he2, ← he3, opE_f hz3]
               exact Or.inr ⟨rfl, by rw [hC]; exact hz3, by rw [hC]; exact hop3.1⟩)
            | (have hz2 : e2.1.1 ≠ 0 := by
                 rcases hop2.2 with h | h
                 · exfalso; omega
                 · exact h.2
               have hC : clB (tx M0) (M0 17 1) s = e2 := by
                 unfold clB
                 rw [← he1, ← he2, opN_f hz2, opE_f hz2]
               exact Or.inr ⟨rfl, by rw [hC]; exact hz2, by rw [hC]; exact hop2.1⟩)
            | (have hz1 : e1.1.1 ≠ 0 := by
                 rcases hop1.2 with h | h
                 · exfalso; omega
                 · exact h.2
               have hC : clB (tx M0) (M0 17 1) s = e1 := by
                 unfold clB
                 rw [← he1, opW_f hz1, opN_f hz1, opE_f hz1]
               exact Or.inr ⟨rfl, by rw [hC]; exact hz1, by rw [hC]; exact hop1.1⟩)
          · exfalso; omega
        · have hs4 : e4.1.1 = 0 := by
            rcases hop4.2 with h | h
            · exact h.2
            · exfalso; omega
          have hc4 : e4.2.1 = 2 := by rw [he4, (opE_v (t := tx M0) (n := M0 17 1)).1]; omega
          have hC : clB (tx M0) (M0 17 1) s = e4 := by unfold clB; rw [← he1, ← he2, ← he3, ← he4]
          have hcv := clB_v (t := tx M0) hS hz (by rw [hC]; exact hs4)
          rw [hC] at hcv
          have hnu := (hop4.1.2.1 hs4).2.2.2.2
          rw [hc4] at hnu
          have hn0 := hnu 0 (by decide) (by decide)
          have hn1 := hnu 1 (by decide) (by decide)
          refine z_iconst dX2_readBlur_36 ⟨by decide, by decide⟩ ?_
          refine z_goto (tgt := 41) dX2_readBlur_37 (by decide) ?_
          refine z_istore_n (loc2 := [fr 17, fr 51, fi 1]) dX2_readBlur_41 (by decide) rfl ?_
          refine z_iload_n dX2_readBlur_42 rfl ?_
          refine z_if_eq (tgt := 63) dX2_readBlur_43 (by decide) (fun c13 => ?_) (fun c13 => ?_)
          · exfalso; omega
          · refine z_aload_nr dX2_readBlur_46 rfl ?_
            refine z_getr (b := 56) fl_X2_127 rfl (by decide) rf_51_4 rfl dX2_readBlur_47 ?_
            refine z_aload_nr dX2_readBlur_50 rfl ?_
            refine z_getr (b := 19) fl_X2_28 rfl (by decide) rf_17_5 rfl dX2_readBlur_51 ?_
            refine z_iconst dX2_readBlur_54 ⟨by decide, by decide⟩ ?_
            refine z_iald rfl (by decide) (by omega) (by omega) dX2_readBlur_55 (fun x14 hx14 bx14 => ?_)
            have g0 := hx14
            rw [hn0] at g0
            refine z_aload_nr dX2_readBlur_56 rfl ?_
            refine z_getr (b := 19) fl_X2_28 rfl (by decide) rf_17_5 rfl dX2_readBlur_57 ?_
            refine z_iconst dX2_readBlur_60 ⟨by decide, by decide⟩ ?_
            refine z_iald rfl (by decide) (by omega) (by omega) dX2_readBlur_61 (fun x15 hx15 bx15 => ?_)
            have g1 := hx15
            rw [hn1] at g1
            refine z_iast rfl (by decide) (by omega) (by omega) dX2_readBlur_62 (fun Mz16 hMz16 => ?_)
            refine z_iload_n dX2_readBlur_63 rfl ?_
            refine z_zret rfl (by omega) (by decide) rfl (Nat.sub_self _) dX2_readBlur_64 ?_
            first
            | (refine Or.inl ⟨rfl, by rw [hC]; exact hs4, _, by rw [hC]; exact hop4.1, ?_⟩
               rw [hMz16, hC, g0, g1]
               rfl)
            | (have hz4 : e4.1.1 ≠ 0 := by
                 rcases hop4.2 with h | h
                 · exfalso; omega
                 · exact h.2
               have hC : clB (tx M0) (M0 17 1) s = e4 := by
                 unfold clB
                 rw [← he1, ← he2, ← he3, ← he4]
               exact Or.inr ⟨rfl, by rw [hC]; exact hz4, by rw [hC]; exact hop4.1⟩)
            | (have hz3 : e3.1.1 ≠ 0 := by
                 rcases hop3.2 with h | h
                 · exfalso; omega
                 · exact h.2
               have hC : clB (tx M0) (M0 17 1) s = e3 := by
                 unfold clB
                 rw [← he1, ← he2, ← he3, opE_f hz3]
               exact Or.inr ⟨rfl, by rw [hC]; exact hz3, by rw [hC]; exact hop3.1⟩)
            | (have hz2 : e2.1.1 ≠ 0 := by
                 rcases hop2.2 with h | h
                 · exfalso; omega
                 · exact h.2
               have hC : clB (tx M0) (M0 17 1) s = e2 := by
                 unfold clB
                 rw [← he1, ← he2, opN_f hz2, opE_f hz2]
               exact Or.inr ⟨rfl, by rw [hC]; exact hz2, by rw [hC]; exact hop2.1⟩)
            | (have hz1 : e1.1.1 ≠ 0 := by
                 rcases hop1.2 with h | h
                 · exfalso; omega
                 · exact h.2
               have hC : clB (tx M0) (M0 17 1) s = e1 := by
                 unfold clB
                 rw [← he1, opW_f hz1, opN_f hz1, opE_f hz1]
               exact Or.inr ⟨rfl, by rw [hC]; exact hz1, by rw [hC]; exact hop1.1⟩)
set_option maxHeartbeats 1600000 in
theorem A_X2_readOwn51 (l : Launch) (g : Cx) (M : FMem) (M0 : FMem) (s : PS) (hR : Rs M0 s M) (hf : s.1.1 = 0) (hS : SOk (M0 17 1) s) (hn : M0 17 1 ≤ 240) (hz : s.2.1 = 0) : AMi l g true fi_X2_readOwn [fr 17, fr 51] 93 M (fun q M2 => (q = 1 ∧ (clO (tx M0) (M0 17 1) s).1.1 = 0 ∧ ∃ M1, Rs M0 (clO (tx M0) (M0 17 1) s) M1 ∧ M2 = effR 51 3 (clO (tx M0) (M0 17 1) s).2.2 0 M1) ∨ (q = 0 ∧ (clO (tx M0) (M0 17 1) s).1.1 ≠ 0 ∧ Rs M0 (clO (tx M0) (M0 17 1) s) M2)) := by
  refine AMi_intro [fr 17, fr 51, fu] (by decide) (knall rfl) (Nat.le_of_ble_eq_true rfl) rfl ?_
  intro hNV hM0 μ
  have hR1 := hR.2.1 hf
  have hof := offR_tx hR.1
  have hsp := hS hf
  have hsb := sk_b (t := tx M0) hsp.1 hsp.2
  refine z_aload_nr dX2_readOwn_0 rfl ?_
  refine z_iconst dX2_readOwn_1 ⟨by decide, by decide⟩ ?_
  refine z_sipush dX2_readOwn_2 ⟨by decide, by decide⟩ (by decide) ?_
  refine z_callVi (n2 := 93) (A_X2_readNumber l g M 0 9999 _ (s) (hR) (hf) (hS) (hn) (by omega)) cb_X2_readNumber cl_X2_92 (clr0 rfl rfl (by decide) (by decide)) rfl (by decide) ⟨_, rfl, rfl⟩ rfl (by decide) rfl (Nat.le_of_ble_eq_true rfl) rfl dX2_readOwn_5 (fun x1 Mz1 bx1 kMz1 hc1 => ?_)
  have hop1 := hc1
  obtain ⟨e1, he1⟩ : ∃ z, z = opN (tx M0) (M0 17 1) 0 0 9999 s := ⟨_, rfl⟩
  rw [← he1] at hop1
  have ok1 : SOk (M0 17 1) e1 := by rw [he1]; exact opN_ok hS
  refine z_if_eq (tgt := 22) dX2_readOwn_8 (by decide) (fun c2 => ?_) (fun c2 => ?_)
  · refine z_iconst dX2_readOwn_22 ⟨by decide, by decide⟩ ?_
    refine z_istore_n (loc2 := [fr 17, fr 51, fi 0]) dX2_readOwn_23 (by decide) rfl ?_
    refine z_iload_n dX2_readOwn_24 rfl ?_
    refine z_if_eq (tgt := 38) dX2_readOwn_25 (by decide) (fun c3 => ?_) (fun c3 => ?_)
    · refine z_iload_n dX2_readOwn_38 rfl ?_
      refine z_zret rfl (by omega) (by decide) rfl (Nat.sub_self _) dX2_readOwn_39 ?_
      first
      | (refine Or.inl ⟨rfl, by rw [hC]; exact hs2, _, by rw [hC]; exact hop2.1, ?_⟩
         rw [hNONE, hC, g0]
         rfl)
      | (have hz2 : e2.1.1 ≠ 0 := by
           rcases hop2.2 with h | h
           · exfalso; omega
           · exact h.2
         have hC : clO (tx M0) (M0 17 1) s = e2 := by
           unfold clO
           rw [← he1, ← he2]
         exact Or.inr ⟨rfl, by rw [hC]; exact hz2, by rw [hC]; exact hop2.1⟩)
      | (have hz1 : e1.1.1 ≠ 0 := by
           rcases hop1.2 with h | h
           · exfalso; omega
           · exact h.2
         have hC : clO (tx M0) (M0 17 1) s = e1 := by
           unfold clO
           rw [← he1, opE_f hz1]
         exact Or.inr ⟨rfl, by rw [hC]; exact hz1, by rw [hC]; exact hop1.1⟩)
    · exfalso; omega
  · have hs1 : e1.1.1 = 0 := by
      rcases hop1.2 with h | h
      · exact h.2
      · exfalso; omega
    have hv1 := opN_v (t := tx M0) (n := M0 17 1) (sg := 0) (lo := 0) (hi := 9999) (s := s) hS (by rw [← he1]; exact hs1)
    rw [← he1] at hv1
    have hc1 : e1.2.1 = 1 := by omega
    refine z_aload_nr dX2_readOwn_11 rfl ?_
    refine z_callVi (n2 := 93) (A_X2_readEnd l g Mz1 _ (e1) (hop1.1) (hs1) (ok1) (hn)) cb_X2_readEnd cl_X2_108 (clr0 rfl rfl (by decide) (by decide)) rfl (by decide) ⟨_, rfl, rfl⟩ rfl (by decide) rfl (Nat.le_of_ble_eq_true rfl) rfl dX2_readOwn_12 (fun x4 Mz4 bx4 kMz4 hc4 => ?_)
    have hop2 := hc4
    obtain ⟨e2, he2⟩ : ∃ z, z = opE (tx M0) (M0 17 1) e1 := ⟨_, rfl⟩
    rw [← he2] at hop2
    have ok2 : SOk (M0 17 1) e2 := by rw [he2]; exact opE_ok ok1
    refine z_if_eq (tgt := 22) dX2_readOwn_15 (by decide) (fun c5 => ?_) (fun c5 => ?_)
    · refine z_iconst dX2_readOwn_22 ⟨by decide, by decide⟩ ?_
      refine z_istore_n (loc2 := [fr 17, fr 51, fi 0]) dX2_readOwn_23 (by decide) rfl ?_
      refine z_iload_n dX2_readOwn_24 rfl ?_
      refine z_if_eq (tgt := 38) dX2_readOwn_25 (by decide) (fun c6 => ?_) (fun c6 => ?_)
      · refine z_iload_n dX2_readOwn_38 rfl ?_
        refine z_zret rfl (by omega) (by decide) rfl (Nat.sub_self _) dX2_readOwn_39 ?_
        first
        | (refine Or.inl ⟨rfl, by rw [hC]; exact hs2, _, by rw [hC]; exact hop2.1, ?_⟩
           rw [hNONE, hC, g0]
           rfl)
        | (have hz2 : e2.1.1 ≠ 0 := by
             rcases hop2.2 with h | h
             · exfalso; omega
             · exact h.2
           have hC : clO (tx M0) (M0 17 1) s = e2 := by
             unfold clO
             rw [← he1, ← he2]
           exact Or.inr ⟨rfl, by rw [hC]; exact hz2, by rw [hC]; exact hop2.1⟩)
        | (have hz1 : e1.1.1 ≠ 0 := by
             rcases hop1.2 with h | h
             · exfalso; omega
             · exact h.2
           have hC : clO (tx M0) (M0 17 1) s = e1 := by
             unfold clO
             rw [← he1, opE_f hz1]
           exact Or.inr ⟨rfl, by rw [hC]; exact hz1, by rw [hC]; exact hop1.1⟩)
      · exfalso; omega
    · have hs2 : e2.1.1 = 0 := by
        rcases hop2.2 with h | h
        · exact h.2
        · exfalso; omega
      have hc2 : e2.2.1 = 1 := by rw [he2, (opE_v (t := tx M0) (n := M0 17 1)).1]; omega
      have hC : clO (tx M0) (M0 17 1) s = e2 := by unfold clO; rw [← he1, ← he2]
      have hcv := clO_v (t := tx M0) hS hz (by rw [hC]; exact hs2)
      rw [hC] at hcv
      have hnu := (hop2.1.2.1 hs2).2.2.2.2
      rw [hc2] at hnu
      have hn0 := hnu 0 (by decide) (by decide)
      refine z_iconst dX2_readOwn_18 ⟨by decide, by decide⟩ ?_
      refine z_goto (tgt := 23) dX2_readOwn_19 (by decide) ?_
      refine z_istore_n (loc2 := [fr 17, fr 51, fi 1]) dX2_readOwn_23 (by decide) rfl ?_
      refine z_iload_n dX2_readOwn_24 rfl ?_
      refine z_if_eq (tgt := 38) dX2_readOwn_25 (by decide) (fun c7 => ?_) (fun c7 => ?_)
      · exfalso; omega
      · refine z_aload_nr dX2_readOwn_28 rfl ?_
        refine z_aload_nr dX2_readOwn_29 rfl ?_
        refine z_getr (b := 19) fl_X2_28 rfl (by decide) rf_17_5 rfl dX2_readOwn_30 ?_
        refine z_iconst dX2_readOwn_33 ⟨by decide, by decide⟩ ?_
        refine z_iald rfl (by decide) (by omega) (by omega) dX2_readOwn_34 (fun x8 hx8 bx8 => ?_)
        have g0 := hx8
        rw [hn0] at g0
        refine z_puti (kz := 7) fl_X2_129 rfl (by decide) rfl nr_51_7 dX2_readOwn_35 (fun Mz9 hMz9 => ?_)
        refine z_iload_n dX2_readOwn_38 rfl ?_
        refine z_zret rfl (by omega) (by decide) rfl (Nat.sub_self _) dX2_readOwn_39 ?_
        first
        | (refine Or.inl ⟨rfl, by rw [hC]; exact hs2, _, by rw [hC]; exact hop2.1, ?_⟩
           rw [hMz9, hC, g0]
           rfl)
        | (have hz2 : e2.1.1 ≠ 0 := by
             rcases hop2.2 with h | h
             · exfalso; omega
             · exact h.2
           have hC : clO (tx M0) (M0 17 1) s = e2 := by
             unfold clO
             rw [← he1, ← he2]
           exact Or.inr ⟨rfl, by rw [hC]; exact hz2, by rw [hC]; exact hop2.1⟩)
        | (have hz1 : e1.1.1 ≠ 0 := by
             rcases hop1.2 with h | h
             · exfalso; omega
             · exact h.2
           have hC : clO (tx M0) (M0 17 1) s = e1 := by
             unfold clO
             rw [← he1, opE_f hz1]
           exact Or.inr ⟨rfl, by rw [hC]; exact hz1, by rw [hC]; exact hop1.1⟩)
