/-! ===== the reader: claims ===== -/
theorem abv_01 {t : Int → Int} {n : Int} {s : PS} : abv t n s = 0 ∨ abv t n s = 1 := by
  have := c01_r (isW t n (sk t n s.1.2.2) 9)
  unfold abv
  omega
set_option maxHeartbeats 1600000 in
theorem A_X2_readClaim42 (l : Launch) (g : Cx) (M : FMem) (M0 : FMem) (s : PS) (hR : Rs M0 s M) (hf : s.1.1 = 0) (hS : SOk (M0 17 1) s) (hn : M0 17 1 ≤ 240) (hz : s.2.1 = 0) (hcl : 0 ≤ M0 42 11 ∧ M0 42 11 < 8) : AMi l g true fi_X2_readClaim [fr 17, fr 42] 93 M (fun q M2 => (q = 1 ∧ (clC (tx M0) (M0 17 1) s).1.1 = 0 ∧ ∃ M1, Rs M0 (clC (tx M0) (M0 17 1) s) M1 ∧ M2 = effR 42 4 (clC (tx M0) (M0 17 1) s).2.2 (abv (tx M0) (M0 17 1) (opN (tx M0) (M0 17 1) 0 0 9 s)) M1) ∨ (q = 0 ∧ (clC (tx M0) (M0 17 1) s).1.1 ≠ 0 ∧ Rs M0 (clC (tx M0) (M0 17 1) s) M2)) := by
  refine AMi_intro [fr 17, fr 42, fu, fu] (by decide) (knall rfl) (Nat.le_of_ble_eq_true rfl) rfl ?_
  intro hNV hM0 μ
  have hR1 := hR.2.1 hf
  have hof := offR_tx hR.1
  have hsp := hS hf
  have hsb := sk_b (t := tx M0) hsp.1 hsp.2
  refine z_aload_nr dX2_readClaim_0 rfl ?_
  refine z_iconst dX2_readClaim_1 ⟨by decide, by decide⟩ ?_
  refine z_bipush dX2_readClaim_2 ⟨by decide, by decide⟩ (by decide) ?_
  refine z_callVi (n2 := 93) (A_X2_readNumber l g M 0 9 _ (s) (hR) (hf) (hS) (hn) (by omega)) cb_X2_readNumber cl_X2_92 (clr0 rfl rfl (by decide) (by decide)) rfl (by decide) ⟨_, rfl, rfl⟩ rfl (by decide) rfl (Nat.le_of_ble_eq_true rfl) rfl dX2_readClaim_4 (fun x1 Mz1 bx1 kMz1 hc1 => ?_)
  have hop1 := hc1
  obtain ⟨e1, he1⟩ : ∃ z, z = opN (tx M0) (M0 17 1) 0 0 9 s := ⟨_, rfl⟩
  rw [← he1] at hop1
  have ok1 : SOk (M0 17 1) e1 := by rw [he1]; exact opN_ok hS
  refine z_if_ne (tgt := 12) dX2_readClaim_7 (by decide) (fun c2 => ?_) (fun c2 => ?_)
  · have hs1 : e1.1.1 = 0 := by
      rcases hop1.2 with h | h
      · exact h.2
      · exfalso; omega
    have hv1 := opN_v (t := tx M0) (n := M0 17 1) (sg := 0) (lo := 0) (hi := 9) (s := s) hS (by rw [← he1]; exact hs1)
    rw [← he1] at hv1
    have hof1 := offR_tx hop1.1.1
    have hR2 := hop1.1.2.1 hs1
    have hsp1 := ok1 hs1
    have hsb1 := sk_b (t := tx M0) hsp1.1 hsp1.2
    refine z_aload_nr dX2_readClaim_12 rfl ?_
    refine z_callVv (n2 := 93) (A_X2_skipBlanks l g Mz1 (by omega) (by omega)) cb_X2_skipBlanks cl_X2_39 (clr0 rfl rfl (by decide) (by decide)) rfl (by decide) ⟨_, rfl, rfl⟩ rfl (by decide) rfl (Nat.le_of_ble_eq_true rfl) rfl dX2_readClaim_13 (fun Mz3 kMz3 hc3 => ?_)
    have hMs := hc3
    rw [hof1.1, hof1.2, hR2.1] at hMs
    have eat : Mz3 17 4 = (sk (tx M0) (M0 17 1) e1.1.2.2) := by rw [hMs]; exact st_same _ _ _ _
    have eln : Mz3 17 1 = M0 17 1 := by rw [hMs, st_at, if_neg (by decide)]; exact hof1.2
    have etf : tx Mz3 = tx M0 := funext fun i => by show Mz3 18 i = _; rw [hMs, st_cell (by decide)]; exact congrFun hof1.1 i
    have hRs : Rs M0 ((0, 0, (sk (tx M0) (M0 17 1) e1.1.2.2)), e1.2) Mz3 := by rw [hMs]; exact Rs_at hop1.1 hs1 rfl
    have hse : opW (tx M0) (M0 17 1) 10 ((0, 0, (sk (tx M0) (M0 17 1) e1.1.2.2)), e1.2) = opW (tx M0) (M0 17 1) 10 e1 := by
      unfold opW
      rw [if_pos rfl, if_pos hs1, sk_sk]
    have hoe : SOk (M0 17 1) ((0, 0, (sk (tx M0) (M0 17 1) e1.1.2.2)), e1.2) := fun _ => sk_b (ok1 hs1).1 (ok1 hs1).2
    refine z_aload_nr dX2_readClaim_16 rfl ?_
    refine z_ldcs (j := 9) rfl (by decide) dX2_readClaim_17 ?_
    refine z_callVi (n2 := 93) (A_X2_tookWord l g Mz3 9 (by decide) (by omega) (by omega)) cb_X2_tookWord cl_X2_71 (clr0 rfl rfl (by decide) (by decide)) rfl (by decide) ⟨_, rfl, rfl⟩ rfl (by decide) rfl (Nat.le_of_ble_eq_true rfl) rfl dX2_readClaim_19 (fun x4 Mz4 bx4 kMz4 hc4 => ?_)
    have htk := hc4
    rw [etf, eln, eat] at htk
    refine z_istore_n (loc2 := [fr 17, fr 42, fi x4, fu]) dX2_readClaim_22 (by decide) rfl ?_
    refine z_iload_n dX2_readClaim_23 rfl ?_
    refine z_if_ne (tgt := 36) dX2_readClaim_24 (by decide) (fun c5 => ?_) (fun c5 => ?_)
    · obtain ⟨e2, he2⟩ : ∃ z, z = opA (tx M0) (M0 17 1) e1 := ⟨_, rfl⟩
      have hop2 : Rs M0 e2 Mz4 ∧ e2.1.1 = 0 ∧ x4 = abv (tx M0) (M0 17 1) e1 := by
        rcases htk with ⟨a, b, c⟩ | ⟨a, b, c⟩
        · first
          | (exfalso; omega)
          | (have hA : e2 = ((0, 0, (sk (tx M0) (M0 17 1) e1.1.2.2) + wl 9), e1.2) := by
               rw [he2]
               unfold opA
               rw [if_pos ⟨hs1, b⟩]
               unfold opW
               rw [if_pos hs1, if_pos b]
             exact ⟨by rw [c, hMs, st_st]; exact Rs_at hop1.1 hs1 hA, by rw [hA], by unfold abv; rw [c01_t b]; exact a⟩)
        · first
          | (exfalso; omega)
          | (have hA : e2 = opW (tx M0) (M0 17 1) 10 e1 := by
               rw [he2]
               unfold opA
               rw [if_neg (fun z => b z.2)]
             rw [hA]
             refine ⟨hrw.1, ?_, by unfold abv; rw [c01_f b]; exact a⟩
             rcases hrw.2 with h | h
             · exact h.2
             · exfalso; omega)
      have hs2 := hop2.2.1
      have ok2 : SOk (M0 17 1) e2 := by rw [he2]; exact opA_ok ok1
      have hc2 : e2.2.1 = 1 := by rw [he2, (opA_v (t := tx M0) (n := M0 17 1)).1]; omega
      refine z_aload_nr dX2_readClaim_36 rfl ?_
      refine z_ldc (c := -40000) cn_X2_135 ⟨by decide, by decide⟩ dX2_readClaim_37 ?_
      refine z_ldc (c := 40000) cn_X2_136 ⟨by decide, by decide⟩ dX2_readClaim_39 ?_
      refine z_callVi (n2 := 93) (A_X2_readSigned l g Mz4 (-40000) 40000 _ (e2) (hop2.1) (hs2) (ok2) (hn) (by omega)) cb_X2_readSigned cl_X2_97 (clr0 rfl rfl (by decide) (by decide)) rfl (by decide) ⟨_, rfl, rfl⟩ rfl (by decide) rfl (Nat.le_of_ble_eq_true rfl) rfl dX2_readClaim_41 (fun x6 Mz6 bx6 kMz6 hc6 => ?_)
      have hop3 := hc6
      obtain ⟨e3, he3⟩ : ∃ z, z = opN (tx M0) (M0 17 1) 1 (-40000) 40000 e2 := ⟨_, rfl⟩
      rw [← he3] at hop3
      have ok3 : SOk (M0 17 1) e3 := by rw [he3]; exact opN_ok ok2
      refine z_if_eq (tgt := 58) dX2_readClaim_44 (by decide) (fun c7 => ?_) (fun c7 => ?_)
      · refine z_iconst dX2_readClaim_58 ⟨by decide, by decide⟩ ?_
        refine z_istore_n (loc2 := [fr 17, fr 42, fi x4, fi 0]) dX2_readClaim_59 (by decide) rfl ?_
        refine z_iload_n dX2_readClaim_60 rfl ?_
        refine z_if_eq (tgt := 81) dX2_readClaim_61 (by decide) (fun c8 => ?_) (fun c8 => ?_)
        · refine z_iload_n dX2_readClaim_81 rfl ?_
          refine z_zret rfl (by omega) (by decide) rfl (Nat.sub_self _) dX2_readClaim_82 ?_
          first
          | (refine Or.inl ⟨rfl, by rw [hC]; exact hs4, _, by rw [hC]; exact hop4.1, ?_⟩
             rw [had, hC, g0, g1, hop2.2.2, he1]
             rfl)
          | (have hz4 : e4.1.1 ≠ 0 := by
               rcases hop4.2 with h | h
               · exfalso; omega
               · exact h.2
             have hC : clC (tx M0) (M0 17 1) s = e4 := by
               unfold clC
               rw [← he1, ← he2, ← he3, ← he4]
             exact Or.inr ⟨rfl, by rw [hC]; exact hz4, by rw [hC]; exact hop4.1⟩)
          | (have hz3 : e3.1.1 ≠ 0 := by
               rcases hop3.2 with h | h
               · exfalso; omega
               · exact h.2
             have hC : clC (tx M0) (M0 17 1) s = e3 := by
               unfold clC
               rw [← he1, ← he2, ← he3, opE_f hz3]
             exact Or.inr ⟨rfl, by rw [hC]; exact hz3, by rw [hC]; exact hop3.1⟩)
          | (have hz2 : (opW (tx M0) (M0 17 1) 10 e1).1.1 ≠ 0 := by
               rcases hrw.2 with h | h
               · exfalso; omega
               · exact h.2
             have hA : opA (tx M0) (M0 17 1) e1 = opW (tx M0) (M0 17 1) 10 e1 := by
               unfold opA
               rw [if_neg]
               intro z
               rcases htk with ⟨a, b, c⟩ | ⟨a, b, c⟩
               · omega
               · exact b z.2
             have hC : clC (tx M0) (M0 17 1) s = opW (tx M0) (M0 17 1) 10 e1 := by
               unfold clC
               rw [← he1, hA, opN_f hz2, opE_f hz2]
             exact Or.inr ⟨rfl, by rw [hC]; exact hz2, by rw [hC]; exact hrw.1⟩)
        · exfalso; omega
      · have hs3 : e3.1.1 = 0 := by
          rcases hop3.2 with h | h
          · exact h.2
          · exfalso; omega
        refine z_aload_nr dX2_readClaim_47 rfl ?_
        refine z_callVi (n2 := 93) (A_X2_readEnd l g Mz6 _ (e3) (hop3.1) (hs3) (ok3) (hn)) cb_X2_readEnd cl_X2_108 (clr0 rfl rfl (by decide) (by decide)) rfl (by decide) ⟨_, rfl, rfl⟩ rfl (by decide) rfl (Nat.le_of_ble_eq_true rfl) rfl dX2_readClaim_48 (fun x9 Mz9 bx9 kMz9 hc9 => ?_)
        have hop4 := hc9
        obtain ⟨e4, he4⟩ : ∃ z, z = opE (tx M0) (M0 17 1) e3 := ⟨_, rfl⟩
        rw [← he4] at hop4
        refine z_if_eq (tgt := 58) dX2_readClaim_51 (by decide) (fun c10 => ?_) (fun c10 => ?_)
        · refine z_iconst dX2_readClaim_58 ⟨by decide, by decide⟩ ?_
          refine z_istore_n (loc2 := [fr 17, fr 42, fi x4, fi 0]) dX2_readClaim_59 (by decide) rfl ?_
          refine z_iload_n dX2_readClaim_60 rfl ?_
          refine z_if_eq (tgt := 81) dX2_readClaim_61 (by decide) (fun c11 => ?_) (fun c11 => ?_)
          · refine z_iload_n dX2_readClaim_81 rfl ?_
            refine z_zret rfl (by omega) (by decide) rfl (Nat.sub_self _) dX2_readClaim_82 ?_
            first
            | (refine Or.inl ⟨rfl, by rw [hC]; exact hs4, _, by rw [hC]; exact hop4.1, ?_⟩
               rw [had, hC, g0, g1, hop2.2.2, he1]
               rfl)
            | (have hz4 : e4.1.1 ≠ 0 := by
                 rcases hop4.2 with h | h
                 · exfalso; omega
                 · exact h.2
               have hC : clC (tx M0) (M0 17 1) s = e4 := by
                 unfold clC
                 rw [← he1, ← he2, ← he3, ← he4]
               exact Or.inr ⟨rfl, by rw [hC]; exact hz4, by rw [hC]; exact hop4.1⟩)
            | (have hz3 : e3.1.1 ≠ 0 := by
                 rcases hop3.2 with h | h
                 · exfalso; omega
                 · exact h.2
               have hC : clC (tx M0) (M0 17 1) s = e3 := by
                 unfold clC
                 rw [← he1, ← he2, ← he3, opE_f hz3]
               exact Or.inr ⟨rfl, by rw [hC]; exact hz3, by rw [hC]; exact hop3.1⟩)
            | (have hz2 : (opW (tx M0) (M0 17 1) 10 e1).1.1 ≠ 0 := by
                 rcases hrw.2 with h | h
                 · exfalso; omega
                 · exact h.2
               have hA : opA (tx M0) (M0 17 1) e1 = opW (tx M0) (M0 17 1) 10 e1 := by
                 unfold opA
                 rw [if_neg]
                 intro z
                 rcases htk with ⟨a, b, c⟩ | ⟨a, b, c⟩
                 · omega
                 · exact b z.2
               have hC : clC (tx M0) (M0 17 1) s = opW (tx M0) (M0 17 1) 10 e1 := by
                 unfold clC
                 rw [← he1, hA, opN_f hz2, opE_f hz2]
               exact Or.inr ⟨rfl, by rw [hC]; exact hz2, by rw [hC]; exact hrw.1⟩)
          · exfalso; omega
        · have hs4 : e4.1.1 = 0 := by
            rcases hop4.2 with h | h
            · exact h.2
            · exfalso; omega
          have hC : clC (tx M0) (M0 17 1) s = e4 := by unfold clC; rw [← he1, ← he2, ← he3, ← he4]
          have hcv := clC_v (t := tx M0) hS hz (by rw [hC]; exact hs4)
          rw [hC] at hcv
          have hnu := (hop4.1.2.1 hs4).2.2.2.2
          rw [hcv.2.1] at hnu
          have hn0 := hnu 0 (by decide) (by decide)
          have hn1 := hnu 1 (by decide) (by decide)
          have hcl4 : Mz9 42 11 = M0 42 11 := hop4.1.1 42 11 (by omega) (by decide)
          have hab := abv_01 (t := tx M0) (n := M0 17 1) (s := e1)
          refine z_iconst dX2_readClaim_54 ⟨by decide, by decide⟩ ?_
          refine z_goto (tgt := 59) dX2_readClaim_55 (by decide) ?_
          refine z_istore_n (loc2 := [fr 17, fr 42, fi x4, fi 1]) dX2_readClaim_59 (by decide) rfl ?_
          refine z_iload_n dX2_readClaim_60 rfl ?_
          refine z_if_eq (tgt := 81) dX2_readClaim_61 (by decide) (fun c12 => ?_) (fun c12 => ?_)
          · exfalso; omega
          · refine z_aload_nr dX2_readClaim_64 rfl ?_
            refine z_aload_nr dX2_readClaim_65 rfl ?_
            refine z_getr (b := 19) fl_X2_28 rfl (by decide) rf_17_5 rfl dX2_readClaim_66 ?_
            refine z_iconst dX2_readClaim_69 ⟨by decide, by decide⟩ ?_
            refine z_iald rfl (by decide) (by omega) (by omega) dX2_readClaim_70 (fun x13 hx13 bx13 => ?_)
            have g0 := hx13
            rw [hn0] at g0
            refine z_iload_n dX2_readClaim_71 rfl ?_
            refine z_aload_nr dX2_readClaim_72 rfl ?_
            refine z_getr (b := 19) fl_X2_28 rfl (by decide) rf_17_5 rfl dX2_readClaim_73 ?_
            refine z_iconst dX2_readClaim_76 ⟨by decide, by decide⟩ ?_
            refine z_iald rfl (by decide) (by omega) (by omega) dX2_readClaim_77 (fun x14 hx14 bx14 => ?_)
            have g1 := hx14
            rw [hn1] at g1
            refine z_callVv (n2 := 93) (A_X3_addClaim42 l g Mz9 x13 x4 x14 (by omega) (by omega)) cb_X3_addClaim cl_X2_137 (clr0 rfl rfl (by decide) (by decide)) rfl (by decide) ⟨_, rfl, rfl⟩ rfl (by decide) rfl (Nat.le_of_ble_eq_true rfl) rfl dX2_readClaim_78 (fun Mz15 kMz15 hc15 => ?_)
            have had := hc15
            refine z_iload_n dX2_readClaim_81 rfl ?_
            refine z_zret rfl (by omega) (by decide) rfl (Nat.sub_self _) dX2_readClaim_82 ?_
            first
            | (refine Or.inl ⟨rfl, by rw [hC]; exact hs4, _, by rw [hC]; exact hop4.1, ?_⟩
               rw [had, hC, g0, g1, hop2.2.2, he1]
               rfl)
            | (have hz4 : e4.1.1 ≠ 0 := by
                 rcases hop4.2 with h | h
                 · exfalso; omega
                 · exact h.2
               have hC : clC (tx M0) (M0 17 1) s = e4 := by
                 unfold clC
                 rw [← he1, ← he2, ← he3, ← he4]
               exact Or.inr ⟨rfl, by rw [hC]; exact hz4, by rw [hC]; exact hop4.1⟩)
            | (have hz3 : e3.1.1 ≠ 0 := by
                 rcases hop3.2 with h | h
                 · exfalso; omega
                 · exact h.2
               have hC : clC (tx M0) (M0 17 1) s = e3 := by
                 unfold clC
                 rw [← he1, ← he2, ← he3, opE_f hz3]
               exact Or.inr ⟨rfl, by rw [hC]; exact hz3, by rw [hC]; exact hop3.1⟩)
            | (have hz2 : (opW (tx M0) (M0 17 1) 10 e1).1.1 ≠ 0 := by
                 rcases hrw.2 with h | h
                 · exfalso; omega
                 · exact h.2
               have hA : opA (tx M0) (M0 17 1) e1 = opW (tx M0) (M0 17 1) 10 e1 := by
                 unfold opA
                 rw [if_neg]
                 intro z
                 rcases htk with ⟨a, b, c⟩ | ⟨a, b, c⟩
                 · omega
                 · exact b z.2
               have hC : clC (tx M0) (M0 17 1) s = opW (tx M0) (M0 17 1) 10 e1 := by
                 unfold clC
                 rw [← he1, hA, opN_f hz2, opE_f hz2]
               exact Or.inr ⟨rfl, by rw [hC]; exact hz2, by rw [hC]; exact hrw.1⟩)
    · refine z_aload_nr dX2_readClaim_27 rfl ?_
      refine z_ldcs (j := 10) rfl (by decide) dX2_readClaim_28 ?_
      have hRb : Rs M0 ((0, 0, (sk (tx M0) (M0 17 1) e1.1.2.2)), e1.2) Mz4 := by
        rcases htk with ⟨a, b, c⟩ | ⟨a, b, c⟩
        · exfalso; omega
        · rw [c]; exact hRs
      refine z_callVi (n2 := 93) (A_X2_readWord l g Mz4 10 (by decide) _ (((0, 0, (sk (tx M0) (M0 17 1) e1.1.2.2)), e1.2)) (hRb) (rfl) (hoe) (hn)) cb_X2_readWord cl_X2_86 (clr0 rfl rfl (by decide) (by decide)) rfl (by decide) ⟨_, rfl, rfl⟩ rfl (by decide) rfl (Nat.le_of_ble_eq_true rfl) rfl dX2_readClaim_30 (fun x16 Mz16 bx16 kMz16 hc16 => ?_)
      have hrw := hc16
      rw [hse] at hrw
      refine z_if_eq (tgt := 58) dX2_readClaim_33 (by decide) (fun c17 => ?_) (fun c17 => ?_)
      · refine z_iconst dX2_readClaim_58 ⟨by decide, by decide⟩ ?_
        refine z_istore_n (loc2 := [fr 17, fr 42, fi x4, fi 0]) dX2_readClaim_59 (by decide) rfl ?_
        refine z_iload_n dX2_readClaim_60 rfl ?_
        refine z_if_eq (tgt := 81) dX2_readClaim_61 (by decide) (fun c18 => ?_) (fun c18 => ?_)
        · refine z_iload_n dX2_readClaim_81 rfl ?_
          refine z_zret rfl (by omega) (by decide) rfl (Nat.sub_self _) dX2_readClaim_82 ?_
          first
          | (refine Or.inl ⟨rfl, by rw [hC]; exact hs4, _, by rw [hC]; exact hop4.1, ?_⟩
             rw [had, hC, g0, g1, hop2.2.2, he1]
             rfl)
          | (have hz4 : e4.1.1 ≠ 0 := by
               rcases hop4.2 with h | h
               · exfalso; omega
               · exact h.2
             have hC : clC (tx M0) (M0 17 1) s = e4 := by
               unfold clC
               rw [← he1, ← he2, ← he3, ← he4]
             exact Or.inr ⟨rfl, by rw [hC]; exact hz4, by rw [hC]; exact hop4.1⟩)
          | (have hz3 : e3.1.1 ≠ 0 := by
               rcases hop3.2 with h | h
               · exfalso; omega
               · exact h.2
             have hC : clC (tx M0) (M0 17 1) s = e3 := by
               unfold clC
               rw [← he1, ← he2, ← he3, opE_f hz3]
             exact Or.inr ⟨rfl, by rw [hC]; exact hz3, by rw [hC]; exact hop3.1⟩)
          | (have hz2 : (opW (tx M0) (M0 17 1) 10 e1).1.1 ≠ 0 := by
               rcases hrw.2 with h | h
               · exfalso; omega
               · exact h.2
             have hA : opA (tx M0) (M0 17 1) e1 = opW (tx M0) (M0 17 1) 10 e1 := by
               unfold opA
               rw [if_neg]
               intro z
               rcases htk with ⟨a, b, c⟩ | ⟨a, b, c⟩
               · omega
               · exact b z.2
             have hC : clC (tx M0) (M0 17 1) s = opW (tx M0) (M0 17 1) 10 e1 := by
               unfold clC
               rw [← he1, hA, opN_f hz2, opE_f hz2]
             exact Or.inr ⟨rfl, by rw [hC]; exact hz2, by rw [hC]; exact hrw.1⟩)
        · exfalso; omega
      · obtain ⟨e2, he2⟩ : ∃ z, z = opA (tx M0) (M0 17 1) e1 := ⟨_, rfl⟩
        have hop2 : Rs M0 e2 Mz16 ∧ e2.1.1 = 0 ∧ x4 = abv (tx M0) (M0 17 1) e1 := by
          rcases htk with ⟨a, b, c⟩ | ⟨a, b, c⟩
          · first
            | (exfalso; omega)
            | (have hA : e2 = ((0, 0, (sk (tx M0) (M0 17 1) e1.1.2.2) + wl 9), e1.2) := by
                 rw [he2]
                 unfold opA
                 rw [if_pos ⟨hs1, b⟩]
                 unfold opW
                 rw [if_pos hs1, if_pos b]
               exact ⟨by rw [c, hMs, st_st]; exact Rs_at hop1.1 hs1 hA, by rw [hA], by unfold abv; rw [c01_t b]; exact a⟩)
          · first
            | (exfalso; omega)
            | (have hA : e2 = opW (tx M0) (M0 17 1) 10 e1 := by
                 rw [he2]
                 unfold opA
                 rw [if_neg (fun z => b z.2)]
               rw [hA]
               refine ⟨hrw.1, ?_, by unfold abv; rw [c01_f b]; exact a⟩
               rcases hrw.2 with h | h
               · exact h.2
               · exfalso; omega)
        have hs2 := hop2.2.1
        have ok2 : SOk (M0 17 1) e2 := by rw [he2]; exact opA_ok ok1
        have hc2 : e2.2.1 = 1 := by rw [he2, (opA_v (t := tx M0) (n := M0 17 1)).1]; omega
        refine z_aload_nr dX2_readClaim_36 rfl ?_
        refine z_ldc (c := -40000) cn_X2_135 ⟨by decide, by decide⟩ dX2_readClaim_37 ?_
        refine z_ldc (c := 40000) cn_X2_136 ⟨by decide, by decide⟩ dX2_readClaim_39 ?_
        refine z_callVi (n2 := 93) (A_X2_readSigned l g Mz16 (-40000) 40000 _ (e2) (hop2.1) (hs2) (ok2) (hn) (by omega)) cb_X2_readSigned cl_X2_97 (clr0 rfl rfl (by decide) (by decide)) rfl (by decide) ⟨_, rfl, rfl⟩ rfl (by decide) rfl (Nat.le_of_ble_eq_true rfl) rfl dX2_readClaim_41 (fun x19 Mz19 bx19 kMz19 hc19 => ?_)
        have hop3 := hc19
        obtain ⟨e3, he3⟩ : ∃ z, z = opN (tx M0) (M0 17 1) 1 (-40000) 40000 e2 := ⟨_, rfl⟩
        rw [← he3] at hop3
        have ok3 : SOk (M0 17 1) e3 := by rw [he3]; exact opN_ok ok2
        refine z_if_eq (tgt := 58) dX2_readClaim_44 (by decide) (fun c20 => ?_) (fun c20 => ?_)
        · refine z_iconst dX2_readClaim_58 ⟨by decide, by decide⟩ ?_
          refine z_istore_n (loc2 := [fr 17, fr 42, fi x4, fi 0]) dX2_readClaim_59 (by decide) rfl ?_
          refine z_iload_n dX2_readClaim_60 rfl ?_
          refine z_if_eq (tgt := 81) dX2_readClaim_61 (by decide) (fun c21 => ?_) (fun c21 => ?_)
          · refine z_iload_n dX2_readClaim_81 rfl ?_
            refine z_zret rfl (by omega) (by decide) rfl (Nat.sub_self _) dX2_readClaim_82 ?_
            first
            | (refine Or.inl ⟨rfl, by rw [hC]; exact hs4, _, by rw [hC]; exact hop4.1, ?_⟩
               rw [had, hC, g0, g1, hop2.2.2, he1]
               rfl)
            | (have hz4 : e4.1.1 ≠ 0 := by
                 rcases hop4.2 with h | h
                 · exfalso; omega
                 · exact h.2
               have hC : clC (tx M0) (M0 17 1) s = e4 := by
                 unfold clC
                 rw [← he1, ← he2, ← he3, ← he4]
               exact Or.inr ⟨rfl, by rw [hC]; exact hz4, by rw [hC]; exact hop4.1⟩)
            | (have hz3 : e3.1.1 ≠ 0 := by
                 rcases hop3.2 with h | h
                 · exfalso; omega
                 · exact h.2
               have hC : clC (tx M0) (M0 17 1) s = e3 := by
                 unfold clC
                 rw [← he1, ← he2, ← he3, opE_f hz3]
               exact Or.inr ⟨rfl, by rw [hC]; exact hz3, by rw [hC]; exact hop3.1⟩)
            | (have hz2 : (opW (tx M0) (M0 17 1) 10 e1).1.1 ≠ 0 := by
                 rcases hrw.2 with h | h
                 · exfalso; omega
                 · exact h.2
               have hA : opA (tx M0) (M0 17 1) e1 = opW (tx M0) (M0 17 1) 10 e1 := by
                 unfold opA
                 rw [if_neg]
                 intro z
                 rcases htk with ⟨a, b, c⟩ | ⟨a, b, c⟩
                 · omega
                 · exact b z.2
               have hC : clC (tx M0) (M0 17 1) s = opW (tx M0) (M0 17 1) 10 e1 := by
                 unfold clC
                 rw [← he1, hA, opN_f hz2, opE_f hz2]
               exact Or.inr ⟨rfl, by rw [hC]; exact hz2, by rw [hC]; exact hrw.1⟩)
          · exfalso; omega
        · have hs3 : e3.1.1 = 0 := by
            rcases hop3.2 with h | h
            · exact h.2
            · exfalso; omega
          refine z_aload_nr dX2_readClaim_47 rfl ?_
          refine z_callVi (n2 := 93) (A_X2_readEnd l g Mz19 _ (e3) (hop3.1) (hs3) (ok3) (hn)) cb_X2_readEnd cl_X2_108 (clr0 rfl rfl (by decide) (by decide)) rfl (by decide) ⟨_, rfl, rfl⟩ rfl (by decide) rfl (Nat.le_of_ble_eq_true rfl) rfl dX2_readClaim_48 (fun x22 Mz22 bx22 kMz22 hc22 => ?_)
          have hop4 := hc22
          obtain ⟨e4, he4⟩ : ∃ z, z = opE (tx M0) (M0 17 1) e3 := ⟨_, rfl⟩
          rw [← he4] at hop4
          refine z_if_eq (tgt := 58) dX2_readClaim_51 (by decide) (fun c23 => ?_) (fun c23 => ?_)
          · refine z_iconst dX2_readClaim_58 ⟨by decide, by decide⟩ ?_
            refine z_istore_n (loc2 := [fr 17, fr 42, fi x4, fi 0]) dX2_readClaim_59 (by decide) rfl ?_
            refine z_iload_n dX2_readClaim_60 rfl ?_
            refine z_if_eq (tgt := 81) dX2_readClaim_61 (by decide) (fun c24 => ?_) (fun c24 => ?_)
            · refine z_iload_n dX2_readClaim_81 rfl ?_
              refine z_zret rfl (by omega) (by decide) rfl (Nat.sub_self _) dX2_readClaim_82 ?_
              first
              | (refine Or.inl ⟨rfl, by rw [hC]; exact hs4, _, by rw [hC]; exact hop4.1, ?_⟩
                 rw [had, hC, g0, g1, hop2.2.2, he1]
                 rfl)
              | (have hz4 : e4.1.1 ≠ 0 := by
                   rcases hop4.2 with h | h
                   · exfalso; omega
                   · exact h.2
                 have hC : clC (tx M0) (M0 17 1) s = e4 := by
                   unfold clC
                   rw [← he1, ← he2, ← he3, ← he4]
                 exact Or.inr ⟨rfl, by rw [hC]; exact hz4, by rw [hC]; exact hop4.1⟩)
              | (have hz3 : e3.1.1 ≠ 0 := by
                   rcases hop3.2 with h | h
                   · exfalso; omega
                   · exact h.2
                 have hC : clC (tx M0) (M0 17 1) s = e3 := by
                   unfold clC
                   rw [← he1, ← he2, ← he3, opE_f hz3]
                 exact Or.inr ⟨rfl, by rw [hC]; exact hz3, by rw [hC]; exact hop3.1⟩)
              | (have hz2 : (opW (tx M0) (M0 17 1) 10 e1).1.1 ≠ 0 := by
                   rcases hrw.2 with h | h
                   · exfalso; omega
                   · exact h.2
                 have hA : opA (tx M0) (M0 17 1) e1 = opW (tx M0) (M0 17 1) 10 e1 := by
                   unfold opA
                   rw [if_neg]
                   intro z
                   rcases htk with ⟨a, b, c⟩ | ⟨a, b, c⟩
                   · omega
                   · exact b z.2
                 have hC : clC (tx M0) (M0 17 1) s = opW (tx M0) (M0 17 1) 10 e1 := by
                   unfold clC
                   rw [← he1, hA, opN_f hz2, opE_f hz2]
                 exact Or.inr ⟨rfl, by rw [hC]; exact hz2, by rw [hC]; exact hrw.1⟩)
            · exfalso; omega
          · have hs4 : e4.1.1 = 0 := by
              rcases hop4.2 with h | h
              · exact h.2
              · exfalso; omega
            have hC : clC (tx M0) (M0 17 1) s = e4 := by unfold clC; rw [← he1, ← he2, ← he3, ← he4]
            have hcv := clC_v (t := tx M0) hS hz (by rw [hC]; exact hs4)
            rw [hC] at hcv
            have hnu := (hop4.1.2.1 hs4).2.2.2.2
            rw [hcv.2.1] at hnu
            have hn0 := hnu 0 (by decide) (by decide)
            have hn1 := hnu 1 (by decide) (by decide)
            have hcl4 : Mz22 42 11 = M0 42 11 := hop4.1.1 42 11 (by omega) (by decide)
            have hab := abv_01 (t := tx M0) (n := M0 17 1) (s := e1)
            refine z_iconst dX2_readClaim_54 ⟨by decide, by decide⟩ ?_
            refine z_goto (tgt := 59) dX2_readClaim_55 (by decide) ?_
            refine z_istore_n (loc2 := [fr 17, fr 42, fi x4, fi 1]) dX2_readClaim_59 (by decide) rfl ?_
            refine z_iload_n dX2_readClaim_60 rfl ?_
            refine z_if_eq (tgt := 81) dX2_readClaim_61 (by decide) (fun c25 => ?_) (fun c25 => ?_)
            · exfalso; omega
            · refine z_aload_nr dX2_readClaim_64 rfl ?_
              refine z_aload_nr dX2_readClaim_65 rfl ?_
              refine z_getr (b := 19) fl_X2_28 rfl (by decide) rf_17_5 rfl dX2_readClaim_66 ?_
              refine z_iconst dX2_readClaim_69 ⟨by decide, by decide⟩ ?_
              refine z_iald rfl (by decide) (by omega) (by omega) dX2_readClaim_70 (fun x26 hx26 bx26 => ?_)
              have g0 := hx26
              rw [hn0] at g0
              refine z_iload_n dX2_readClaim_71 rfl ?_
              refine z_aload_nr dX2_readClaim_72 rfl ?_
              refine z_getr (b := 19) fl_X2_28 rfl (by decide) rf_17_5 rfl dX2_readClaim_73 ?_
              refine z_iconst dX2_readClaim_76 ⟨by decide, by decide⟩ ?_
              refine z_iald rfl (by decide) (by omega) (by omega) dX2_readClaim_77 (fun x27 hx27 bx27 => ?_)
              have g1 := hx27
              rw [hn1] at g1
              refine z_callVv (n2 := 93) (A_X3_addClaim42 l g Mz22 x26 x4 x27 (by omega) (by omega)) cb_X3_addClaim cl_X2_137 (clr0 rfl rfl (by decide) (by decide)) rfl (by decide) ⟨_, rfl, rfl⟩ rfl (by decide) rfl (Nat.le_of_ble_eq_true rfl) rfl dX2_readClaim_78 (fun Mz28 kMz28 hc28 => ?_)
              have had := hc28
              refine z_iload_n dX2_readClaim_81 rfl ?_
              refine z_zret rfl (by omega) (by decide) rfl (Nat.sub_self _) dX2_readClaim_82 ?_
              first
              | (refine Or.inl ⟨rfl, by rw [hC]; exact hs4, _, by rw [hC]; exact hop4.1, ?_⟩
                 rw [had, hC, g0, g1, hop2.2.2, he1]
                 rfl)
              | (have hz4 : e4.1.1 ≠ 0 := by
                   rcases hop4.2 with h | h
                   · exfalso; omega
                   · exact h.2
                 have hC : clC (tx M0) (M0 17 1) s = e4 := by
                   unfold clC
                   rw [← he1, ← he2, ← he3, ← he4]
                 exact Or.inr ⟨rfl, by rw [hC]; exact hz4, by rw [hC]; exact hop4.1⟩)
              | (have hz3 : e3.1.1 ≠ 0 := by
                   rcases hop3.2 with h | h
                   · exfalso; omega
                   · exact h.2
                 have hC : clC (tx M0) (M0 17 1) s = e3 := by
                   unfold clC
                   rw [← he1, ← he2, ← he3, opE_f hz3]
                 exact Or.inr ⟨rfl, by rw [hC]; exact hz3, by rw [hC]; exact hop3.1⟩)
              | (have hz2 : (opW (tx M0) (M0 17 1) 10 e1).1.1 ≠ 0 := by
                   rcases hrw.2 with h | h
                   · exfalso; omega
                   · exact h.2
                 have hA : opA (tx M0) (M0 17 1) e1 = opW (tx M0) (M0 17 1) 10 e1 := by
                   unfold opA
                   rw [if_neg]
                   intro z
                   rcases htk with ⟨a, b, c⟩ | ⟨a, b, c⟩
                   · omega
                   · exact b z.2
                 have hC : clC (tx M0) (M0 17 1) s = opW (tx M0) (M0 17 1) 10 e1 := by
                   unfold clC
                   rw [← he1, hA, opN_f hz2, opE_f hz2]
                 exact Or.inr ⟨rfl, by rw [hC]; exact hz2, by rw [hC]; exact hrw.1⟩)
  · refine z_iconst dX2_readClaim_10 ⟨by decide, by decide⟩ ?_
    refine z_zret rfl (by omega) (by decide) rfl (Nat.sub_self _) dX2_readClaim_11 ?_
    have hz1 : e1.1.1 ≠ 0 := by
      rcases hop1.2 with h | h
      · exfalso; omega
      · exact h.2
    have hA : opA (tx M0) (M0 17 1) e1 = e1 := by
      unfold opA
      rw [if_neg (fun z => hz1 z.1), opW_f hz1]
    have hC : clC (tx M0) (M0 17 1) s = e1 := by
      unfold clC
      rw [← he1, hA, opN_f hz1, opE_f hz1]
    exact Or.inr ⟨rfl, by rw [hC]; exact hz1, by rw [hC]; exact hop1.1⟩
set_option maxHeartbeats 1600000 in
theorem A_X2_readClaim51 (l : Launch) (g : Cx) (M : FMem) (M0 : FMem) (s : PS) (hR : Rs M0 s M) (hf : s.1.1 = 0) (hS : SOk (M0 17 1) s) (hn : M0 17 1 ≤ 240) (hz : s.2.1 = 0) (hcl : 0 ≤ M0 51 11 ∧ M0 51 11 < 8) : AMi l g true fi_X2_readClaim [fr 17, fr 51] 93 M (fun q M2 => (q = 1 ∧ (clC (tx M0) (M0 17 1) s).1.1 = 0 ∧ ∃ M1, Rs M0 (clC (tx M0) (M0 17 1) s) M1 ∧ M2 = effR 51 4 (clC (tx M0) (M0 17 1) s).2.2 (abv (tx M0) (M0 17 1) (opN (tx M0) (M0 17 1) 0 0 9 s)) M1) ∨ (q = 0 ∧ (clC (tx M0) (M0 17 1) s).1.1 ≠ 0 ∧ Rs M0 (clC (tx M0) (M0 17 1) s) M2)) := by
  refine AMi_intro [fr 17, fr 51, fu, fu] (by decide) (knall rfl) (Nat.le_of_ble_eq_true rfl) rfl ?_
  intro hNV hM0 μ
  have hR1 := hR.2.1 hf
  have hof := offR_tx hR.1
  have hsp := hS hf
  have hsb := sk_b (t := tx M0) hsp.1 hsp.2
  refine z_aload_nr dX2_readClaim_0 rfl ?_
  refine z_iconst dX2_readClaim_1 ⟨by decide, by decide⟩ ?_
  refine z_bipush dX2_readClaim_2 ⟨by decide, by decide⟩ (by decide) ?_
  refine z_callVi (n2 := 93) (A_X2_readNumber l g M 0 9 _ (s) (hR) (hf) (hS) (hn) (by omega)) cb_X2_readNumber cl_X2_92 (clr0 rfl rfl (by decide) (by decide)) rfl (by decide) ⟨_, rfl, rfl⟩ rfl (by decide) rfl (Nat.le_of_ble_eq_true rfl) rfl dX2_readClaim_4 (fun x1 Mz1 bx1 kMz1 hc1 => ?_)
  have hop1 := hc1
  obtain ⟨e1, he1⟩ : ∃ z, z = opN (tx M0) (M0 17 1) 0 0 9 s := ⟨_, rfl⟩
  rw [← he1] at hop1
  have ok1 : SOk (M0 17 1) e1 := by rw [he1]; exact opN_ok hS
  refine z_if_ne (tgt := 12) dX2_readClaim_7 (by decide) (fun c2 => ?_) (fun c2 => ?_)
  · have hs1 : e1.1.1 = 0 := by
      rcases hop1.2 with h | h
      · exact h.2
      · exfalso; omega
    have hv1 := opN_v (t := tx M0) (n := M0 17 1) (sg := 0) (lo := 0) (hi := 9) (s := s) hS (by rw [← he1]; exact hs1)
    rw [← he1] at hv1
    have hof1 := offR_tx hop1.1.1
    have hR2 := hop1.1.2.1 hs1
    have hsp1 := ok1 hs1
    have hsb1 := sk_b (t := tx M0) hsp1.1 hsp1.2
    refine z_aload_nr dX2_readClaim_12 rfl ?_
    refine z_callVv (n2 := 93) (A_X2_skipBlanks l g Mz1 (by omega) (by omega)) cb_X2_skipBlanks cl_X2_39 (clr0 rfl rfl (by decide) (by decide)) rfl (by decide) ⟨_, rfl, rfl⟩ rfl (by decide) rfl (Nat.le_of_ble_eq_true rfl) rfl dX2_readClaim_13 (fun Mz3 kMz3 hc3 => ?_)
    have hMs := hc3
    rw [hof1.1, hof1.2, hR2.1] at hMs
    have eat : Mz3 17 4 = (sk (tx M0) (M0 17 1) e1.1.2.2) := by rw [hMs]; exact st_same _ _ _ _
    have eln : Mz3 17 1 = M0 17 1 := by rw [hMs, st_at, if_neg (by decide)]; exact hof1.2
    have etf : tx Mz3 = tx M0 := funext fun i => by show Mz3 18 i = _; rw [hMs, st_cell (by decide)]; exact congrFun hof1.1 i
    have hRs : Rs M0 ((0, 0, (sk (tx M0) (M0 17 1) e1.1.2.2)), e1.2) Mz3 := by rw [hMs]; exact Rs_at hop1.1 hs1 rfl
    have hse : opW (tx M0) (M0 17 1) 10 ((0, 0, (sk (tx M0) (M0 17 1) e1.1.2.2)), e1.2) = opW (tx M0) (M0 17 1) 10 e1 := by
      unfold opW
      rw [if_pos rfl, if_pos hs1, sk_sk]
    have hoe : SOk (M0 17 1) ((0, 0, (sk (tx M0) (M0 17 1) e1.1.2.2)), e1.2) := fun _ => sk_b (ok1 hs1).1 (ok1 hs1).2
    refine z_aload_nr dX2_readClaim_16 rfl ?_
    refine z_ldcs (j := 9) rfl (by decide) dX2_readClaim_17 ?_
    refine z_callVi (n2 := 93) (A_X2_tookWord l g Mz3 9 (by decide) (by omega) (by omega)) cb_X2_tookWord cl_X2_71 (clr0 rfl rfl (by decide) (by decide)) rfl (by decide) ⟨_, rfl, rfl⟩ rfl (by decide) rfl (Nat.le_of_ble_eq_true rfl) rfl dX2_readClaim_19 (fun x4 Mz4 bx4 kMz4 hc4 => ?_)
    have htk := hc4
    rw [etf, eln, eat] at htk
    refine z_istore_n (loc2 := [fr 17, fr 51, fi x4, fu]) dX2_readClaim_22 (by decide) rfl ?_
    refine z_iload_n dX2_readClaim_23 rfl ?_
    refine z_if_ne (tgt := 36) dX2_readClaim_24 (by decide) (fun c5 => ?_) (fun c5 => ?_)
    · obtain ⟨e2, he2⟩ : ∃ z, z = opA (tx M0) (M0 17 1) e1 := ⟨_, rfl⟩
      have hop2 : Rs M0 e2 Mz4 ∧ e2.1.1 = 0 ∧ x4 = abv (tx M0) (M0 17 1) e1 := by
        rcases htk with ⟨a, b, c⟩ | ⟨a, b, c⟩
        · first
          | (exfalso; omega)
          | (have hA : e2 = ((0, 0, (sk (tx M0) (M0 17 1) e1.1.2.2) + wl 9), e1.2) := by
               rw [he2]
               unfold opA
               rw [if_pos ⟨hs1, b⟩]
               unfold opW
               rw [if_pos hs1, if_pos b]
             exact ⟨by rw [c, hMs, st_st]; exact Rs_at hop1.1 hs1 hA, by rw [hA], by unfold abv; rw [c01_t b]; exact a⟩)
        · first
          | (exfalso; omega)
          | (have hA : e2 = opW (tx M0) (M0 17 1) 10 e1 := by
               rw [he2]
               unfold opA
               rw [if_neg (fun z => b z.2)]
             rw [hA]
             refine ⟨hrw.1, ?_, by unfold abv; rw [c01_f b]; exact a⟩
             rcases hrw.2 with h | h
             · exact h.2
             · exfalso; omega)
      have hs2 := hop2.2.1
      have ok2 : SOk (M0 17 1) e2 := by rw [he2]; exact opA_ok ok1
      have hc2 : e2.2.1 = 1 := by rw [he2, (opA_v (t := tx M0) (n := M0 17 1)).1]; omega
      refine z_aload_nr dX2_readClaim_36 rfl ?_
      refine z_ldc (c := -40000) cn_X2_135 ⟨by decide, by decide⟩ dX2_readClaim_37 ?_
      refine z_ldc (c := 40000) cn_X2_136 ⟨by decide, by decide⟩ dX2_readClaim_39 ?_
      refine z_callVi (n2 := 93) (A_X2_readSigned l g Mz4 (-40000) 40000 _ (e2) (hop2.1) (hs2) (ok2) (hn) (by omega)) cb_X2_readSigned cl_X2_97 (clr0 rfl rfl (by decide) (by decide)) rfl (by decide) ⟨_, rfl, rfl⟩ rfl (by decide) rfl (Nat.le_of_ble_eq_true rfl) rfl dX2_readClaim_41 (fun x6 Mz6 bx6 kMz6 hc6 => ?_)
      have hop3 := hc6
      obtain ⟨e3, he3⟩ : ∃ z, z = opN (tx M0) (M0 17 1) 1 (-40000) 40000 e2 := ⟨_, rfl⟩
      rw [← he3] at hop3
      have ok3 : SOk (M0 17 1) e3 := by rw [he3]; exact opN_ok ok2
      refine z_if_eq (tgt := 58) dX2_readClaim_44 (by decide) (fun c7 => ?_) (fun c7 => ?_)
      · refine z_iconst dX2_readClaim_58 ⟨by decide, by decide⟩ ?_
        refine z_istore_n (loc2 := [fr 17, fr 51, fi x4, fi 0]) dX2_readClaim_59 (by decide) rfl ?_
        refine z_iload_n dX2_readClaim_60 rfl ?_
        refine z_if_eq (tgt := 81) dX2_readClaim_61 (by decide) (fun c8 => ?_) (fun c8 => ?_)
        · refine z_iload_n dX2_readClaim_81 rfl ?_
          refine z_zret rfl (by omega) (by decide) rfl (Nat.sub_self _) dX2_readClaim_82 ?_
          first
          | (refine Or.inl ⟨rfl, by rw [hC]; exact hs4, _, by rw [hC]; exact hop4.1, ?_⟩
             rw [had, hC, g0, g1, hop2.2.2, he1]
             rfl)
          | (have hz4 : e4.1.1 ≠ 0 := by
               rcases hop4.2 with h | h
               · exfalso; omega
               · exact h.2
             have hC : clC (tx M0) (M0 17 1) s = e4 := by
               unfold clC
               rw [← he1, ← he2, ← he3, ← he4]
             exact Or.inr ⟨rfl, by rw [hC]; exact hz4, by rw [hC]; exact hop4.1⟩)
          | (have hz3 : e3.1.1 ≠ 0 := by
               rcases hop3.2 with h | h
               · exfalso; omega
               · exact h.2
             have hC : clC (tx M0) (M0 17 1) s = e3 := by
               unfold clC
               rw [← he1, ← he2, ← he3, opE_f hz3]
             exact Or.inr ⟨rfl, by rw [hC]; exact hz3, by rw [hC]; exact hop3.1⟩)
          | (have hz2 : (opW (tx M0) (M0 17 1) 10 e1).1.1 ≠ 0 := by
               rcases hrw.2 with h | h
               · exfalso; omega
               · exact h.2
             have hA : opA (tx M0) (M0 17 1) e1 = opW (tx M0) (M0 17 1) 10 e1 := by
               unfold opA
               rw [if_neg]
               intro z
               rcases htk with ⟨a, b, c⟩ | ⟨a, b, c⟩
               · omega
               · exact b z.2
             have hC : clC (tx M0) (M0 17 1) s = opW (tx M0) (M0 17 1) 10 e1 := by
               unfold clC
               rw [← he1, hA, opN_f hz2, opE_f hz2]
             exact Or.inr ⟨rfl, by rw [hC]; exact hz2, by rw [hC]; exact hrw.1⟩)
        · exfalso; omega
      · have hs3 : e3.1.1 = 0 := by
          rcases hop3.2 with h | h
          · exact h.2
          · exfalso; omega
        refine z_aload_nr dX2_readClaim_47 rfl ?_
        refine z_callVi (n2 := 93) (A_X2_readEnd l g Mz6 _ (e3) (hop3.1) (hs3) (ok3) (hn)) cb_X2_readEnd cl_X2_108 (clr0 rfl rfl (by decide) (by decide)) rfl (by decide) ⟨_, rfl, rfl⟩ rfl (by decide) rfl (Nat.le_of_ble_eq_true rfl) rfl dX2_readClaim_48 (fun x9 Mz9 bx9 kMz9 hc9 => ?_)
        have hop4 := hc9
        obtain ⟨e4, he4⟩ : ∃ z, z = opE (tx M0) (M0 17 1) e3 := ⟨_, rfl⟩
        rw [← he4] at hop4
        refine z_if_eq (tgt := 58) dX2_readClaim_51 (by decide) (fun c10 => ?_) (fun c10 => ?_)
        · refine z_iconst dX2_readClaim_58 ⟨by decide, by decide⟩ ?_
          refine z_istore_n (loc2 := [fr 17, fr 51, fi x4, fi 0]) dX2_readClaim_59 (by decide) rfl ?_
          refine z_iload_n dX2_readClaim_60 rfl ?_
          refine z_if_eq (tgt := 81) dX2_readClaim_61 (by decide) (fun c11 => ?_) (fun c11 => ?_)
          · refine z_iload_n dX2_readClaim_81 rfl ?_
            refine z_zret rfl (by omega) (by decide) rfl (Nat.sub_self _) dX2_readClaim_82 ?_
            first
            | (refine Or.inl ⟨rfl, by rw [hC]; exact hs4, _, by rw [hC]; exact hop4.1, ?_⟩
               rw [had, hC, g0, g1, hop2.2.2, he1]
               rfl)
            | (have hz4 : e4.1.1 ≠ 0 := by
                 rcases hop4.2 with h | h
                 · exfalso; omega
                 · exact h.2
               have hC : clC (tx M0) (M0 17 1) s = e4 := by
                 unfold clC
                 rw [← he1, ← he2, ← he3, ← he4]
               exact Or.inr ⟨rfl, by rw [hC]; exact hz4, by rw [hC]; exact hop4.1⟩)
            | (have hz3 : e3.1.1 ≠ 0 := by
                 rcases hop3.2 with h | h
                 · exfalso; omega
                 · exact h.2
               have hC : clC (tx M0) (M0 17 1) s = e3 := by
                 unfold clC
                 rw [← he1, ← he2, ← he3, opE_f hz3]
               exact Or.inr ⟨rfl, by rw [hC]; exact hz3, by rw [hC]; exact hop3.1⟩)
            | (have hz2 : (opW (tx M0) (M0 17 1) 10 e1).1.1 ≠ 0 := by
                 rcases hrw.2 with h | h
                 · exfalso; omega
                 · exact h.2
               have hA : opA (tx M0) (M0 17 1) e1 = opW (tx M0) (M0 17 1) 10 e1 := by
                 unfold opA
                 rw [if_neg]
                 intro z
                 rcases htk with ⟨a, b, c⟩ | ⟨a, b, c⟩
                 · omega
                 · exact b z.2
               have hC : clC (tx M0) (M0 17 1) s = opW (tx M0) (M0 17 1) 10 e1 := by
                 unfold clC
                 rw [← he1, hA, opN_f hz2, opE_f hz2]
               exact Or.inr ⟨rfl, by rw [hC]; exact hz2, by rw [hC]; exact hrw.1⟩)
          · exfalso; omega
        · have hs4 : e4.1.1 = 0 := by
            rcases hop4.2 with h | h
            · exact h.2
            · exfalso; omega
          have hC : clC (tx M0) (M0 17 1) s = e4 := by unfold clC; rw [← he1, ← he2, ← he3, ← he4]
          have hcv := clC_v (t := tx M0) hS hz (by rw [hC]; exact hs4)
          rw [hC] at hcv
          have hnu := (hop4.1.2.1 hs4).2.2.2.2
          rw [hcv.2.1] at hnu
          have hn0 := hnu 0 (by decide) (by decide)
          have hn1 := hnu 1 (by decide) (by decide)
          have hcl4 : Mz9 51 11 = M0 51 11 := hop4.1.1 51 11 (by omega) (by decide)
          have hab := abv_01 (t := tx M0) (n := M0 17 1) (s := e1)
          refine z_iconst dX2_readClaim_54 ⟨by decide, by decide⟩ ?_
          refine z_goto (tgt := 59) dX2_readClaim_55 (by decide) ?_
          refine z_istore_n (loc2 := [fr 17, fr 51, fi x4, fi 1]) dX2_readClaim_59 (by decide) rfl ?_
          refine z_iload_n dX2_readClaim_60 rfl ?_
          refine z_if_eq (tgt := 81) dX2_readClaim_61 (by decide) (fun c12 => ?_) (fun c12 => ?_)
          · exfalso; omega
          · refine z_aload_nr dX2_readClaim_64 rfl ?_
            refine z_aload_nr dX2_readClaim_65 rfl ?_
            refine z_getr (b := 19) fl_X2_28 rfl (by decide) rf_17_5 rfl dX2_readClaim_66 ?_
            refine z_iconst dX2_readClaim_69 ⟨by decide, by decide⟩ ?_
            refine z_iald rfl (by decide) (by omega) (by omega) dX2_readClaim_70 (fun x13 hx13 bx13 => ?_)
            have g0 := hx13
            rw [hn0] at g0
            refine z_iload_n dX2_readClaim_71 rfl ?_
            refine z_aload_nr dX2_readClaim_72 rfl ?_
            refine z_getr (b := 19) fl_X2_28 rfl (by decide) rf_17_5 rfl dX2_readClaim_73 ?_
            refine z_iconst dX2_readClaim_76 ⟨by decide, by decide⟩ ?_
            refine z_iald rfl (by decide) (by omega) (by omega) dX2_readClaim_77 (fun x14 hx14 bx14 => ?_)
            have g1 := hx14
            rw [hn1] at g1
            refine z_callVv (n2 := 93) (A_X3_addClaim51 l g Mz9 x13 x4 x14 (by omega) (by omega)) cb_X3_addClaim cl_X2_137 (clr0 rfl rfl (by decide) (by decide)) rfl (by decide) ⟨_, rfl, rfl⟩ rfl (by decide) rfl (Nat.le_of_ble_eq_true rfl) rfl dX2_readClaim_78 (fun Mz15 kMz15 hc15 => ?_)
            have had := hc15
            refine z_iload_n dX2_readClaim_81 rfl ?_
            refine z_zret rfl (by omega) (by decide) rfl (Nat.sub_self _) dX2_readClaim_82 ?_
            first
            | (refine Or.inl ⟨rfl, by rw [hC]; exact hs4, _, by rw [hC]; exact hop4.1, ?_⟩
               rw [had, hC, g0, g1, hop2.2.2, he1]
               rfl)
            | (have hz4 : e4.1.1 ≠ 0 := by
                 rcases hop4.2 with h | h
                 · exfalso; omega
                 · exact h.2
               have hC : clC (tx M0) (M0 17 1) s = e4 := by
                 unfold clC
                 rw [← he1, ← he2, ← he3, ← he4]
               exact Or.inr ⟨rfl, by rw [hC]; exact hz4, by rw [hC]; exact hop4.1⟩)
            | (have hz3 : e3.1.1 ≠ 0 := by
                 rcases hop3.2 with h | h
                 · exfalso; omega
                 · exact h.2
               have hC : clC (tx M0) (M0 17 1) s = e3 := by
                 unfold clC
                 rw [← he1, ← he2, ← he3, opE_f hz3]
               exact Or.inr ⟨rfl, by rw [hC]; exact hz3, by rw [hC]; exact hop3.1⟩)
            | (have hz2 : (opW (tx M0) (M0 17 1) 10 e1).1.1 ≠ 0 := by
                 rcases hrw.2 with h | h
                 · exfalso; omega
                 · exact h.2
               have hA : opA (tx M0) (M0 17 1) e1 = opW (tx M0) (M0 17 1) 10 e1 := by
                 unfold opA
                 rw [if_neg]
                 intro z
                 rcases htk with ⟨a, b, c⟩ | ⟨a, b, c⟩
                 · omega
                 · exact b z.2
               have hC : clC (tx M0) (M0 17 1) s = opW (tx M0) (M0 17 1) 10 e1 := by
                 unfold clC
                 rw [← he1, hA, opN_f hz2, opE_f hz2]
               exact Or.inr ⟨rfl, by rw [hC]; exact hz2, by rw [hC]; exact hrw.1⟩)
    · refine z_aload_nr dX2_readClaim_27 rfl ?_
      refine z_ldcs (j := 10) rfl (by decide) dX2_readClaim_28 ?_
      have hRb : Rs M0 ((0, 0, (sk (tx M0) (M0 17 1) e1.1.2.2)), e1.2) Mz4 := by
        rcases htk with ⟨a, b, c⟩ | ⟨a, b, c⟩
        · exfalso; omega
        · rw [c]; exact hRs
      refine z_callVi (n2 := 93) (A_X2_readWord l g Mz4 10 (by decide) _ (((0, 0, (sk (tx M0) (M0 17 1) e1.1.2.2)), e1.2)) (hRb) (rfl) (hoe) (hn)) cb_X2_readWord cl_X2_86 (clr0 rfl rfl (by decide) (by decide)) rfl (by decide) ⟨_, rfl, rfl⟩ rfl (by decide) rfl (Nat.le_of_ble_eq_true rfl) rfl dX2_readClaim_30 (fun x16 Mz16 bx16 kMz16 hc16 => ?_)
      have hrw := hc16
      rw [hse] at hrw
      refine z_if_eq (tgt := 58) dX2_readClaim_33 (by decide) (fun c17 => ?_) (fun c17 => ?_)
      · refine z_iconst dX2_readClaim_58 ⟨by decide, by decide⟩ ?_
        refine z_istore_n (loc2 := [fr 17, fr 51, fi x4, fi 0]) dX2_readClaim_59 (by decide) rfl ?_
        refine z_iload_n dX2_readClaim_60 rfl ?_
        refine z_if_eq (tgt := 81) dX2_readClaim_61 (by decide) (fun c18 => ?_) (fun c18 => ?_)
        · refine z_iload_n dX2_readClaim_81 rfl ?_
          refine z_zret rfl (by omega) (by decide) rfl (Nat.sub_self _) dX2_readClaim_82 ?_
          first
          | (refine Or.inl ⟨rfl, by rw [hC]; exact hs4, _, by rw [hC]; exact hop4.1, ?_⟩
             rw [had, hC, g0, g1, hop2.2.2, he1]
             rfl)
          | (have hz4 : e4.1.1 ≠ 0 := by
               rcases hop4.2 with h | h
               · exfalso; omega
               · exact h.2
             have hC : clC (tx M0) (M0 17 1) s = e4 := by
               unfold clC
               rw [← he1, ← he2, ← he3, ← he4]
             exact Or.inr ⟨rfl, by rw [hC]; exact hz4, by rw [hC]; exact hop4.1⟩)
          | (have hz3 : e3.1.1 ≠ 0 := by
               rcases hop3.2 with h | h
               · exfalso; omega
               · exact h.2
             have hC : clC (tx M0) (M0 17 1) s = e3 := by
               unfold clC
               rw [← he1, ← he2, ← he3, opE_f hz3]
             exact Or.inr ⟨rfl, by rw [hC]; exact hz3, by rw [hC]; exact hop3.1⟩)
          | (have hz2 : (opW (tx M0) (M0 17 1) 10 e1).1.1 ≠ 0 := by
               rcases hrw.2 with h | h
               · exfalso; omega
               · exact h.2
             have hA : opA (tx M0) (M0 17 1) e1 = opW (tx M0) (M0 17 1) 10 e1 := by
               unfold opA
               rw [if_neg]
               intro z
               rcases htk with ⟨a, b, c⟩ | ⟨a, b, c⟩
               · omega
               · exact b z.2
             have hC : clC (tx M0) (M0 17 1) s = opW (tx M0) (M0 17 1) 10 e1 := by
               unfold clC
               rw [← he1, hA, opN_f hz2, opE_f hz2]
             exact Or.inr ⟨rfl, by rw [hC]; exact hz2, by rw [hC]; exact hrw.1⟩)
        · exfalso; omega
      · obtain ⟨e2, he2⟩ : ∃ z, z = opA (tx M0) (M0 17 1) e1 := ⟨_, rfl⟩
        have hop2 : Rs M0 e2 Mz16 ∧ e2.1.1 = 0 ∧ x4 = abv (tx M0) (M0 17 1) e1 := by
          rcases htk with ⟨a, b, c⟩ | ⟨a, b, c⟩
          · first
            | (exfalso; omega)
            | (have hA : e2 = ((0, 0, (sk (tx M0) (M0 17 1) e1.1.2.2) + wl 9), e1.2) := by
                 rw [he2]
                 unfold opA
                 rw [if_pos ⟨hs1, b⟩]
                 unfold opW
                 rw [if_pos hs1, if_pos b]
               exact ⟨by rw [c, hMs, st_st]; exact Rs_at hop1.1 hs1 hA, by rw [hA], by unfold abv; rw [c01_t b]; exact a⟩)
          · first
            | (exfalso; omega)
            | (have hA : e2 = opW (tx M0) (M0 17 1) 10 e1 := by
                 rw [he2]
                 unfold opA
                 rw [if_neg (fun z => b z.2)]
               rw [hA]
               refine ⟨hrw.1, ?_, by unfold abv; rw [c01_f b]; exact a⟩
               rcases hrw.2 with h | h
               · exact h.2
               · exfalso; omega)
        have hs2 := hop2.2.1
        have ok2 : SOk (M0 17 1) e2 := by rw [he2]; exact opA_ok ok1
        have hc2 : e2.2.1 = 1 := by rw [he2, (opA_v (t := tx M0) (n := M0 17 1)).1]; omega
        refine z_aload_nr dX2_readClaim_36 rfl ?_
        refine z_ldc (c := -40000) cn_X2_135 ⟨by decide, by decide⟩ dX2_readClaim_37 ?_
        refine z_ldc (c := 40000) cn_X2_136 ⟨by decide, by decide⟩ dX2_readClaim_39 ?_
        refine z_callVi (n2 := 93) (A_X2_readSigned l g Mz16 (-40000) 40000 _ (e2) (hop2.1) (hs2) (ok2) (hn) (by omega)) cb_X2_readSigned cl_X2_97 (clr0 rfl rfl (by decide) (by decide)) rfl (by decide) ⟨_, rfl, rfl⟩ rfl (by decide) rfl (Nat.le_of_ble_eq_true rfl) rfl dX2_readClaim_41 (fun x19 Mz19 bx19 kMz19 hc19 => ?_)
        have hop3 := hc19
        obtain ⟨e3, he3⟩ : ∃ z, z = opN (tx M0) (M0 17 1) 1 (-40000) 40000 e2 := ⟨_, rfl⟩
        rw [← he3] at hop3
        have ok3 : SOk (M0 17 1) e3 := by rw [he3]; exact opN_ok ok2
        refine z_if_eq (tgt := 58) dX2_readClaim_44 (by decide) (fun c20 => ?_) (fun c20 => ?_)
        · refine z_iconst dX2_readClaim_58 ⟨by decide, by decide⟩ ?_
          refine z_istore_n (loc2 := [fr 17, fr 51, fi x4, fi 0]) dX2_readClaim_59 (by decide) rfl ?_
          refine z_iload_n dX2_readClaim_60 rfl ?_
          refine z_if_eq (tgt := 81) dX2_readClaim_61 (by decide) (fun c21 => ?_) (fun c21 => ?_)
          · refine z_iload_n dX2_readClaim_81 rfl ?_
            refine z_zret rfl (by omega) (by decide) rfl (Nat.sub_self _) dX2_readClaim_82 ?_
            first
            | (refine Or.inl ⟨rfl, by rw [hC]; exact hs4, _, by rw [hC]; exact hop4.1, ?_⟩
               rw [had, hC, g0, g1, hop2.2.2, he1]
               rfl)
            | (have hz4 : e4.1.1 ≠ 0 := by
                 rcases hop4.2 with h | h
                 · exfalso; omega
                 · exact h.2
               have hC : clC (tx M0) (M0 17 1) s = e4 := by
                 unfold clC
                 rw [← he1, ← he2, ← he3, ← he4]
               exact Or.inr ⟨rfl, by rw [hC]; exact hz4, by rw [hC]; exact hop4.1⟩)
            | (have hz3 : e3.1.1 ≠ 0 := by
                 rcases hop3.2 with h | h
                 · exfalso; omega
                 · exact h.2
               have hC : clC (tx M0) (M0 17 1) s = e3 := by
                 unfold clC
                 rw [← he1, ← he2, ← he3, opE_f hz3]
               exact Or.inr ⟨rfl, by rw [hC]; exact hz3, by rw [hC]; exact hop3.1⟩)
            | (have hz2 : (opW (tx M0) (M0 17 1) 10 e1).1.1 ≠ 0 := by
                 rcases hrw.2 with h | h
                 · exfalso; omega
                 · exact h.2
               have hA : opA (tx M0) (M0 17 1) e1 = opW (tx M0) (M0 17 1) 10 e1 := by
                 unfold opA
                 rw [if_neg]
                 intro z
                 rcases htk with ⟨a, b, c⟩ | ⟨a, b, c⟩
                 · omega
                 · exact b z.2
               have hC : clC (tx M0) (M0 17 1) s = opW (tx M0) (M0 17 1) 10 e1 := by
                 unfold clC
                 rw [← he1, hA, opN_f hz2, opE_f hz2]
               exact Or.inr ⟨rfl, by rw [hC]; exact hz2, by rw [hC]; exact hrw.1⟩)
          · exfalso; omega
        · have hs3 : e3.1.1 = 0 := by
            rcases hop3.2 with h | h
            · exact h.2
            · exfalso; omega
          refine z_aload_nr dX2_readClaim_47 rfl ?_
          refine z_callVi (n2 := 93) (A_X2_readEnd l g Mz19 _ (e3) (hop3.1) (hs3) (ok3) (hn)) cb_X2_readEnd cl_X2_108 (clr0 rfl rfl (by decide) (by decide)) rfl (by decide) ⟨_, rfl, rfl⟩ rfl (by decide) rfl (Nat.le_of_ble_eq_true rfl) rfl dX2_readClaim_48 (fun x22 Mz22 bx22 kMz22 hc22 => ?_)
          have hop4 := hc22
          obtain ⟨e4, he4⟩ : ∃ z, z = opE (tx M0) (M0 17 1) e3 := ⟨_, rfl⟩
          rw [← he4] at hop4
          refine z_if_eq (tgt := 58) dX2_readClaim_51 (by decide) (fun c23 => ?_) (fun c23 => ?_)
          · refine z_iconst dX2_readClaim_58 ⟨by decide, by decide⟩ ?_
            refine z_istore_n (loc2 := [fr 17, fr 51, fi x4, fi 0]) dX2_readClaim_59 (by decide) rfl ?_
            refine z_iload_n dX2_readClaim_60 rfl ?_
            refine z_if_eq (tgt := 81) dX2_readClaim_61 (by decide) (fun c24 => ?_) (fun c24 => ?_)
            · refine z_iload_n dX2_readClaim_81 rfl ?_
              refine z_zret rfl (by omega) (by decide) rfl (Nat.sub_self _) dX2_readClaim_82 ?_
              first
              | (refine Or.inl ⟨rfl, by rw [hC]; exact hs4, _, by rw [hC]; exact hop4.1, ?_⟩
                 rw [had, hC, g0, g1, hop2.2.2, he1]
                 rfl)
              | (have hz4 : e4.1.1 ≠ 0 := by
                   rcases hop4.2 with h | h
                   · exfalso; omega
                   · exact h.2
                 have hC : clC (tx M0) (M0 17 1) s = e4 := by
                   unfold clC
                   rw [← he1, ← he2, ← he3, ← he4]
                 exact Or.inr ⟨rfl, by rw [hC]; exact hz4, by rw [hC]; exact hop4.1⟩)
              | (have hz3 : e3.1.1 ≠ 0 := by
                   rcases hop3.2 with h | h
                   · exfalso; omega
                   · exact h.2
                 have hC : clC (tx M0) (M0 17 1) s = e3 := by
                   unfold clC
                   rw [← he1, ← he2, ← he3, opE_f hz3]
                 exact Or.inr ⟨rfl, by rw [hC]; exact hz3, by rw [hC]; exact hop3.1⟩)
              | (have hz2 : (opW (tx M0) (M0 17 1) 10 e1).1.1 ≠ 0 := by
                   rcases hrw.2 with h | h
                   · exfalso; omega
                   · exact h.2
                 have hA : opA (tx M0) (M0 17 1) e1 = opW (tx M0) (M0 17 1) 10 e1 := by
                   unfold opA
                   rw [if_neg]
                   intro z
                   rcases htk with ⟨a, b, c⟩ | ⟨a, b, c⟩
                   · omega
                   · exact b z.2
                 have hC : clC (tx M0) (M0 17 1) s = opW (tx M0) (M0 17 1) 10 e1 := by
                   unfold clC
                   rw [← he1, hA, opN_f hz2, opE_f hz2]
                 exact Or.inr ⟨rfl, by rw [hC]; exact hz2, by rw [hC]; exact hrw.1⟩)
            · exfalso; omega
          · have hs4 : e4.1.1 = 0 := by
              rcases hop4.2 with h | h
              · exact h.2
              · exfalso; omega
            have hC : clC (tx M0) (M0 17 1) s = e4 := by unfold clC; rw [← he1, ← he2, ← he3, ← he4]
            have hcv := clC_v (t := tx M0) hS hz (by rw [hC]; exact hs4)
            rw [hC] at hcv
            have hnu := (hop4.1.2.1 hs4).2.2.2.2
            rw [hcv.2.1] at hnu
            have hn0 := hnu 0 (by decide) (by decide)
            have hn1 := hnu 1 (by decide) (by decide)
            have hcl4 : Mz22 51 11 = M0 51 11 := hop4.1.1 51 11 (by omega) (by decide)
            have hab := abv_01 (t := tx M0) (n := M0 17 1) (s := e1)
            refine z_iconst dX2_readClaim_54 ⟨by decide, by decide⟩ ?_
            refine z_goto (tgt := 59) dX2_readClaim_55 (by decide) ?_
            refine z_istore_n (loc2 := [fr 17, fr 51, fi x4, fi 1]) dX2_readClaim_59 (by decide) rfl ?_
            refine z_iload_n dX2_readClaim_60 rfl ?_
            refine z_if_eq (tgt := 81) dX2_readClaim_61 (by decide) (fun c25 => ?_) (fun c25 => ?_)
            · exfalso; omega
            · refine z_aload_nr dX2_readClaim_64 rfl ?_
              refine z_aload_nr dX2_readClaim_65 rfl ?_
              refine z_getr (b := 19) fl_X2_28 rfl (by decide) rf_17_5 rfl dX2_readClaim_66 ?_
              refine z_iconst dX2_readClaim_69 ⟨by decide, by decide⟩ ?_
              refine z_iald rfl (by decide) (by omega) (by omega) dX2_readClaim_70 (fun x26 hx26 bx26 => ?_)
              have g0 := hx26
              rw [hn0] at g0
              refine z_iload_n dX2_readClaim_71 rfl ?_
              refine z_aload_nr dX2_readClaim_72 rfl ?_
              refine z_getr (b := 19) fl_X2_28 rfl (by decide) rf_17_5 rfl dX2_readClaim_73 ?_
              refine z_iconst dX2_readClaim_76 ⟨by decide, by decide⟩ ?_
              refine z_iald rfl (by decide) (by omega) (by omega) dX2_readClaim_77 (fun x27 hx27 bx27 => ?_)
              have g1 := hx27
              rw [hn1] at g1
              refine z_callVv (n2 := 93) (A_X3_addClaim51 l g Mz22 x26 x4 x27 (by omega) (by omega)) cb_X3_addClaim cl_X2_137 (clr0 rfl rfl (by decide) (by decide)) rfl (by decide) ⟨_, rfl, rfl⟩ rfl (by decide) rfl (Nat.le_of_ble_eq_true rfl) rfl dX2_readClaim_78 (fun Mz28 kMz28 hc28 => ?_)
              have had := hc28
              refine z_iload_n dX2_readClaim_81 rfl ?_
              refine z_zret rfl (by omega) (by decide) rfl (Nat.sub_self _) dX2_readClaim_82 ?_
              first
              | (refine Or.inl ⟨rfl, by rw [hC]; exact hs4, _, by rw [hC]; exact hop4.1, ?_⟩
                 rw [had, hC, g0, g1, hop2.2.2, he1]
                 rfl)
              | (have hz4 : e4.1.1 ≠ 0 := by
                   rcases hop4.2 with h | h
                   · exfalso; omega
                   · exact h.2
                 have hC : clC (tx M0) (M0 17 1) s = e4 := by
                   unfold clC
                   rw [← he1, ← he2, ← he3, ← he4]
                 exact Or.inr ⟨rfl, by rw [hC]; exact hz4, by rw [hC]; exact hop4.1⟩)
              | (have hz3 : e3.1.1 ≠ 0 := by
                   rcases hop3.2 with h | h
                   · exfalso; omega
                   · exact h.2
                 have hC : clC (tx M0) (M0 17 1) s = e3 := by
                   unfold clC
                   rw [← he1, ← he2, ← he3, opE_f hz3]
                 exact Or.inr ⟨rfl, by rw [hC]; exact hz3, by rw [hC]; exact hop3.1⟩)
              | (have hz2 : (opW (tx M0) (M0 17 1) 10 e1).1.1 ≠ 0 := by
                   rcases hrw.2 with h | h
                   · exfalso; omega
                   · exact h.2
                 have hA : opA (tx M0) (M0 17 1) e1 = opW (tx M0) (M0 17 1) 10 e1 := by
                   unfold opA
                   rw [if_neg]
                   intro z
                   rcases htk with ⟨a, b, c⟩ | ⟨a, b, c⟩
                   · omega
                   · exact b z.2
                 have hC : clC (tx M0) (M0 17 1) s = opW (tx M0) (M0 17 1) 10 e1 := by
                   unfold clC
                   rw [← he1, hA, opN_f hz2, opE_f hz2]
                 exact Or.inr ⟨rfl, by rw [hC]; exact hz2, by rw [hC]; exact hrw.1⟩)
  · refine z_iconst dX2_readClaim_10 ⟨by decide, by decide⟩ ?_
    refine z_zret rfl (by omega) (by decide) rfl (Nat.sub_self _) dX2_readClaim_11 ?_
    have hz1 : e1.1.1 ≠ 0 := by
      rcases hop1.2 with h | h
      · exfalso; omega
      · exact h.2
    have hA : opA (tx M0) (M0 17 1) e1 = e1 := by
      unfold opA
      rw [if_neg (fun z => hz1 z.1), opW_f hz1]
    have hC : clC (tx M0) (M0 17 1) s = e1 := by
      unfold clC
      rw [← he1, hA, opN_f hz1, opE_f hz1]
    exact Or.inr ⟨rfl, by rw [hC]; exact hz1, by rw [hC]; exact hop1.1⟩
