/-! ===== the reference's reader: which clause, a clause ===== -/
set_option maxHeartbeats 400000 in
theorem A_X8_clauseOf (l : Launch) (g : Cx) (M : FMem) (h0 : 0 ≤ M 60 39 ∧ 0 ≤ M 60 40) (h1 : M 60 39 + M 60 40 ≤ M 60 35) (hn : M 60 35 ≤ 240) (hr : rn (isL (tm M)) (M 60 35) (M 60 39) = M 60 39 + M 60 40) : AMi l g true fi_X8_clauseOf [fr 60] 93 M (fun r M2 => M2 = M ∧ (fun r => r = kdW (tm M) (M 60 35) (M 60 39)) r) := by
  refine AMi_intro [fr 60] (by decide) (knall rfl) (Nat.le_of_ble_eq_true rfl) rfl ?_
  intro hNV hM0 μ
  refine z_aload_nr dX8_clauseOf_0 rfl ?_
  refine z_iconst dX8_clauseOf_1 ⟨by decide, by decide⟩ ?_
  refine z_bipush dX8_clauseOf_2 ⟨by decide, by decide⟩ (by decide) ?_
  refine z_bipush dX8_clauseOf_4 ⟨by decide, by decide⟩ (by decide) ?_
  refine z_bipush dX8_clauseOf_6 ⟨by decide, by decide⟩ (by decide) ?_
  refine z_bipush dX8_clauseOf_8 ⟨by decide, by decide⟩ (by decide) ?_
  refine z_iconst dX8_clauseOf_10 ⟨by decide, by decide⟩ ?_
  refine z_iconst dX8_clauseOf_11 ⟨by decide, by decide⟩ ?_
  refine z_callVip (n2 := 93) (A_X8_isWord l g M 4 115 111 114 116 0 0 1 (by decide) (cdw_1.1) (cdw_1.2) (h0) (h1) (hn) (hr)) cb_X8_isWord cl_X8_234 (clr0 rfl rfl (by decide) (by decide)) rfl (by decide) ⟨_, rfl, rfl⟩ rfl (by decide) rfl (Nat.le_of_ble_eq_true rfl) rfl dX8_clauseOf_12 (fun x1 bx1 hx1 => ?_)
  have w1 := hx1
  refine z_if_eq (tgt := 20) dX8_clauseOf_15 (by decide) (fun c2 => ?_) (fun c2 => ?_)
  · refine z_aload_nr dX8_clauseOf_20 rfl ?_
    refine z_iconst dX8_clauseOf_21 ⟨by decide, by decide⟩ ?_
    refine z_bipush dX8_clauseOf_22 ⟨by decide, by decide⟩ (by decide) ?_
    refine z_bipush dX8_clauseOf_24 ⟨by decide, by decide⟩ (by decide) ?_
    refine z_bipush dX8_clauseOf_26 ⟨by decide, by decide⟩ (by decide) ?_
    refine z_bipush dX8_clauseOf_28 ⟨by decide, by decide⟩ (by decide) ?_
    refine z_iconst dX8_clauseOf_30 ⟨by decide, by decide⟩ ?_
    refine z_iconst dX8_clauseOf_31 ⟨by decide, by decide⟩ ?_
    refine z_callVip (n2 := 93) (A_X8_isWord l g M 4 100 117 115 116 0 0 2 (by decide) (cdw_2.1) (cdw_2.2) (h0) (h1) (hn) (hr)) cb_X8_isWord cl_X8_234 (clr0 rfl rfl (by decide) (by decide)) rfl (by decide) ⟨_, rfl, rfl⟩ rfl (by decide) rfl (Nat.le_of_ble_eq_true rfl) rfl dX8_clauseOf_32 (fun x3 bx3 hx3 => ?_)
    have w2 := hx3
    refine z_if_eq (tgt := 40) dX8_clauseOf_35 (by decide) (fun c4 => ?_) (fun c4 => ?_)
    · refine z_aload_nr dX8_clauseOf_40 rfl ?_
      refine z_iconst dX8_clauseOf_41 ⟨by decide, by decide⟩ ?_
      refine z_bipush dX8_clauseOf_42 ⟨by decide, by decide⟩ (by decide) ?_
      refine z_bipush dX8_clauseOf_44 ⟨by decide, by decide⟩ (by decide) ?_
      refine z_bipush dX8_clauseOf_46 ⟨by decide, by decide⟩ (by decide) ?_
      refine z_bipush dX8_clauseOf_48 ⟨by decide, by decide⟩ (by decide) ?_
      refine z_iconst dX8_clauseOf_50 ⟨by decide, by decide⟩ ?_
      refine z_iconst dX8_clauseOf_51 ⟨by decide, by decide⟩ ?_
      refine z_callVip (n2 := 93) (A_X8_isWord l g M 4 98 108 117 114 0 0 3 (by decide) (cdw_3.1) (cdw_3.2) (h0) (h1) (hn) (hr)) cb_X8_isWord cl_X8_234 (clr0 rfl rfl (by decide) (by decide)) rfl (by decide) ⟨_, rfl, rfl⟩ rfl (by decide) rfl (Nat.le_of_ble_eq_true rfl) rfl dX8_clauseOf_52 (fun x5 bx5 hx5 => ?_)
      have w3 := hx5
      refine z_if_eq (tgt := 60) dX8_clauseOf_55 (by decide) (fun c6 => ?_) (fun c6 => ?_)
      · refine z_aload_nr dX8_clauseOf_60 rfl ?_
        refine z_iconst dX8_clauseOf_61 ⟨by decide, by decide⟩ ?_
        refine z_bipush dX8_clauseOf_62 ⟨by decide, by decide⟩ (by decide) ?_
        refine z_bipush dX8_clauseOf_64 ⟨by decide, by decide⟩ (by decide) ?_
        refine z_bipush dX8_clauseOf_66 ⟨by decide, by decide⟩ (by decide) ?_
        refine z_iconst dX8_clauseOf_68 ⟨by decide, by decide⟩ ?_
        refine z_iconst dX8_clauseOf_69 ⟨by decide, by decide⟩ ?_
        refine z_iconst dX8_clauseOf_70 ⟨by decide, by decide⟩ ?_
        refine z_callVip (n2 := 93) (A_X8_isWord l g M 3 111 119 110 0 0 0 4 (by decide) (cdw_4.1) (cdw_4.2) (h0) (h1) (hn) (hr)) cb_X8_isWord cl_X8_234 (clr0 rfl rfl (by decide) (by decide)) rfl (by decide) ⟨_, rfl, rfl⟩ rfl (by decide) rfl (Nat.le_of_ble_eq_true rfl) rfl dX8_clauseOf_71 (fun x7 bx7 hx7 => ?_)
        have w4 := hx7
        refine z_if_eq (tgt := 79) dX8_clauseOf_74 (by decide) (fun c8 => ?_) (fun c8 => ?_)
        · refine z_aload_nr dX8_clauseOf_79 rfl ?_
          refine z_iconst dX8_clauseOf_80 ⟨by decide, by decide⟩ ?_
          refine z_bipush dX8_clauseOf_81 ⟨by decide, by decide⟩ (by decide) ?_
          refine z_bipush dX8_clauseOf_83 ⟨by decide, by decide⟩ (by decide) ?_
          refine z_bipush dX8_clauseOf_85 ⟨by decide, by decide⟩ (by decide) ?_
          refine z_bipush dX8_clauseOf_87 ⟨by decide, by decide⟩ (by decide) ?_
          refine z_bipush dX8_clauseOf_89 ⟨by decide, by decide⟩ (by decide) ?_
          refine z_iconst dX8_clauseOf_91 ⟨by decide, by decide⟩ ?_
          refine z_callVip (n2 := 93) (A_X8_isWord l g M 5 99 108 97 105 109 0 0 (by decide) (cdw_0.1) (cdw_0.2) (h0) (h1) (hn) (hr)) cb_X8_isWord cl_X8_234 (clr0 rfl rfl (by decide) (by decide)) rfl (by decide) ⟨_, rfl, rfl⟩ rfl (by decide) rfl (Nat.le_of_ble_eq_true rfl) rfl dX8_clauseOf_92 (fun x9 bx9 hx9 => ?_)
          have w0 := hx9
          refine z_if_eq (tgt := 102) dX8_clauseOf_95 (by decide) (fun c10 => ?_) (fun c10 => ?_)
          · refine z_iconst dX8_clauseOf_102 ⟨by decide, by decide⟩ ?_
            refine z_iret rfl (by decide) rfl (Nat.sub_self _) dX8_clauseOf_103 ?_
            refine ⟨rfl, ?_⟩
            first
            | (rcases w0 with h | h
               · exact (kd_0 h.2).symm
               · exfalso; omega)
            | (refine (kd_n ?_ ?_ ?_ ?_ ?_).symm
               · rcases w1 with h | h; (exfalso; omega); exact h.2
               · rcases w2 with h | h; (exfalso; omega); exact h.2
               · rcases w3 with h | h; (exfalso; omega); exact h.2
               · rcases w4 with h | h; (exfalso; omega); exact h.2
               · rcases w0 with h | h; (exfalso; omega); exact h.2)
          · refine z_iconst dX8_clauseOf_98 ⟨by decide, by decide⟩ ?_
            refine z_goto (tgt := 103) dX8_clauseOf_99 (by decide) ?_
            refine z_iret rfl (by decide) rfl (Nat.sub_self _) dX8_clauseOf_103 ?_
            refine ⟨rfl, ?_⟩
            first
            | (rcases w0 with h | h
               · exact (kd_0 h.2).symm
               · exfalso; omega)
            | (refine (kd_n ?_ ?_ ?_ ?_ ?_).symm
               · rcases w1 with h | h; (exfalso; omega); exact h.2
               · rcases w2 with h | h; (exfalso; omega); exact h.2
               · rcases w3 with h | h; (exfalso; omega); exact h.2
               · rcases w4 with h | h; (exfalso; omega); exact h.2
               · rcases w0 with h | h; (exfalso; omega); exact h.2)
        · refine z_iconst dX8_clauseOf_77 ⟨by decide, by decide⟩ ?_
          refine z_iret rfl (by decide) rfl (Nat.sub_self _) dX8_clauseOf_78 ?_
          refine ⟨rfl, ?_⟩
          rcases w4 with h | h
          · exact (kd_4 h.2).symm
          · exfalso; omega
      · refine z_iconst dX8_clauseOf_58 ⟨by decide, by decide⟩ ?_
        refine z_iret rfl (by decide) rfl (Nat.sub_self _) dX8_clauseOf_59 ?_
        refine ⟨rfl, ?_⟩
        rcases w3 with h | h
        · exact (kd_3 h.2).symm
        · exfalso; omega
    · refine z_iconst dX8_clauseOf_38 ⟨by decide, by decide⟩ ?_
      refine z_iret rfl (by decide) rfl (Nat.sub_self _) dX8_clauseOf_39 ?_
      refine ⟨rfl, ?_⟩
      rcases w2 with h | h
      · exact (kd_2 h.2).symm
      · exfalso; omega
  · refine z_iconst dX8_clauseOf_18 ⟨by decide, by decide⟩ ?_
    refine z_iret rfl (by decide) rfl (Nat.sub_self _) dX8_clauseOf_19 ?_
    refine ⟨rfl, ?_⟩
    rcases w1 with h | h
    · exact (kd_1 h.2).symm
    · exfalso; omega
theorem cl_end {t : Int → Int} {n x r w gd : Int} {s : PS} {M Mw M2 M4 : FMem} (hQ : Qs t n s M) (hf : s.1.1 = 0) (hh : Mw = st M 60 36 (sk t n s.1.2.2)) (hx : x = if sk t n s.1.2.2 < n then t (sk t n s.1.2.2) else -1) (hg : (gd = 1 ∧ x = 59) ∨ (gd = 0 ∧ x ≠ 59)) (hw : w = sk t n s.1.2.2) (wt : ((gd = 0 ∧ Mw 60 37 = 0 ∧ r = 0 ∧ M2 = st (st Mw 60 37 1) 60 38 w) ∨ (¬ (gd = 0 ∧ Mw 60 37 = 0) ∧ M2 = Mw ∧ ((r = 1 ∧ Mw 60 37 = 0) ∨ (r = 0 ∧ Mw 60 37 ≠ 0))))) (h4 : M4 = st M2 60 36 (sk t n s.1.2.2 + r)) : offS M M4 ∧ Qs t n (opE t n s) M4 := by
  have q4 := hQ.2.2.2.1 hf
  have f1 : Mw 60 37 = 0 := by rw [hh, st_at, if_neg (by decide)]; exact q4.2.1
  have f2 : Mw 60 38 = -1 := by rw [hh, st_at, if_neg (by decide)]; exact q4.2.2
  have o1 : offS M Mw := by rw [hh]; exact offS_st (offS_rfl M) (by omega)
  rcases hg with ⟨g1, g2⟩ | ⟨g1, g2⟩
  · rcases wt with z | z
    · omega
    · have hr : r = 1 := by omega
      have ho : offS M M4 := by rw [h4, z.2.1]; exact offS_st o1 (by omega)
      have hC : sk t n s.1.2.2 < n ∧ t (sk t n s.1.2.2) = 59 := by
        split at hx
        · rename_i y; exact ⟨y, by omega⟩
        · omega
      have hop : opE t n s = ((0, 0, sk t n s.1.2.2 + 1), s.2) := by unfold opE; rw [if_pos hf, if_pos hC]
      refine ⟨ho, Qs_ok hQ ho (by rw [hop]) ?_ ?_ ?_⟩
      · rw [h4, st_same, hr]
      · rw [h4, st_at, if_neg (by decide), z.2.1]; exact f1
      · rw [h4, st_at, if_neg (by decide), z.2.1]; exact f2
  · have hC : ¬ (sk t n s.1.2.2 < n ∧ t (sk t n s.1.2.2) = 59) := by
      intro y
      rw [if_pos y.1] at hx
      omega
    have hop : opE t n s = ((1, sk t n s.1.2.2, 0), s.2) := by unfold opE; rw [if_pos hf, if_neg hC]
    rcases wt with z | z
    · have ho : offS M M4 := by rw [h4, z.2.2.2]; exact offS_st (offS_st (offS_st o1 (by omega)) (by omega)) (by omega)
      refine ⟨ho, Qs_no hQ ho (by rw [hop]) (by decide) ?_ ?_⟩
      · rw [h4, st_at, if_neg (by decide), z.2.2.2, st_at, if_neg (by decide), st_same]
      · rw [h4, st_at, if_neg (by decide), z.2.2.2, st_same, hw]
    · exact absurd ⟨g1, f1⟩ z.1
/-- the draft of the reference, numbered as the class's rules -/
def dm (M : FMem) : FMem := fun c i => if c = 0 then (if i = 5 then M 60 27 else if i = 6 then M 60 28 else if i = 7 then M 60 29 else M 60 30) else if c = 5 then M 81 i else if c = 6 then M 82 i else if c = 7 then M 83 i else if c = 8 then M 84 i else M 80 (4 * i + ((c : Int) - 1))
theorem DrP_tr {P Q R : FMem} (h : DrP P Q) (h2 : DrP Q R) : DrP P R := by
  obtain ⟨a, ⟨b1, b2, b3, b4⟩, c⟩ := h
  obtain ⟨d, ⟨e1, e2, e3, e4⟩, f⟩ := h2
  exact ⟨fun x i p q u v => (a x i p q u v).trans (d x i p q u v), ⟨b1.trans e1, b2.trans e2, b3.trans e3, b4.trans e4⟩, fun x i p q u v => (c x i p q u (by rw [e4]; exact v)).trans (f x i p q u v)⟩
theorem DrP_rfl (P : FMem) : DrP P P := ⟨fun _ _ _ _ _ _ => rfl, ⟨rfl, rfl, rfl, rfl⟩, fun _ _ _ _ _ _ => rfl⟩
def offK (M M2 : FMem) : Prop := ∀ b j, ¬ (80 ≤ b ∧ b ≤ 84) → ¬ (b = 60 ∧ ((27 ≤ j ∧ j ≤ 30) ∨ (36 ≤ j ∧ j ≤ 40))) → M2 b j = M b j
theorem offK_tr {M M1 M2 : FMem} (h : offK M M1) (h2 : offK M1 M2) : offK M M2 := fun b j p q => (h2 b j p q).trans (h b j p q)
theorem offK_S {M M2 : FMem} (h : offS M M2) : offK M M2 := fun b j _ q => h b j (by omega)
theorem dm_S {M M2 : FMem} (h : offS M M2) : dm M2 = dm M := by
  funext c i
  unfold dm
  rw [h 60 27 (by omega), h 60 28 (by omega), h 60 29 (by omega), h 60 30 (by omega), h 81 i (by omega), h 82 i (by omega), h 83 i (by omega), h 84 i (by omega), h 80 _ (by omega)]
noncomputable def clM (t : Int → Int) (n kd : Int) (s : PS) : PS := if kd = 0 then clS t n s else if kd = 1 then clD t n s else if kd = 2 then clB t n s else if kd = 3 then clO t n s else clC t n s
theorem dm_sort {M M2 : FMem} {v : Int → Int} {ab : Int} (ho : off80 M M2) (hb : 0 ≤ v 0 ∧ v 0 ≤ 5) (h : ∀ j, M2 80 j = if j = 4 * v 0 + 3 then v 4 else if j = 4 * v 0 + 2 then v 3 else if j = 4 * v 0 + 1 then v 2 else if j = 4 * v 0 then v 1 else M 80 j) : DrP (dm M2) (eff 0 v ab (dm M)) := by
  have e : eff 0 v ab (dm M) = st (st (st (st (dm M) 1 (v 0) (v 1)) 2 (v 0) (v 2)) 3 (v 0) (v 3)) 4 (v 0) (v 4) := if_pos rfl
  rw [e]
  refine ⟨fun c i c1 c2 i1 i2 => ?_, ⟨?_, ?_, ?_, ?_⟩, fun c i c1 c2 i1 i2 => ?_⟩
  · have hc : c = 1 ∨ c = 2 ∨ c = 3 ∨ c = 4 ∨ c = 5 := by omega
    rcases hc with rfl | rfl | rfl | rfl | rfl
    · rw [st_cell (by decide), st_cell (by decide), st_cell (by decide), st_at]
      show M2 80 (4 * i + (1 - 1)) = if i = v 0 then v 1 else M 80 (4 * i + (1 - 1))
      rw [h, show 4 * i + (1 - 1) = 4 * i by omega, if_neg (by omega), if_neg (by omega), if_neg (by omega)]
      by_cases z : i = v 0
      · rw [if_pos z, if_pos (by omega)]
      · rw [if_neg z, if_neg (by omega)]
    · rw [st_cell (by decide), st_cell (by decide), st_at, st_cell (by decide)]
      show M2 80 (4 * i + (2 - 1)) = if i = v 0 then v 2 else M 80 (4 * i + (2 - 1))
      rw [h, show 4 * i + (2 - 1) = 4 * i + 1 by omega, if_neg (by omega), if_neg (by omega)]
      by_cases z : i = v 0
      · rw [if_pos z, if_pos (by omega)]
      · rw [if_neg z, if_neg (by omega), if_neg (by omega)]
    · rw [st_cell (by decide), st_at, st_cell (by decide), st_cell (by decide)]
      show M2 80 (4 * i + (3 - 1)) = if i = v 0 then v 3 else M 80 (4 * i + (3 - 1))
      rw [h, show 4 * i + (3 - 1) = 4 * i + 2 by omega, if_neg (by omega)]
      by_cases z : i = v 0
      · rw [if_pos z, if_pos (by omega)]
      · rw [if_neg z, if_neg (by omega), if_neg (by omega), if_neg (by omega)]
    · rw [st_at, st_cell (by decide), st_cell (by decide), st_cell (by decide)]
      show M2 80 (4 * i + (4 - 1)) = if i = v 0 then v 4 else M 80 (4 * i + (4 - 1))
      rw [h, show 4 * i + (4 - 1) = 4 * i + 3 by omega]
      by_cases z : i = v 0
      · rw [if_pos z, if_pos (by omega)]
      · rw [if_neg z, if_neg (by omega), if_neg (by omega), if_neg (by omega), if_neg (by omega)]
    · rw [st_cell (by decide), st_cell (by decide), st_cell (by decide), st_cell (by decide)]
      exact ho 81 i (by decide) (by omega)
  · exact ho 60 27 (by decide) (by omega)
  · exact ho 60 28 (by decide) (by omega)
  · exact ho 60 29 (by decide) (by omega)
  · exact ho 60 30 (by decide) (by omega)
  · rw [st_cell (by omega), st_cell (by omega), st_cell (by omega), st_cell (by omega)]
    have hc : c = 6 ∨ c = 7 ∨ c = 8 := by omega
    rcases hc with rfl | rfl | rfl
    · exact ho 82 i (by decide) (by omega)
    · exact ho 83 i (by decide) (by omega)
    · exact ho 84 i (by decide) (by omega)
theorem dm_dust {M M2 : FMem} {v : Int → Int} {ab : Int} (ho : ∀ b j, ¬ (b = 60 ∧ (j = 27 ∨ j = 28 ∨ (36 ≤ j ∧ j ≤ 40))) → M2 b j = M b j) (h1 : M2 60 27 = v 0) (h2 : M2 60 28 = v 1) : DrP (dm M2) (eff 1 v ab (dm M)) := by
  have e : eff 1 v ab (dm M) = st (st (dm M) 0 5 (v 0)) 0 6 (v 1) := (if_neg (by decide)).trans (if_pos rfl)
  rw [e]
  refine ⟨fun c i c1 c2 i1 i2 => ?_, ⟨h1, h2, ?_, ?_⟩, fun c i c1 c2 i1 i2 => ?_⟩
  · rw [st_cell (by omega), st_cell (by omega)]
    have hc : c = 1 ∨ c = 2 ∨ c = 3 ∨ c = 4 ∨ c = 5 := by omega
    rcases hc with rfl | rfl | rfl | rfl | rfl
    · exact ho 80 _ (by omega)
    · exact ho 80 _ (by omega)
    · exact ho 80 _ (by omega)
    · exact ho 80 _ (by omega)
    · exact ho 81 i (by omega)
  · exact ho 60 29 (by omega)
  · exact ho 60 30 (by omega)
  · rw [st_cell (by omega), st_cell (by omega)]
    have hc : c = 6 ∨ c = 7 ∨ c = 8 := by omega
    rcases hc with rfl | rfl | rfl
    · exact ho 82 i (by omega)
    · exact ho 83 i (by omega)
    · exact ho 84 i (by omega)
theorem dm_blur {M M2 : FMem} {v : Int → Int} {ab : Int} (ho : off81 M M2) (h : ∀ j, M2 81 j = if j = v 0 then v 1 else M 81 j) : DrP (dm M2) (eff 2 v ab (dm M)) := by
  have e : eff 2 v ab (dm M) = st (dm M) 5 (v 0) (v 1) := (if_neg (by decide)).trans ((if_neg (by decide)).trans (if_pos rfl))
  rw [e]
  refine ⟨fun c i c1 c2 i1 i2 => ?_, ⟨?_, ?_, ?_, ?_⟩, fun c i c1 c2 i1 i2 => ?_⟩
  · have hc : c = 1 ∨ c = 2 ∨ c = 3 ∨ c = 4 ∨ c = 5 := by omega
    rcases hc with rfl | rfl | rfl | rfl | rfl
    · rw [st_cell (by decide)]; exact ho 80 _ (by decide) (by omega)
    · rw [st_cell (by decide)]; exact ho 80 _ (by decide) (by omega)
    · rw [st_cell (by decide)]; exact ho 80 _ (by decide) (by omega)
    · rw [st_cell (by decide)]; exact ho 80 _ (by decide) (by omega)
    · rw [st_at]; exact h i
  · exact ho 60 27 (by decide) (by omega)
  · exact ho 60 28 (by decide) (by omega)
  · exact ho 60 29 (by decide) (by omega)
  · exact ho 60 30 (by decide) (by omega)
  · rw [st_cell (by omega)]
    have hc : c = 6 ∨ c = 7 ∨ c = 8 := by omega
    rcases hc with rfl | rfl | rfl
    · exact ho 82 i (by decide) (by omega)
    · exact ho 83 i (by decide) (by omega)
    · exact ho 84 i (by decide) (by omega)
theorem dm_own {M M2 : FMem} {v : Int → Int} {ab : Int} (ho : ∀ b j, ¬ (b = 60 ∧ (j = 29 ∨ (36 ≤ j ∧ j ≤ 40))) → M2 b j = M b j) (h1 : M2 60 29 = v 0) : DrP (dm M2) (eff 3 v ab (dm M)) := by
  have e : eff 3 v ab (dm M) = st (dm M) 0 7 (v 0) := (if_neg (by decide)).trans ((if_neg (by decide)).trans ((if_neg (by decide)).trans (if_pos rfl)))
  rw [e]
  refine ⟨fun c i c1 c2 i1 i2 => ?_, ⟨?_, ?_, h1, ?_⟩, fun c i c1 c2 i1 i2 => ?_⟩
  · rw [st_cell (by omega)]
    have hc : c = 1 ∨ c = 2 ∨ c = 3 ∨ c = 4 ∨ c = 5 := by omega
    rcases hc with rfl | rfl | rfl | rfl | rfl
    · exact ho 80 _ (by omega)
    · exact ho 80 _ (by omega)
    · exact ho 80 _ (by omega)
    · exact ho 80 _ (by omega)
    · exact ho 81 i (by omega)
  · exact ho 60 27 (by omega)
  · exact ho 60 28 (by omega)
  · exact ho 60 30 (by omega)
  · rw [st_cell (by omega)]
    have hc : c = 6 ∨ c = 7 ∨ c = 8 := by omega
    rcases hc with rfl | rfl | rfl
    · exact ho 82 i (by omega)
    · exact ho 83 i (by omega)
    · exact ho 84 i (by omega)
theorem dm_claim {M M2 : FMem} {v : Int → Int} {ab : Int} (ho : offC M M2) (h1 : M2 60 30 = M 60 30 + 1) (h : ∀ j, (M2 82 j = if j = M 60 30 then v 0 else M 82 j) ∧ (M2 83 j = if j = M 60 30 then v 1 else M 83 j) ∧ (M2 84 j = if j = M 60 30 then ab else M 84 j)) : DrP (dm M2) (eff 4 v ab (dm M)) := by
  have e : eff 4 v ab (dm M) = st (st (st (st (dm M) 6 (M 60 30) (v 0)) 8 (M 60 30) ab) 7 (M 60 30) (v 1)) 0 11 (M 60 30 + 1) := (if_neg (by decide)).trans ((if_neg (by decide)).trans ((if_neg (by decide)).trans (if_neg (by decide))))
  rw [e]
  refine ⟨fun c i c1 c2 i1 i2 => ?_, ⟨?_, ?_, ?_, h1⟩, fun c i c1 c2 i1 i2 => ?_⟩
  · rw [st_cell (by omega), st_cell (by omega), st_cell (by omega), st_cell (by omega)]
    have hc : c = 1 ∨ c = 2 ∨ c = 3 ∨ c = 4 ∨ c = 5 := by omega
    rcases hc with rfl | rfl | rfl | rfl | rfl
    · exact ho 80 _ (by decide) (by decide) (by decide) (by omega)
    · exact ho 80 _ (by decide) (by decide) (by decide) (by omega)
    · exact ho 80 _ (by decide) (by decide) (by decide) (by omega)
    · exact ho 80 _ (by decide) (by decide) (by decide) (by omega)
    · exact ho 81 i (by decide) (by decide) (by decide) (by omega)
  · exact ho 60 27 (by decide) (by decide) (by decide) (by omega)
  · exact ho 60 28 (by decide) (by decide) (by decide) (by omega)
  · exact ho 60 29 (by decide) (by decide) (by decide) (by omega)
  · have hc : c = 6 ∨ c = 7 ∨ c = 8 := by omega
    rcases hc with rfl | rfl | rfl
    · rw [st_cell (by decide), st_cell (by decide), st_cell (by decide), st_at]; exact (h i).1
    · rw [st_cell (by decide), st_at, st_cell (by decide), st_cell (by decide)]; exact (h i).2.1
    · rw [st_cell (by decide), st_cell (by decide), st_at, st_cell (by decide)]; exact (h i).2.2
