/-! ===== the reader: which clause, a clause ===== -/
theorem isW_le {t : Int → Int} {n p : Int} {j : Nat} (hj : j < 11) (h : isW t n p j) : p + wl j ≤ n ∧ p < n := by
  have hb := wl_b hj
  have h1 := (h.1 (wl j - 1) (by omega) (by omega)).1
  omega
theorem isW_c {t : Int → Int} {n p : Int} {j : Nat} (hj : j < 11) (h : isW t n p j) : t p = wc j 0 := by
  have hb := wl_b hj
  have h1 := (h.1 0 (by omega) (by omega)).2
  rwa [Int.add_zero] at h1
theorem wc_00 : wc 0 0 = 99 ∧ wc 1 0 = 115 ∧ wc 2 0 = 100 ∧ wc 3 0 = 98 ∧ wc 4 0 = 111 := by decide +kernel
theorem wl_00 : wl 0 = 5 ∧ wl 1 = 4 ∧ wl 2 = 4 ∧ wl 3 = 4 ∧ wl 4 = 3 := by decide +kernel
theorem kd_1 {t : Int → Int} {n p : Int} (h : isW t n p 1) : kdW t n p = 0 := by unfold kdW; rw [if_pos h]
theorem kd_2 {t : Int → Int} {n p : Int} (h : isW t n p 2) : kdW t n p = 1 := by
  have := isW_c (by decide) h; have := wc_00
  unfold kdW; rw [if_neg (fun z => by have := isW_c (by decide) z; omega), if_pos h]
theorem kd_3 {t : Int → Int} {n p : Int} (h : isW t n p 3) : kdW t n p = 2 := by
  have := isW_c (by decide) h; have := wc_00
  unfold kdW; rw [if_neg (fun z => by have := isW_c (by decide) z; omega), if_neg (fun z => by have := isW_c (by decide) z; omega), if_pos h]
theorem kd_4 {t : Int → Int} {n p : Int} (h : isW t n p 4) : kdW t n p = 3 := by
  have := isW_c (by decide) h; have := wc_00
  unfold kdW; rw [if_neg (fun z => by have := isW_c (by decide) z; omega), if_neg (fun z => by have := isW_c (by decide) z; omega), if_neg (fun z => by have := isW_c (by decide) z; omega), if_pos h]
theorem kd_0 {t : Int → Int} {n p : Int} (h : isW t n p 0) : kdW t n p = 4 := by
  have := isW_c (by decide) h; have := wc_00
  unfold kdW; rw [if_neg (fun z => by have := isW_c (by decide) z; omega), if_neg (fun z => by have := isW_c (by decide) z; omega), if_neg (fun z => by have := isW_c (by decide) z; omega), if_neg (fun z => by have := isW_c (by decide) z; omega), if_pos h]
theorem kd_n {t : Int → Int} {n p : Int} (h1 : ¬ isW t n p 1) (h2 : ¬ isW t n p 2) (h3 : ¬ isW t n p 3) (h4 : ¬ isW t n p 4) (h0 : ¬ isW t n p 0) : kdW t n p = -1 := by
  unfold kdW; rw [if_neg h1, if_neg h2, if_neg h3, if_neg h4, if_neg h0]
def bgC (kd c k : Int) : Int := if kd = -1 then 1 else if kd = 4 ∧ 8 ≤ c then 3 else if 20 ≤ k then 4 else 0
theorem Rs_s0 {M : FMem} {q : Int} (h2 : M 17 2 = 0) (h3 : M 17 3 = -1) : Rs M (s0 q) (st (st M 17 6 0) 17 4 q) := by
  refine ⟨offR_st (offR_st (offR_rfl M) (by omega)) (by omega), fun _ => ⟨st_same _ _ _ _, ?_, ?_, ?_, fun k a b => ?_⟩, fun z => absurd rfl z⟩
  · rw [st_at, if_neg (by decide), st_at, if_neg (by decide)]; exact h2
  · rw [st_at, if_neg (by decide), st_at, if_neg (by decide)]; exact h3
  · rw [st_at, if_neg (by decide), st_same]; rfl
  · have : k < 0 := b
    omega
set_option maxHeartbeats 1600000 in
theorem A_X2_mayBegin42 (l : Launch) (g : Cx) (M : FMem) (ahead : Int) (h0 : 0 ≤ M 17 4 ∧ M 17 4 ≤ 240) (hn : M 17 1 ≤ 240) : AMi l g true fi_X2_mayBegin [fr 17, fr 42, fi ahead] 93 M (fun q M2 => (q = 1 ∧ bgC (kdW (tx M) (M 17 1) (M 17 4)) (M 42 11) ahead = 0 ∧ M2 = M) ∨ (q = 0 ∧ bgC (kdW (tx M) (M 17 1) (M 17 4)) (M 42 11) ahead ≠ 0 ∧ M2 = st (st M 17 2 (bgC (kdW (tx M) (M 17 1) (M 17 4)) (M 42 11) ahead)) 17 3 (M 17 4))) := by
  refine AMi_intro [fr 17, fr 42, fi ahead, fu] (by decide) (knall rfl) (Nat.le_of_ble_eq_true rfl) rfl ?_
  intro hNV hM0 μ
  have bahead : N32 ahead := hNV (fi ahead) (by simp)
  refine z_aload_nr dX2_mayBegin_0 rfl ?_
  refine z_ldcs (j := 0) rfl (by decide) dX2_mayBegin_1 ?_
  refine z_callVip (n2 := 93) (A_X2_isWord l g M 0 (by decide) (h0) (hn)) cb_X2_isWord cl_X2_52 (clr0 rfl rfl (by decide) (by decide)) rfl (by decide) ⟨_, rfl, rfl⟩ rfl (by decide) rfl (Nat.le_of_ble_eq_true rfl) rfl dX2_mayBegin_3 (fun x1 bx1 hx1 => ?_)
  have w0 := hx1
  refine z_istore_n (loc2 := [fr 17, fr 42, fi ahead, fi x1]) dX2_mayBegin_6 (by decide) rfl ?_
  refine z_iload_n dX2_mayBegin_7 rfl ?_
  refine z_if_ne (tgt := 57) dX2_mayBegin_8 (by decide) (fun c2 => ?_) (fun c2 => ?_)
  · refine z_iload_n dX2_mayBegin_57 rfl ?_
    refine z_if_eq (tgt := 80) dX2_mayBegin_58 (by decide) (fun c3 => ?_) (fun c3 => ?_)
    · refine z_iload_n dX2_mayBegin_80 rfl ?_
      refine z_bipush dX2_mayBegin_81 ⟨by decide, by decide⟩ (by decide) ?_
      refine z_icmp_lt (tgt := 98) dX2_mayBegin_83 (by decide) (fun c4 => ?_) (fun c4 => ?_)
      · refine z_iconst dX2_mayBegin_98 ⟨by decide, by decide⟩ ?_
        refine z_goto (tgt := 103) dX2_mayBegin_99 (by decide) ?_
        refine z_zret rfl (by omega) (by decide) rfl (Nat.sub_self _) dX2_mayBegin_103 ?_
        have hk : 0 ≤ (kdW (tx M) (M 17 1) (M 17 4)) ∧ (kdW (tx M) (M 17 1) (M 17 4)) ≤ 4 ∧ ¬ ((kdW (tx M) (M 17 1) (M 17 4)) = 4 ∧ 8 ≤ M 42 11) := by
          first
          | (have hq : (kdW (tx M) (M 17 1) (M 17 4)) = 4 := by
               rcases w0 with h | h
               · exact kd_0 h.2
               · exfalso; omega
             omega)
          | (have hq : (kdW (tx M) (M 17 1) (M 17 4)) = 0 := by
               rcases w1 with h | h
               · exact kd_1 h.2
               · exfalso; omega
             omega)
          | (have hq : (kdW (tx M) (M 17 1) (M 17 4)) = 1 := by
               rcases w2 with h | h
               · exact kd_2 h.2
               · exfalso; omega
             omega)
          | (have hq : (kdW (tx M) (M 17 1) (M 17 4)) = 2 := by
               rcases w3 with h | h
               · exact kd_3 h.2
               · exfalso; omega
             omega)
          | (have hq : (kdW (tx M) (M 17 1) (M 17 4)) = 3 := by
               rcases w4 with h | h
               · exact kd_4 h.2
               · exfalso; omega
             omega)
        first
        | (have hb : bgC (kdW (tx M) (M 17 1) (M 17 4)) (M 42 11) ahead = 0 := by unfold bgC; rw [if_neg (by omega), if_neg hk.2.2, if_neg (by omega)]
           rw [hb]
           exact Or.inl ⟨rfl, rfl, rfl⟩)
        | (have hb : bgC (kdW (tx M) (M 17 1) (M 17 4)) (M 42 11) ahead = 4 := by unfold bgC; rw [if_neg (by omega), if_neg hk.2.2, if_pos (by omega)]
           rw [hb]
           refine Or.inr ⟨rfl, by decide, ?_⟩
           rw [hfl.2, epf])
        | (exfalso; omega)
      · refine z_aload_nr dX2_mayBegin_86 rfl ?_
        refine z_iconst dX2_mayBegin_87 ⟨by decide, by decide⟩ ?_
        refine z_aload_nr dX2_mayBegin_88 rfl ?_
        refine z_geti (kz := 4) fl_X2_25 rfl (by decide) rfl dX2_mayBegin_89 (fun x5 hx5 bx5 => ?_)
        have epf : x5 = M 17 4 := by omega
        refine z_callVi (n2 := 93) (A_X2_fail l g M 4 x5) cb_X2_fail cl_X2_64 (clr0 rfl rfl (by decide) (by decide)) rfl (by decide) ⟨_, rfl, rfl⟩ rfl (by decide) rfl (Nat.le_of_ble_eq_true rfl) rfl dX2_mayBegin_92 (fun x6 Mz6 bx6 kMz6 hc6 => ?_)
        have hfl := hc6
        refine z_if_eq (tgt := 102) dX2_mayBegin_95 (by decide) (fun c7 => ?_) (fun c7 => ?_)
        · refine z_iconst dX2_mayBegin_102 ⟨by decide, by decide⟩ ?_
          refine z_zret rfl (by omega) (by decide) rfl (Nat.sub_self _) dX2_mayBegin_103 ?_
          have hk : 0 ≤ (kdW (tx M) (M 17 1) (M 17 4)) ∧ (kdW (tx M) (M 17 1) (M 17 4)) ≤ 4 ∧ ¬ ((kdW (tx M) (M 17 1) (M 17 4)) = 4 ∧ 8 ≤ M 42 11) := by
            first
            | (have hq : (kdW (tx M) (M 17 1) (M 17 4)) = 4 := by
                 rcases w0 with h | h
                 · exact kd_0 h.2
                 · exfalso; omega
               omega)
            | (have hq : (kdW (tx M) (M 17 1) (M 17 4)) = 0 := by
                 rcases w1 with h | h
                 · exact kd_1 h.2
                 · exfalso; omega
               omega)
            | (have hq : (kdW (tx M) (M 17 1) (M 17 4)) = 1 := by
                 rcases w2 with h | h
                 · exact kd_2 h.2
                 · exfalso; omega
               omega)
            | (have hq : (kdW (tx M) (M 17 1) (M 17 4)) = 2 := by
                 rcases w3 with h | h
                 · exact kd_3 h.2
                 · exfalso; omega
               omega)
            | (have hq : (kdW (tx M) (M 17 1) (M 17 4)) = 3 := by
                 rcases w4 with h | h
                 · exact kd_4 h.2
                 · exfalso; omega
               omega)
          first
          | (have hb : bgC (kdW (tx M) (M 17 1) (M 17 4)) (M 42 11) ahead = 0 := by unfold bgC; rw [if_neg (by omega), if_neg hk.2.2, if_neg (by omega)]
             rw [hb]
             exact Or.inl ⟨rfl, rfl, rfl⟩)
          | (have hb : bgC (kdW (tx M) (M 17 1) (M 17 4)) (M 42 11) ahead = 4 := by unfold bgC; rw [if_neg (by omega), if_neg hk.2.2, if_pos (by omega)]
             rw [hb]
             refine Or.inr ⟨rfl, by decide, ?_⟩
             rw [hfl.2, epf])
          | (exfalso; omega)
        · refine z_iconst dX2_mayBegin_98 ⟨by decide, by decide⟩ ?_
          refine z_goto (tgt := 103) dX2_mayBegin_99 (by decide) ?_
          refine z_zret rfl (by omega) (by decide) rfl (Nat.sub_self _) dX2_mayBegin_103 ?_
          have hk : 0 ≤ (kdW (tx M) (M 17 1) (M 17 4)) ∧ (kdW (tx M) (M 17 1) (M 17 4)) ≤ 4 ∧ ¬ ((kdW (tx M) (M 17 1) (M 17 4)) = 4 ∧ 8 ≤ M 42 11) := by
            first
            | (have hq : (kdW (tx M) (M 17 1) (M 17 4)) = 4 := by
                 rcases w0 with h | h
                 · exact kd_0 h.2
                 · exfalso; omega
               omega)
            | (have hq : (kdW (tx M) (M 17 1) (M 17 4)) = 0 := by
                 rcases w1 with h | h
                 · exact kd_1 h.2
                 · exfalso; omega
               omega)
            | (have hq : (kdW (tx M) (M 17 1) (M 17 4)) = 1 := by
                 rcases w2 with h | h
                 · exact kd_2 h.2
                 · exfalso; omega
               omega)
            | (have hq : (kdW (tx M) (M 17 1) (M 17 4)) = 2 := by
                 rcases w3 with h | h
                 · exact kd_3 h.2
                 · exfalso; omega
               omega)
            | (have hq : (kdW (tx M) (M 17 1) (M 17 4)) = 3 := by
                 rcases w4 with h | h
                 · exact kd_4 h.2
                 · exfalso; omega
               omega)
          first
          | (have hb : bgC (kdW (tx M) (M 17 1) (M 17 4)) (M 42 11) ahead = 0 := by unfold bgC; rw [if_neg (by omega), if_neg hk.2.2, if_neg (by omega)]
             rw [hb]
             exact Or.inl ⟨rfl, rfl, rfl⟩)
          | (have hb : bgC (kdW (tx M) (M 17 1) (M 17 4)) (M 42 11) ahead = 4 := by unfold bgC; rw [if_neg (by omega), if_neg hk.2.2, if_pos (by omega)]
             rw [hb]
             refine Or.inr ⟨rfl, by decide, ?_⟩
             rw [hfl.2, epf])
          | (exfalso; omega)
    · refine z_aload_nr dX2_mayBegin_61 rfl ?_
      refine z_geti (kz := 11) fl_X2_68 rfl (by decide) rfl dX2_mayBegin_62 (fun x8 hx8 bx8 => ?_)
      refine z_bipush dX2_mayBegin_65 ⟨by decide, by decide⟩ (by decide) ?_
      refine z_icmp_lt (tgt := 80) dX2_mayBegin_67 (by decide) (fun c9 => ?_) (fun c9 => ?_)
      · refine z_iload_n dX2_mayBegin_80 rfl ?_
        refine z_bipush dX2_mayBegin_81 ⟨by decide, by decide⟩ (by decide) ?_
        refine z_icmp_lt (tgt := 98) dX2_mayBegin_83 (by decide) (fun c10 => ?_) (fun c10 => ?_)
        · refine z_iconst dX2_mayBegin_98 ⟨by decide, by decide⟩ ?_
          refine z_goto (tgt := 103) dX2_mayBegin_99 (by decide) ?_
          refine z_zret rfl (by omega) (by decide) rfl (Nat.sub_self _) dX2_mayBegin_103 ?_
          have hk : 0 ≤ (kdW (tx M) (M 17 1) (M 17 4)) ∧ (kdW (tx M) (M 17 1) (M 17 4)) ≤ 4 ∧ ¬ ((kdW (tx M) (M 17 1) (M 17 4)) = 4 ∧ 8 ≤ M 42 11) := by
            first
            | (have hq : (kdW (tx M) (M 17 1) (M 17 4)) = 4 := by
                 rcases w0 with h | h
                 · exact kd_0 h.2
                 · exfalso; omega
               omega)
            | (have hq : (kdW (tx M) (M 17 1) (M 17 4)) = 0 := by
                 rcases w1 with h | h
                 · exact kd_1 h.2
                 · exfalso; omega
               omega)
            | (have hq : (kdW (tx M) (M 17 1) (M 17 4)) = 1 := by
                 rcases w2 with h | h
                 · exact kd_2 h.2
                 · exfalso; omega
               omega)
            | (have hq : (kdW (tx M) (M 17 1) (M 17 4)) = 2 := by
                 rcases w3 with h | h
                 · exact kd_3 h.2
                 · exfalso; omega
               omega)
            | (have hq : (kdW (tx M) (M 17 1) (M 17 4)) = 3 := by
                 rcases w4 with h | h
                 · exact kd_4 h.2
                 · exfalso; omega
               omega)
          first
          | (have hb : bgC (kdW (tx M) (M 17 1) (M 17 4)) (M 42 11) ahead = 0 := by unfold bgC; rw [if_neg (by omega), if_neg hk.2.2, if_neg (by omega)]
             rw [hb]
             exact Or.inl ⟨rfl, rfl, rfl⟩)
          | (have hb : bgC (kdW (tx M) (M 17 1) (M 17 4)) (M 42 11) ahead = 4 := by unfold bgC; rw [if_neg (by omega), if_neg hk.2.2, if_pos (by omega)]
             rw [hb]
             refine Or.inr ⟨rfl, by decide, ?_⟩
             rw [hfl.2, epf])
          | (exfalso; omega)
        · refine z_aload_nr dX2_mayBegin_86 rfl ?_
          refine z_iconst dX2_mayBegin_87 ⟨by decide, by decide⟩ ?_
          refine z_aload_nr dX2_mayBegin_88 rfl ?_
          refine z_geti (kz := 4) fl_X2_25 rfl (by decide) rfl dX2_mayBegin_89 (fun x11 hx11 bx11 => ?_)
          have epf : x11 = M 17 4 := by omega
          refine z_callVi (n2 := 93) (A_X2_fail l g M 4 x11) cb_X2_fail cl_X2_64 (clr0 rfl rfl (by decide) (by decide)) rfl (by decide) ⟨_, rfl, rfl⟩ rfl (by decide) rfl (Nat.le_of_ble_eq_true rfl) rfl dX2_mayBegin_92 (fun x12 Mz12 bx12 kMz12 hc12 => ?_)
          have hfl := hc12
          refine z_if_eq (tgt := 102) dX2_mayBegin_95 (by decide) (fun c13 => ?_) (fun c13 => ?_)
          · refine z_iconst dX2_mayBegin_102 ⟨by decide, by decide⟩ ?_
            refine z_zret rfl (by omega) (by decide) rfl (Nat.sub_self _) dX2_mayBegin_103 ?_
            have hk : 0 ≤ (kdW (tx M) (M 17 1) (M 17 4)) ∧ (kdW (tx M) (M 17 1) (M 17 4)) ≤ 4 ∧ ¬ ((kdW (tx M) (M 17 1) (M 17 4)) = 4 ∧ 8 ≤ M 42 11) := by
              first
              | (have hq : (kdW (tx M) (M 17 1) (M 17 4)) = 4 := by
                   rcases w0 with h | h
                   · exact kd_0 h.2
                   · exfalso; omega
                 omega)
              | (have hq : (kdW (tx M) (M 17 1) (M 17 4)) = 0 := by
                   rcases w1 with h | h
                   · exact kd_1 h.2
                   · exfalso; omega
                 omega)
              | (have hq : (kdW (tx M) (M 17 1) (M 17 4)) = 1 := by
                   rcases w2 with h | h
                   · exact kd_2 h.2
                   · exfalso; omega
                 omega)
              | (have hq : (kdW (tx M) (M 17 1) (M 17 4)) = 2 := by
                   rcases w3 with h | h
                   · exact kd_3 h.2
                   · exfalso; omega
                 omega)
              | (have hq : (kdW (tx M) (M 17 1) (M 17 4)) = 3 := by
                   rcases w4 with h | h
                   · exact kd_4 h.2
                   · exfalso; omega
                 omega)
            first
            | (have hb : bgC (kdW (tx M) (M 17 1) (M 17 4)) (M 42 11) ahead = 0 := by unfold bgC; rw [if_neg (by omega), if_neg hk.2.2, if_neg (by omega)]
               rw [hb]
               exact Or.inl ⟨rfl, rfl, rfl⟩)
            | (have hb : bgC (kdW (tx M) (M 17 1) (M 17 4)) (M 42 11) ahead = 4 := by unfold bgC; rw [if_neg (by omega), if_neg hk.2.2, if_pos (by omega)]
               rw [hb]
               refine Or.inr ⟨rfl, by decide, ?_⟩
               rw [hfl.2, epf])
            | (exfalso; omega)
          · refine z_iconst dX2_mayBegin_98 ⟨by decide, by decide⟩ ?_
            refine z_goto (tgt := 103) dX2_mayBegin_99 (by decide) ?_
            refine z_zret rfl (by omega) (by decide) rfl (Nat.sub_self _) dX2_mayBegin_103 ?_
            have hk : 0 ≤ (kdW (tx M) (M 17 1) (M 17 4)) ∧ (kdW (tx M) (M 17 1) (M 17 4)) ≤ 4 ∧ ¬ ((kdW (tx M) (M 17 1) (M 17 4)) = 4 ∧ 8 ≤ M 42 11) := by
              first
              | (have hq : (kdW (tx M) (M 17 1) (M 17 4)) = 4 := by
                   rcases w0 with h | h
                   · exact kd_0 h.2
                   · exfalso; omega
                 omega)
              | (have hq : (kdW (tx M) (M 17 1) (M 17 4)) = 0 := by
                   rcases w1 with h | h
                   · exact kd_1 h.2
                   · exfalso; omega
                 omega)
              | (have hq : (kdW (tx M) (M 17 1) (M 17 4)) = 1 := by
                   rcases w2 with h | h
                   · exact kd_2 h.2
                   · exfalso; omega
                 omega)
              | (have hq : (kdW (tx M) (M 17 1) (M 17 4)) = 2 := by
                   rcases w3 with h | h
                   · exact kd_3 h.2
                   · exfalso; omega
                 omega)
              | (have hq : (kdW (tx M) (M 17 1) (M 17 4)) = 3 := by
                   rcases w4 with h | h
                   · exact kd_4 h.2
                   · exfalso; omega
                 omega)
            first
            | (have hb : bgC (kdW (tx M) (M 17 1) (M 17 4)) (M 42 11) ahead = 0 := by unfold bgC; rw [if_neg (by omega), if_neg hk.2.2, if_neg (by omega)]
               rw [hb]
               exact Or.inl ⟨rfl, rfl, rfl⟩)
            | (have hb : bgC (kdW (tx M) (M 17 1) (M 17 4)) (M 42 11) ahead = 4 := by unfold bgC; rw [if_neg (by omega), if_neg hk.2.2, if_pos (by omega)]
               rw [hb]
               refine Or.inr ⟨rfl, by decide, ?_⟩
               rw [hfl.2, epf])
            | (exfalso; omega)
      · refine z_aload_nr dX2_mayBegin_70 rfl ?_
        refine z_iconst dX2_mayBegin_71 ⟨by decide, by decide⟩ ?_
        refine z_aload_nr dX2_mayBegin_72 rfl ?_
        refine z_geti (kz := 4) fl_X2_25 rfl (by decide) rfl dX2_mayBegin_73 (fun x14 hx14 bx14 => ?_)
        have epf : x14 = M 17 4 := by omega
        refine z_callVi (n2 := 93) (A_X2_fail l g M 3 x14) cb_X2_fail cl_X2_64 (clr0 rfl rfl (by decide) (by decide)) rfl (by decide) ⟨_, rfl, rfl⟩ rfl (by decide) rfl (Nat.le_of_ble_eq_true rfl) rfl dX2_mayBegin_76 (fun x15 Mz15 bx15 kMz15 hc15 => ?_)
        have hfl := hc15
        refine z_zret rfl (by omega) (by decide) rfl (Nat.sub_self _) dX2_mayBegin_79 ?_
        have hk : (kdW (tx M) (M 17 1) (M 17 4)) = 4 := by
          rcases w0 with h | h
          · exact kd_0 h.2
          · exfalso; omega
        have hb : bgC (kdW (tx M) (M 17 1) (M 17 4)) (M 42 11) ahead = 3 := by unfold bgC; rw [if_neg (by omega), if_pos (by omega)]
        rw [hb]
        refine Or.inr ⟨hfl.1, by decide, ?_⟩
        rw [hfl.2, epf]
  · refine z_aload_nr dX2_mayBegin_11 rfl ?_
    refine z_ldcs (j := 1) rfl (by decide) dX2_mayBegin_12 ?_
    refine z_callVip (n2 := 93) (A_X2_isWord l g M 1 (by decide) (h0) (hn)) cb_X2_isWord cl_X2_52 (clr0 rfl rfl (by decide) (by decide)) rfl (by decide) ⟨_, rfl, rfl⟩ rfl (by decide) rfl (Nat.le_of_ble_eq_true rfl) rfl dX2_mayBegin_14 (fun x16 bx16 hx16 => ?_)
    have w1 := hx16
    refine z_if_ne (tgt := 57) dX2_mayBegin_17 (by decide) (fun c17 => ?_) (fun c17 => ?_)
    · refine z_iload_n dX2_mayBegin_57 rfl ?_
      refine z_if_eq (tgt := 80) dX2_mayBegin_58 (by decide) (fun c18 => ?_) (fun c18 => ?_)
      · refine z_iload_n dX2_mayBegin_80 rfl ?_
        refine z_bipush dX2_mayBegin_81 ⟨by decide, by decide⟩ (by decide) ?_
        refine z_icmp_lt (tgt := 98) dX2_mayBegin_83 (by decide) (fun c19 => ?_) (fun c19 => ?_)
        · refine z_iconst dX2_mayBegin_98 ⟨by decide, by decide⟩ ?_
          refine z_goto (tgt := 103) dX2_mayBegin_99 (by decide) ?_
          refine z_zret rfl (by omega) (by decide) rfl (Nat.sub_self _) dX2_mayBegin_103 ?_
          have hk : 0 ≤ (kdW (tx M) (M 17 1) (M 17 4)) ∧ (kdW (tx M) (M 17 1) (M 17 4)) ≤ 4 ∧ ¬ ((kdW (tx M) (M 17 1) (M 17 4)) = 4 ∧ 8 ≤ M 42 11) := by
            first
            | (have hq : (kdW (tx M) (M 17 1) (M 17 4)) = 4 := by
                 rcases w0 with h | h
                 · exact kd_0 h.2
                 · exfalso; omega
               omega)
            | (have hq : (kdW (tx M) (M 17 1) (M 17 4)) = 0 := by
                 rcases w1 with h | h
                 · exact kd_1 h.2
                 · exfalso; omega
               omega)
            | (have hq : (kdW (tx M) (M 17 1) (M 17 4)) = 1 := by
                 rcases w2 with h | h
                 · exact kd_2 h.2
                 · exfalso; omega
               omega)
            | (have hq : (kdW (tx M) (M 17 1) (M 17 4)) = 2 := by
                 rcases w3 with h | h
                 · exact kd_3 h.2
                 · exfalso; omega
               omega)
            | (have hq : (kdW (tx M) (M 17 1) (M 17 4)) = 3 := by
                 rcases w4 with h | h
                 · exact kd_4 h.2
                 · exfalso; omega
               omega)
          first
          | (have hb : bgC (kdW (tx M) (M 17 1) (M 17 4)) (M 42 11) ahead = 0 := by unfold bgC; rw [if_neg (by omega), if_neg hk.2.2, if_neg (by omega)]
             rw [hb]
             exact Or.inl ⟨rfl, rfl, rfl⟩)
          | (have hb : bgC (kdW (tx M) (M 17 1) (M 17 4)) (M 42 11) ahead = 4 := by unfold bgC; rw [if_neg (by omega), if_neg hk.2.2, if_pos (by omega)]
             rw [hb]
             refine Or.inr ⟨rfl, by decide, ?_⟩
             rw [hfl.2, epf])
          | (exfalso; omega)
        · refine z_aload_nr dX2_mayBegin_86 rfl ?_
          refine z_iconst dX2_mayBegin_87 ⟨by decide, by decide⟩ ?_
          refine z_aload_nr dX2_mayBegin_88 rfl ?_
          refine z_geti (kz := 4) fl_X2_25 rfl (by decide) rfl dX2_mayBegin_89 (fun x20 hx20 bx20 => ?_)
          have epf : x20 = M 17 4 := by omega
          refine z_callVi (n2 := 93) (A_X2_fail l g M 4 x20) cb_X2_fail cl_X2_64 (clr0 rfl rfl (by decide) (by decide)) rfl (by decide) ⟨_, rfl, rfl⟩ rfl (by decide) rfl (Nat.le_of_ble_eq_true rfl) rfl dX2_mayBegin_92 (fun x21 Mz21 bx21 kMz21 hc21 => ?_)
          have hfl := hc21
          refine z_if_eq (tgt := 102) dX2_mayBegin_95 (by decide) (fun c22 => ?_) (fun c22 => ?_)
          · refine z_iconst dX2_mayBegin_102 ⟨by decide, by decide⟩ ?_
            refine z_zret rfl (by omega) (by decide) rfl (Nat.sub_self _) dX2_mayBegin_103 ?_
            have hk : 0 ≤ (kdW (tx M) (M 17 1) (M 17 4)) ∧ (kdW (tx M) (M 17 1) (M 17 4)) ≤ 4 ∧ ¬ ((kdW (tx M) (M 17 1) (M 17 4)) = 4 ∧ 8 ≤ M 42 11) := by
              first
              | (have hq : (kdW (tx M) (M 17 1) (M 17 4)) = 4 := by
                   rcases w0 with h | h
                   · exact kd_0 h.2
                   · exfalso; omega
                 omega)
              | (have hq : (kdW (tx M) (M 17 1) (M 17 4)) = 0 := by
                   rcases w1 with h | h
                   · exact kd_1 h.2
                   · exfalso; omega
                 omega)
              | (have hq : (kdW (tx M) (M 17 1) (M 17 4)) = 1 := by
                   rcases w2 with h | h
                   · exact kd_2 h.2
                   · exfalso; omega
                 omega)
              | (have hq : (kdW (tx M) (M 17 1) (M 17 4)) = 2 := by
                   rcases w3 with h | h
                   · exact kd_3 h.2
                   · exfalso; omega
                 omega)
              | (have hq : (kdW (tx M) (M 17 1) (M 17 4)) = 3 := by
                   rcases w4 with h | h
                   · exact kd_4 h.2
                   · exfalso; omega
                 omega)
            first
            | (have hb : bgC (kdW (tx M) (M 17 1) (M 17 4)) (M 42 11) ahead = 0 := by unfold bgC; rw [if_neg (by omega), if_neg hk.2.2, if_neg (by omega)]
               rw [hb]
               exact Or.inl ⟨rfl, rfl, rfl⟩)
            | (have hb : bgC (kdW (tx M) (M 17 1) (M 17 4)) (M 42 11) ahead = 4 := by unfold bgC; rw [if_neg (by omega), if_neg hk.2.2, if_pos (by omega)]
               rw [hb]
               refine Or.inr ⟨rfl, by decide, ?_⟩
               rw [hfl.2, epf])
            | (exfalso; omega)
          · refine z_iconst dX2_mayBegin_98 ⟨by decide, by decide⟩ ?_
            refine z_goto (tgt := 103) dX2_mayBegin_99 (by decide) ?_
            refine z_zret rfl (by omega) (by decide) rfl (Nat.sub_self _) dX2_mayBegin_103 ?_
            have hk : 0 ≤ (kdW (tx M) (M 17 1) (M 17 4)) ∧ (kdW (tx M) (M 17 1) (M 17 4)) ≤ 4 ∧ ¬ ((kdW (tx M) (M 17 1) (M 17 4)) = 4 ∧ 8 ≤ M 42 11) := by
              first
              | (have hq : (kdW (tx M) (M 17 1) (M 17 4)) = 4 := by
                   rcases w0 with h | h
                   · exact kd_0 h.2
                   · exfalso; omega
                 omega)
              | (have hq : (kdW (tx M) (M 17 1) (M 17 4)) = 0 := by
                   rcases w1 with h | h
                   · exact kd_1 h.2
                   · exfalso; omega
                 omega)
              | (have hq : (kdW (tx M) (M 17 1) (M 17 4)) = 1 := by
                   rcases w2 with h | h
                   · exact kd_2 h.2
                   · exfalso; omega
                 omega)
              | (have hq : (kdW (tx M) (M 17 1) (M 17 4)) = 2 := by
                   rcases w3 with h | h
                   · exact kd_3 h.2
                   · exfalso; omega
                 omega)
              | (have hq : (kdW (tx M) (M 17 1) (M 17 4)) = 3 := by
                   rcases w4 with h | h
                   · exact kd_4 h.2
                   · exfalso; omega
                 omega)
            first
            | (have hb : bgC (kdW (tx M) (M 17 1) (M 17 4)) (M 42 11) ahead = 0 := by unfold bgC; rw [if_neg (by omega), if_neg hk.2.2, if_neg (by omega)]
               rw [hb]
               exact Or.inl ⟨rfl, rfl, rfl⟩)
            | (have hb : bgC (kdW (tx M) (M 17 1) (M 17 4)) (M 42 11) ahead = 4 := by unfold bgC; rw [if_neg (by omega), if_neg hk.2.2, if_pos (by omega)]
               rw [hb]
               refine Or.inr ⟨rfl, by decide, ?_⟩
               rw [hfl.2, epf])
            | (exfalso; omega)
      · refine z_aload_nr dX2_mayBegin_61 rfl ?_
        refine z_geti (kz := 11) fl_X2_68 rfl (by decide) rfl dX2_mayBegin_62 (fun x23 hx23 bx23 => ?_)
        refine z_bipush dX2_mayBegin_65 ⟨by decide, by decide⟩ (by decide) ?_
        refine z_icmp_lt (tgt := 80) dX2_mayBegin_67 (by decide) (fun c24 => ?_) (fun c24 => ?_)
        · refine z_iload_n dX2_mayBegin_80 rfl ?_
          refine z_bipush dX2_mayBegin_81 ⟨by decide, by decide⟩ (by decide) ?_
          refine z_icmp_lt (tgt := 98) dX2_mayBegin_83 (by decide) (fun c25 => ?_) (fun c25 => ?_)
          · refine z_iconst dX2_mayBegin_98 ⟨by decide, by decide⟩ ?_
            refine z_goto (tgt := 103) dX2_mayBegin_99 (by decide) ?_
            refine z_zret rfl (by omega) (by decide) rfl (Nat.sub_self _) dX2_mayBegin_103 ?_
            have hk : 0 ≤ (kdW (tx M) (M 17 1) (M 17 4)) ∧ (kdW (tx M) (M 17 1) (M 17 4)) ≤ 4 ∧ ¬ ((kdW (tx M) (M 17 1) (M 17 4)) = 4 ∧ 8 ≤ M 42 11) := by
              first
              | (have hq : (kdW (tx M) (M 17 1) (M 17 4)) = 4 := by
                   rcases w0 with h | h
                   · exact kd_0 h.2
                   · exfalso; omega
                 omega)
              | (have hq : (kdW (tx M) (M 17 1) (M 17 4)) = 0 := by
                   rcases w1 with h | h
                   · exact kd_1 h.2
                   · exfalso; omega
                 omega)
              | (have hq : (kdW (tx M) (M 17 1) (M 17 4)) = 1 := by
                   rcases w2 with h | h
                   · exact kd_2 h.2
                   · exfalso; omega
                 omega)
              | (have hq : (kdW (tx M) (M 17 1) (M 17 4)) = 2 := by
                   rcases w3 with h | h
                   · exact kd_3 h.2
                   · exfalso; omega
                 omega)
              | (have hq : (kdW (tx M) (M 17 1) (M 17 4)) = 3 := by
                   rcases w4 with h | h
                   · exact kd_4 h.2
                   · exfalso; omega
                 omega)
            first
            | (have hb : bgC (kdW (tx M) (M 17 1) (M 17 4)) (M 42 11) ahead = 0 := by unfold bgC; rw [if_neg (by omega), if_neg hk.2.2, if_neg (by omega)]
               rw [hb]
               exact Or.inl ⟨rfl, rfl, rfl⟩)
            | (have hb : bgC (kdW (tx M) (M 17 1) (M 17 4)) (M 42 11) ahead = 4 := by unfold bgC; rw [if_neg (by omega), if_neg hk.2.2, if_pos (by omega)]
               rw [hb]
               refine Or.inr ⟨rfl, by decide, ?_⟩
               rw [hfl.2, epf])
            | (exfalso; omega)
          · refine z_aload_nr dX2_mayBegin_86 rfl ?_
            refine z_iconst dX2_mayBegin_87 ⟨by decide, by decide⟩ ?_
            refine z_aload_nr dX2_mayBegin_88 rfl ?_
            refine z_geti (kz := 4) fl_X2_25 rfl (by decide) rfl dX2_mayBegin_89 (fun x26 hx26 bx26 => ?_)
            have epf : x26 = M 17 4 := by omega
            refine z_callVi (n2 := 93) (A_X2_fail l g M 4 x26) cb_X2_fail cl_X2_64 (clr0 rfl rfl (by decide) (by decide)) rfl (by decide) ⟨_, rfl, rfl⟩ rfl (by decide) rfl (Nat.le_of_ble_eq_true rfl) rfl dX2_mayBegin_92 (fun x27 Mz27 bx27 kMz27 hc27 => ?_)
            have hfl := hc27
            refine z_if_eq (tgt := 102) dX2_mayBegin_95 (by decide) (fun c28 => ?_) (fun c28 => ?_)
            · refine z_iconst dX2_mayBegin_102 ⟨by decide, by decide⟩ ?_
              refine z_zret rfl (by omega) (by decide) rfl (Nat.sub_self _) dX2_mayBegin_103 ?_
              have hk : 0 ≤ (kdW (tx M) (M 17 1) (M 17 4)) ∧ (kdW (tx M) (M 17 1) (M 17 4)) ≤ 4 ∧ ¬ ((kdW (tx M) (M 17 1) (M 17 4)) = 4 ∧ 8 ≤ M 42 11) := by
                first
                | (have hq : (kdW (tx M) (M 17 1) (M 17 4)) = 4 := by
                     rcases w0 with h | h
                     · exact kd_0 h.2
                     · exfalso; omega
                   omega)
                | (have hq : (kdW (tx M) (M 17 1) (M 17 4)) = 0 := by
                     rcases w1 with h | h
                     · exact kd_1 h.2
                     · exfalso; omega
                   omega)
                | (have hq : (kdW (tx M) (M 17 1) (M 17 4)) = 1 := by
                     rcases w2 with h | h
                     · exact kd_2 h.2
                     · exfalso; omega
                   omega)
                | (have hq : (kdW (tx M) (M 17 1) (M 17 4)) = 2 := by
                     rcases w3 with h | h
                     · exact kd_3 h.2
                     · exfalso; omega
                   omega)
                | (have hq : (kdW (tx M) (M 17 1) (M 17 4)) = 3 := by
                     rcases w4 with h | h
                     · exact kd_4 h.2
                     · exfalso; omega
                   omega)
              first
              | (have hb : bgC (kdW (tx M) (M 17 1) (M 17 4)) (M 42 11) ahead = 0 := by unfold bgC; rw [if_neg (by omega), if_neg hk.2.2, if_neg (by omega)]
                 rw [hb]
                 exact Or.inl ⟨rfl, rfl, rfl⟩)
              | (have hb : bgC (kdW (tx M) (M 17 1) (M 17 4)) (M 42 11) ahead = 4 := by unfold bgC; rw [if_neg (by omega), if_neg hk.2.2, if_pos (by omega)]
                 rw [hb]
                 refine Or.inr ⟨rfl, by decide, ?_⟩
                 rw [hfl.2, epf])
              | (exfalso; omega)
            · refine z_iconst dX2_mayBegin_98 ⟨by decide, by decide⟩ ?_
              refine z_goto (tgt := 103) dX2_mayBegin_99 (by decide) ?_
              refine z_zret rfl (by omega) (by decide) rfl (Nat.sub_self _) dX2_mayBegin_103 ?_
              have hk : 0 ≤ (kdW (tx M) (M 17 1) (M 17 4)) ∧ (kdW (tx M) (M 17 1) (M 17 4)) ≤ 4 ∧ ¬ ((kdW (tx M) (M 17 1) (M 17 4)) = 4 ∧ 8 ≤ M 42 11) := by
                first
                | (have hq : (kdW (tx M) (M 17 1) (M 17 4)) = 4 := by
                     rcases w0 with h | h
                     · exact kd_0 h.2
                     · exfalso; omega
                   omega)
                | (have hq : (kdW (tx M) (M 17 1) (M 17 4)) = 0 := by
                     rcases w1 with h | h
                     · exact kd_1 h.2
                     · exfalso; omega
                   omega)
                | (have hq : (kdW (tx M) (M 17 1) (M 17 4)) = 1 := by
                     rcases w2 with h | h
                     · exact kd_2 h.2
                     · exfalso; omega
                   omega)
                | (have hq : (kdW (tx M) (M 17 1) (M 17 4)) = 2 := by
                     rcases w3 with h | h
                     · exact kd_3 h.2
                     · exfalso; omega
                   omega)
                | (have hq : (kdW (tx M) (M 17 1) (M 17 4)) = 3 := by
                     rcases w4 with h | h
                     · exact kd_4 h.2
                     · exfalso; omega
                   omega)
              first
              | (have hb : bgC (kdW (tx M) (M 17 1) (M 17 4)) (M 42 11) ahead = 0 := by unfold bgC; rw [if_neg (by omega), if_neg hk.2.2, if_neg (by omega)]
                 rw [hb]
                 exact Or.inl ⟨rfl, rfl, rfl⟩)
              | (have hb : bgC (kdW (tx M) (M 17 1) (M 17 4)) (M 42 11) ahead = 4 := by unfold bgC; rw [if_neg (by omega), if_neg hk.2.2, if_pos (by omega)]
                 rw [hb]
                 refine Or.inr ⟨rfl, by decide, ?_⟩
                 rw [hfl.2, epf])
              | (exfalso; omega)
        · refine z_aload_nr dX2_mayBegin_70 rfl ?_
          refine z_iconst dX2_mayBegin_71 ⟨by decide, by decide⟩ ?_
          refine z_aload_nr dX2_mayBegin_72 rfl ?_
          refine z_geti (kz := 4) fl_X2_25 rfl (by decide) rfl dX2_mayBegin_73 (fun x29 hx29 bx29 => ?_)
          have epf : x29 = M 17 4 := by omega
          refine z_callVi (n2 := 93) (A_X2_fail l g M 3 x29) cb_X2_fail cl_X2_64 (clr0 rfl rfl (by decide) (by decide)) rfl (by decide) ⟨_, rfl, rfl⟩ rfl (by decide) rfl (Nat.le_of_ble_eq_true rfl) rfl dX2_mayBegin_76 (fun x30 Mz30 bx30 kMz30 hc30 => ?_)
          have hfl := hc30
          refine z_zret rfl (by omega) (by decide) rfl (Nat.sub_self _) dX2_mayBegin_79 ?_
          have hk : (kdW (tx M) (M 17 1) (M 17 4)) = 4 := by
            rcases w0 with h | h
            · exact kd_0 h.2
            · exfalso; omega
          have hb : bgC (kdW (tx M) (M 17 1) (M 17 4)) (M 42 11) ahead = 3 := by unfold bgC; rw [if_neg (by omega), if_pos (by omega)]
          rw [hb]
          refine Or.inr ⟨hfl.1, by decide, ?_⟩
          rw [hfl.2, epf]
    · refine z_aload_nr dX2_mayBegin_20 rfl ?_
      refine z_ldcs (j := 2) rfl (by decide) dX2_mayBegin_21 ?_
      refine z_callVip (n2 := 93) (A_X2_isWord l g M 2 (by decide) (h0) (hn)) cb_X2_isWord cl_X2_52 (clr0 rfl rfl (by decide) (by decide)) rfl (by decide) ⟨_, rfl, rfl⟩ rfl (by decide) rfl (Nat.le_of_ble_eq_true rfl) rfl dX2_mayBegin_23 (fun x31 bx31 hx31 => ?_)
      have w2 := hx31
      refine z_if_ne (tgt := 57) dX2_mayBegin_26 (by decide) (fun c32 => ?_) (fun c32 => ?_)
      · refine z_iload_n dX2_mayBegin_57 rfl ?_
        refine z_if_eq (tgt := 80) dX2_mayBegin_58 (by decide) (fun c33 => ?_) (fun c33 => ?_)
        · refine z_iload_n dX2_mayBegin_80 rfl ?_
          refine z_bipush dX2_mayBegin_81 ⟨by decide, by decide⟩ (by decide) ?_
          refine z_icmp_lt (tgt := 98) dX2_mayBegin_83 (by decide) (fun c34 => ?_) (fun c34 => ?_)
          · refine z_iconst dX2_mayBegin_98 ⟨by decide, by decide⟩ ?_
            refine z_goto (tgt := 103) dX2_mayBegin_99 (by decide) ?_
            refine z_zret rfl (by omega) (by decide) rfl (Nat.sub_self _) dX2_mayBegin_103 ?_
            have hk : 0 ≤ (kdW (tx M) (M 17 1) (M 17 4)) ∧ (kdW (tx M) (M 17 1) (M 17 4)) ≤ 4 ∧ ¬ ((kdW (tx M) (M 17 1) (M 17 4)) = 4 ∧ 8 ≤ M 42 11) := by
              first
              | (have hq : (kdW (tx M) (M 17 1) (M 17 4)) = 4 := by
                   rcases w0 with h | h
                   · exact kd_0 h.2
                   · exfalso; omega
                 omega)
              | (have hq : (kdW (tx M) (M 17 1) (M 17 4)) = 0 := by
                   rcases w1 with h | h
                   · exact kd_1 h.2
                   · exfalso; omega
                 omega)
              | (have hq : (kdW (tx M) (M 17 1) (M 17 4)) = 1 := by
                   rcases w2 with h | h
                   · exact kd_2 h.2
                   · exfalso; omega
                 omega)
              | (have hq : (kdW (tx M) (M 17 1) (M 17 4)) = 2 := by
                   rcases w3 with h | h
                   · exact kd_3 h.2
                   · exfalso; omega
                 omega)
              | (have hq : (kdW (tx M) (M 17 1) (M 17 4)) = 3 := by
                   rcases w4 with h | h
                   · exact kd_4 h.2
                   · exfalso; omega
                 omega)
            first
            | (have hb : bgC (kdW (tx M) (M 17 1) (M 17 4)) (M 42 11) ahead = 0 := by unfold bgC; rw [if_neg (by omega), if_neg hk.2.2, if_neg (by omega)]
               rw [hb]
               exact Or.inl ⟨rfl, rfl, rfl⟩)
            | (have hb : bgC (kdW (tx M) (M 17 1) (M 17 4)) (M 42 11) ahead = 4 := by unfold bgC; rw [if_neg (by omega), if_neg hk.2.2, if_pos (by omega)]
               rw [hb]
               refine Or.inr ⟨rfl, by decide, ?_⟩
               rw [hfl.2, epf])
            | (exfalso; omega)
          · refine z_aload_nr dX2_mayBegin_86 rfl ?_
            refine z_iconst dX2_mayBegin_87 ⟨by decide, by decide⟩ ?_
            refine z_aload_nr dX2_mayBegin_88 rfl ?_
            refine z_geti (kz := 4) fl_X2_25 rfl (by decide) rfl dX2_mayBegin_89 (fun x35 hx35 bx35 => ?_)
            have epf : x35 = M 17 4 := by omega
            refine z_callVi (n2 := 93) (A_X2_fail l g M 4 x35) cb_X2_fail cl_X2_64 (clr0 rfl rfl (by decide) (by decide)) rfl (by decide) ⟨_, rfl, rfl⟩ rfl (by decide) rfl (Nat.le_of_ble_eq_true rfl) rfl dX2_mayBegin_92 (fun x36 Mz36 bx36 kMz36 hc36 => ?_)
            have hfl := hc36
            refine z_if_eq (tgt := 102) dX2_mayBegin_95 (by decide) (fun c37 => ?_) (fun c37 => ?_)
            · refine z_iconst dX2_mayBegin_102 ⟨by decide, by decide⟩ ?_
              refine z_zret rfl (by omega) (by decide) rfl (Nat.sub_self _) dX2_mayBegin_103 ?_
              have hk : 0 ≤ (kdW (tx M) (M 17 1) (M 17 4)) ∧ (kdW (tx M) (M 17 1) (M 17 4)) ≤ 4 ∧ ¬ ((kdW (tx M) (M 17 1) (M 17 4)) = 4 ∧ 8 ≤ M 42 11) := by
                first
                | (have hq : (kdW (tx M) (M 17 1) (M 17 4)) = 4 := by
                     rcases w0 with h | h
                     · exact kd_0 h.2
                     · exfalso; omega
                   omega)
                | (have hq : (kdW (tx M) (M 17 1) (M 17 4)) = 0 := by
                     rcases w1 with h | h
                     · exact kd_1 h.2
                     · exfalso; omega
                   omega)
                | (have hq : (kdW (tx M) (M 17 1) (M 17 4)) = 1 := by
                     rcases w2 with h | h
                     · exact kd_2 h.2
                     · exfalso; omega
                   omega)
                | (have hq : (kdW (tx M) (M 17 1) (M 17 4)) = 2 := by
                     rcases w3 with h | h
                     · exact kd_3 h.2
                     · exfalso; omega
                   omega)
                | (have hq : (kdW (tx M) (M 17 1) (M 17 4)) = 3 := by
                     rcases w4 with h | h
                     · exact kd_4 h.2
                     · exfalso; omega
                   omega)
              first
              | (have hb : bgC (kdW (tx M) (M 17 1) (M 17 4)) (M 42 11) ahead = 0 := by unfold bgC; rw [if_neg (by omega), if_neg hk.2.2, if_neg (by omega)]
                 rw [hb]
                 exact Or.inl ⟨rfl, rfl, rfl⟩)
              | (have hb : bgC (kdW (tx M) (M 17 1) (M 17 4)) (M 42 11) ahead = 4 := by unfold bgC; rw [if_neg (by omega), if_neg hk.2.2, if_pos (by omega)]
                 rw [hb]
                 refine Or.inr ⟨rfl, by decide, ?_⟩
                 rw [hfl.2, epf])
              | (exfalso; omega)
            · refine z_iconst dX2_mayBegin_98 ⟨by decide, by decide⟩ ?_
              refine z_goto (tgt := 103) dX2_mayBegin_99 (by decide) ?_
              refine z_zret rfl (by omega) (by decide) rfl (Nat.sub_self _) dX2_mayBegin_103 ?_
              have hk : 0 ≤ (kdW (tx M) (M 17 1) (M 17 4)) ∧ (kdW (tx M) (M 17 1) (M 17 4)) ≤ 4 ∧ ¬ ((kdW (tx M) (M 17 1) (M 17 4)) = 4 ∧ 8 ≤ M 42 11) := by
                first
                | (have hq : (kdW (tx M) (M 17 1) (M 17 4)) = 4 := by
                     rcases w0 with h | h
                     · exact kd_0 h.2
                     · exfalso; omega
                   omega)
                | (have hq : (kdW (tx M) (M 17 1) (M 17 4)) = 0 := by
                     rcases w1 with h | h
                     · exact kd_1 h.2
                     · exfalso; omega
                   omega)
                | (have hq : (kdW (tx M) (M 17 1) (M 17 4)) = 1 := by
                     rcases w2 with h | h
                     · exact kd_2 h.2
                     · exfalso; omega
                   omega)
                | (have hq : (kdW (tx M) (M 17 1) (M 17 4)) = 2 := by
                     rcases w3 with h | h
                     · exact kd_3 h.2
                     · exfalso; omega
                   omega)
                | (have hq : (kdW (tx M) (M 17 1) (M 17 4)) = 3 := by
                     rcases w4 with h | h
                     · exact kd_4 h.2
                     · exfalso; omega
                   omega)
              first
              | (have hb : bgC (kdW (tx M) (M 17 1) (M 17 4)) (M 42 11) ahead = 0 := by unfold bgC; rw [if_neg (by omega), if_neg hk.2.2, if_neg (by omega)]
                 rw [hb]
                 exact Or.inl ⟨rfl, rfl, rfl⟩)
              | (have hb : bgC (kdW (tx M) (M 17 1) (M 17 4)) (M 42 11) ahead = 4 := by unfold bgC; rw [if_neg (by omega), if_neg hk.2.2, if_pos (by omega)]
                 rw [hb]
                 refine Or.inr ⟨rfl, by decide, ?_⟩
                 rw [hfl.2, epf])
              | (exfalso; omega)
        · refine z_aload_nr dX2_mayBegin_61 rfl ?_
          refine z_geti (kz := 11) fl_X2_68 rfl (by decide) rfl dX2_mayBegin_62 (fun x38 hx38 bx38 => ?_)
          refine z_bipush dX2_mayBegin_65 ⟨by decide, by decide⟩ (by decide) ?_
          refine z_icmp_lt (tgt := 80) dX2_mayBegin_67 (by decide) (fun c39 => ?_) (fun c39 => ?_)
          · refine z_iload_n dX2_mayBegin_80 rfl ?_
            refine z_bipush dX2_mayBegin_81 ⟨by decide, by decide⟩ (by decide) ?_
            refine z_icmp_lt (tgt := 98) dX2_mayBegin_83 (by decide) (fun c40 => ?_) (fun c40 => ?_)
            · refine z_iconst dX2_mayBegin_98 ⟨by decide, by decide⟩ ?_
              refine z_goto (tgt := 103) dX2_mayBegin_99 (by decide) ?_
              refine z_zret rfl (by omega) (by decide) rfl (Nat.sub_self _) dX2_mayBegin_103 ?_
              have hk : 0 ≤ (kdW (tx M) (M 17 1) (M 17 4)) ∧ (kdW (tx M) (M 17 1) (M 17 4)) ≤ 4 ∧ ¬ ((kdW (tx M) (M 17 1) (M 17 4)) = 4 ∧ 8 ≤ M 42 11) := by
                first
                | (have hq : (kdW (tx M) (M 17 1) (M 17 4)) = 4 := by
                     rcases w0 with h | h
                     · exact kd_0 h.2
                     · exfalso; omega
                   omega)
                | (have hq : (kdW (tx M) (M 17 1) (M 17 4)) = 0 := by
                     rcases w1 with h | h
                     · exact kd_1 h.2
                     · exfalso; omega
                   omega)
                | (have hq : (kdW (tx M) (M 17 1) (M 17 4)) = 1 := by
                     rcases w2 with h | h
                     · exact kd_2 h.2
                     · exfalso; omega
                   omega)
                | (have hq : (kdW (tx M) (M 17 1) (M 17 4)) = 2 := by
                     rcases w3 with h | h
                     · exact kd_3 h.2
                     · exfalso; omega
                   omega)
                | (have hq : (kdW (tx M) (M 17 1) (M 17 4)) = 3 := by
                     rcases w4 with h | h
                     · exact kd_4 h.2
                     · exfalso; omega
                   omega)
              first
              | (have hb : bgC (kdW (tx M) (M 17 1) (M 17 4)) (M 42 11) ahead = 0 := by unfold bgC; rw [if_neg (by omega), if_neg hk.2.2, if_neg (by omega)]
                 rw [hb]
                 exact Or.inl ⟨rfl, rfl, rfl⟩)
              | (have hb : bgC (kdW (tx M) (M 17 1) (M 17 4)) (M 42 11) ahead = 4 := by unfold bgC; rw [if_neg (by omega), if_neg hk.2.2, if_pos (by omega)]
                 rw [hb]
                 refine Or.inr ⟨rfl, by decide, ?_⟩
                 rw [hfl.2, epf])
              | (exfalso; omega)
            · refine z_aload_nr dX2_mayBegin_86 rfl ?_
              refine z_iconst dX2_mayBegin_87 ⟨by decide, by decide⟩ ?_
              refine z_aload_nr dX2_mayBegin_88 rfl ?_
              refine z_geti (kz := 4) fl_X2_25 rfl (by decide) rfl dX2_mayBegin_89 (fun x41 hx41 bx41 => ?_)
              have epf : x41 = M 17 4 := by omega
              refine z_callVi (n2 := 93) (A_X2_fail l g M 4 x41) cb_X2_fail cl_X2_64 (clr0 rfl rfl (by decide) (by decide)) rfl (by decide) ⟨_, rfl, rfl⟩ rfl (by decide) rfl (Nat.le_of_ble_eq_true rfl) rfl dX2_mayBegin_92 (fun x42 Mz42 bx42 kMz42 hc42 => ?_)
              have hfl := hc42
              refine z_if_eq (tgt := 102) dX2_mayBegin_95 (by decide) (fun c43 => ?_) (fun c43 => ?_)
              · refine z_iconst dX2_mayBegin_102 ⟨by decide, by decide⟩ ?_
                refine z_zret rfl (by omega) (by decide) rfl (Nat.sub_self _) dX2_mayBegin_103 ?_
                have hk : 0 ≤ (kdW (tx M) (M 17 1) (M 17 4)) ∧ (kdW (tx M) (M 17 1) (M 17 4)) ≤ 4 ∧ ¬ ((kdW (tx M) (M 17 1) (M 17 4)) = 4 ∧ 8 ≤ M 42 11) := by
                  first
                  | (have hq : (kdW (tx M) (M 17 1) (M 17 4)) = 4 := by
                       rcases w0 with h | h
                       · exact kd_0 h.2
                       · exfalso; omega
                     omega)
                  | (have hq : (kdW (tx M) (M 17 1) (M 17 4)) = 0 := by
                       rcases w1 with h | h
                       · exact kd_1 h.2
                       · exfalso; omega
                     omega)
                  | (have hq : (kdW (tx M) (M 17 1) (M 17 4)) = 1 := by
                       rcases w2 with h | h
                       · exact kd_2 h.2
                       · exfalso; omega
                     omega)
                  | (have hq : (kdW (tx M) (M 17 1) (M 17 4)) = 2 := by
                       rcases w3 with h | h
                       · exact kd_3 h.2
                       · exfalso; omega
                     omega)
                  | (have hq : (kdW (tx M) (M 17 1) (M 17 4)) = 3 := by
                       rcases w4 with h | h
                       · exact kd_4 h.2
                       · exfalso; omega
                     omega)
                first
                | (have hb : bgC (kdW (tx M) (M 17 1) (M 17 4)) (M 42 11) ahead = 0 := by unfold bgC; rw [if_neg (by omega), if_neg hk.2.2, if_neg (by omega)]
                   rw [hb]
                   exact Or.inl ⟨rfl, rfl, rfl⟩)
                | (have hb : bgC (kdW (tx M) (M 17 1) (M 17 4)) (M 42 11) ahead = 4 := by unfold bgC; rw [if_neg (by omega), if_neg hk.2.2, if_pos (by omega)]
                   rw [hb]
                   refine Or.inr ⟨rfl, by decide, ?_⟩
                   rw [hfl.2, epf])
                | (exfalso; omega)
              · refine z_iconst dX2_mayBegin_98 ⟨by decide, by decide⟩ ?_
                refine z_goto (tgt := 103) dX2_mayBegin_99 (by decide) ?_
                refine z_zret rfl (by omega) (by decide) rfl (Nat.sub_self _) dX2_mayBegin_103 ?_
                have hk : 0 ≤ (kdW (tx M) (M 17 1) (M 17 4)) ∧ (kdW (tx M) (M 17 1) (M 17 4)) ≤ 4 ∧ ¬ ((kdW (tx M) (M 17 1) (M 17 4)) = 4 ∧ 8 ≤ M 42 11) := by
                  first
                  | (have hq : (kdW (tx M) (M 17 1) (M 17 4)) = 4 := by
                       rcases w0 with h | h
                       · exact kd_0 h.2
                       · exfalso; omega
                     omega)
                  | (have hq : (kdW (tx M) (M 17 1) (M 17 4)) = 0 := by
                       rcases w1 with h | h
                       · exact kd_1 h.2
                       · exfalso; omega
                     omega)
                  | (have hq : (kdW (tx M) (M 17 1) (M 17 4)) = 1 := by
                       rcases w2 with h | h
                       · exact kd_2 h.2
                       · exfalso; omega
                     omega)
                  | (have hq : (kdW (tx M) (M 17 1) (M 17 4)) = 2 := by
                       rcases w3 with h | h
                       · exact kd_3 h.2
                       · exfalso; omega
                     omega)
                  | (have hq : (kdW (tx M) (M 17 1) (M 17 4)) = 3 := by
                       rcases w4 with h | h
                       · exact kd_4 h.2
                       · exfalso; omega
                     omega)
                first
                | (have hb : bgC (kdW (tx M) (M 17 1) (M 17 4)) (M 42 11) ahead = 0 := by unfold bgC; rw [if_neg (by omega), if_neg hk.2.2, if_neg (by omega)]
                   rw [hb]
                   exact Or.inl ⟨rfl, rfl, rfl⟩)
                | (have hb : bgC (kdW (tx M) (M 17 1) (M 17 4)) (M 42 11) ahead = 4 := by unfold bgC; rw [if_neg (by omega), if_neg hk.2.2, if_pos (by omega)]
                   rw [hb]
                   refine Or.inr ⟨rfl, by decide, ?_⟩
                   rw [hfl.2, epf])
                | (exfalso; omega)
          · refine z_aload_nr dX2_mayBegin_70 rfl ?_
            refine z_iconst dX2_mayBegin_71 ⟨by decide, by decide⟩ ?_
            refine z_aload_nr dX2_mayBegin_72 rfl ?_
            refine z_geti (kz := 4) fl_X2_25 rfl (by decide) rfl dX2_mayBegin_73 (fun x44 hx44 bx44 => ?_)
            have epf : x44 = M 17 4 := by omega
            refine z_callVi (n2 := 93) (A_X2_fail l g M 3 x44) cb_X2_fail cl_X2_64 (clr0 rfl rfl (by decide) (by decide)) rfl (by decide) ⟨_, rfl, rfl⟩ rfl (by decide) rfl (Nat.le_of_ble_eq_true rfl) rfl dX2_mayBegin_76 (fun x45 Mz45 bx45 kMz45 hc45 => ?_)
            have hfl := hc45
            refine z_zret rfl (by omega) (by decide) rfl (Nat.sub_self _) dX2_mayBegin_79 ?_
            have hk : (kdW (tx M) (M 17 1) (M 17 4)) = 4 := by
              rcases w0 with h | h
              · exact kd_0 h.2
              · exfalso; omega
            have hb : bgC (kdW (tx M) (M 17 1) (M 17 4)) (M 42 11) ahead = 3 := by unfold bgC; rw [if_neg (by omega), if_pos (by omega)]
            rw [hb]
            refine Or.inr ⟨hfl.1, by decide, ?_⟩
            rw [hfl.2, epf]
      · refine z_aload_nr dX2_mayBegin_29 rfl ?_
        refine z_ldcs (j := 3) rfl (by decide) dX2_mayBegin_30 ?_
        refine z_callVip (n2 := 93) (A_X2_isWord l g M 3 (by decide) (h0) (hn)) cb_X2_isWord cl_X2_52 (clr0 rfl rfl (by decide) (by decide)) rfl (by decide) ⟨_, rfl, rfl⟩ rfl (by decide) rfl (Nat.le_of_ble_eq_true rfl) rfl dX2_mayBegin_32 (fun x46 bx46 hx46 => ?_)
        have w3 := hx46
        refine z_if_ne (tgt := 57) dX2_mayBegin_35 (by decide) (fun c47 => ?_) (fun c47 => ?_)
        · refine z_iload_n dX2_mayBegin_57 rfl ?_
          refine z_if_eq (tgt := 80) dX2_mayBegin_58 (by decide) (fun c48 => ?_) (fun c48 => ?_)
          · refine z_iload_n dX2_mayBegin_80 rfl ?_
            refine z_bipush dX2_mayBegin_81 ⟨by decide, by decide⟩ (by decide) ?_
            refine z_icmp_lt (tgt := 98) dX2_mayBegin_83 (by decide) (fun c49 => ?_) (fun c49 => ?_)
            · refine z_iconst dX2_mayBegin_98 ⟨by decide, by decide⟩ ?_
              refine z_goto (tgt := 103) dX2_mayBegin_99 (by decide) ?_
              refine z_zret rfl (by omega) (by decide) rfl (Nat.sub_self _) dX2_mayBegin_103 ?_
              have hk : 0 ≤ (kdW (tx M) (M 17 1) (M 17 4)) ∧ (kdW (tx M) (M 17 1) (M 17 4)) ≤ 4 ∧ ¬ ((kdW (tx M) (M 17 1) (M 17 4)) = 4 ∧ 8 ≤ M 42 11) := by
                first
                | (have hq : (kdW (tx M) (M 17 1) (M 17 4)) = 4 := by
                     rcases w0 with h | h
                     · exact kd_0 h.2
                     · exfalso; omega
                   omega)
                | (have hq : (kdW (tx M) (M 17 1) (M 17 4)) = 0 := by
                     rcases w1 with h | h
                     · exact kd_1 h.2
                     · exfalso; omega
                   omega)
                | (have hq : (kdW (tx M) (M 17 1) (M 17 4)) = 1 := by
                     rcases w2 with h | h
                     · exact kd_2 h.2
                     · exfalso; omega
                   omega)
                | (have hq : (kdW (tx M) (M 17 1) (M 17 4)) = 2 := by
                     rcases w3 with h | h
                     · exact kd_3 h.2
                     · exfalso; omega
                   omega)
                | (have hq : (kdW (tx M) (M 17 1) (M 17 4)) = 3 := by
                     rcases w4 with h | h
                     · exact kd_4 h.2
                     · exfalso; omega
                   omega)
              first
              | (have hb : bgC (kdW (tx M) (M 17 1) (M 17 4)) (M 42 11) ahead = 0 := by unfold bgC; rw [if_neg (by omega), if_neg hk.2.2, if_neg (by omega)]
                 rw [hb]
                 exact Or.inl ⟨rfl, rfl, rfl⟩)
              | (have hb : bgC (kdW (tx M) (M 17 1) (M 17 4)) (M 42 11) ahead = 4 := by unfold bgC; rw [if_neg (by omega), if_neg hk.2.2, if_pos (by omega)]
                 rw [hb]
                 refine Or.inr ⟨rfl, by decide, ?_⟩
                 rw [hfl.2, epf])
              | (exfalso; omega)
            · refine z_aload_nr dX2_mayBegin_86 rfl ?_
              refine z_iconst dX2_mayBegin_87 ⟨by decide, by decide⟩ ?_
              refine z_aload_nr dX2_mayBegin_88 rfl ?_
              refine z_geti (kz := 4) fl_X2_25 rfl (by decide) rfl dX2_mayBegin_89 (fun x50 hx50 bx50 => ?_)
              have epf : x50 = M 17 4 := by omega
              refine z_callVi (n2 := 93) (A_X2_fail l g M 4 x50) cb_X2_fail cl_X2_64 (clr0 rfl rfl (by decide) (by decide)) rfl (by decide) ⟨_, rfl, rfl⟩ rfl (by decide) rfl (Nat.le_of_ble_eq_true rfl) rfl dX2_mayBegin_92 (fun x51 Mz51 bx51 kMz51 hc51 => ?_)
              have hfl := hc51
              refine z_if_eq (tgt := 102) dX2_mayBegin_95 (by decide) (fun c52 => ?_) (fun c52 => ?_)
              · refine z_iconst dX2_mayBegin_102 ⟨by decide, by decide⟩ ?_
                refine z_zret rfl (by omega) (by decide) rfl (Nat.sub_self _) dX2_mayBegin_103 ?_
                have hk : 0 ≤ (kdW (tx M) (M 17 1) (M 17 4)) ∧ (kdW (tx M) (M 17 1) (M 17 4)) ≤ 4 ∧ ¬ ((kdW (tx M) (M 17 1) (M 17 4)) = 4 ∧ 8 ≤ M 42 11) := by
                  first
                  | (have hq : (kdW (tx M) (M 17 1) (M 17 4)) = 4 := by
                       rcases w0 with h | h
                       · exact kd_0 h.2
                       · exfalso; omega
                     omega)
                  | (have hq : (kdW (tx M) (M 17 1) (M 17 4)) = 0 := by
                       rcases w1 with h | h
                       · exact kd_1 h.2
                       · exfalso; omega
                     omega)
                  | (have hq : (kdW (tx M) (M 17 1) (M 17 4)) = 1 := by
                       rcases w2 with h | h
                       · exact kd_2 h.2
                       · exfalso; omega
                     omega)
                  | (have hq : (kdW (tx M) (M 17 1) (M 17 4)) = 2 := by
                       rcases w3 with h | h
                       · exact kd_3 h.2
                       · exfalso; omega
                     omega)
                  | (have hq : (kdW (tx M) (M 17 1) (M 17 4)) = 3 := by
                       rcases w4 with h | h
                       · exact kd_4 h.2
                       · exfalso; omega
                     omega)
                first
                | (have hb : bgC (kdW (tx M) (M 17 1) (M 17 4)) (M 42 11) ahead = 0 := by unfold bgC; rw [if_neg (by omega), if_neg hk.2.2, if_neg (by omega)]
                   rw [hb]
                   exact Or.inl ⟨rfl, rfl, rfl⟩)
                | (have hb : bgC (kdW (tx M) (M 17 1) (M 17 4)) (M 42 11) ahead = 4 := by unfold bgC; rw [if_neg (by omega), if_neg hk.2.2, if_pos (by omega)]
                   rw [hb]
                   refine Or.inr ⟨rfl, by decide, ?_⟩
                   rw [hfl.2, epf])
                | (exfalso; omega)
              · refine z_iconst dX2_mayBegin_98 ⟨by decide, by decide⟩ ?_
                refine z_goto (tgt := 103) dX2_mayBegin_99 (by decide) ?_
                refine z_zret rfl (by omega) (by decide) rfl (Nat.sub_self _) dX2_mayBegin_103 ?_
                have hk : 0 ≤ (kdW (tx M) (M 17 1) (M 17 4)) ∧ (kdW (tx M) (M 17 1) (M 17 4)) ≤ 4 ∧ ¬ ((kdW (tx M) (M 17 1) (M 17 4)) = 4 ∧ 8 ≤ M 42 11) := by
                  first
                  | (have hq : (kdW (tx M) (M 17 1) (M 17 4)) = 4 := by
                       rcases w0 with h | h
                       · exact kd_0 h.2
                       · exfalso; omega
                     omega)
                  | (have hq : (kdW (tx M) (M 17 1) (M 17 4)) = 0 := by
                       rcases w1 with h | h
                       · exact kd_1 h.2
                       · exfalso; omega
                     omega)
                  | (have hq : (kdW (tx M) (M 17 1) (M 17 4)) = 1 := by
                       rcases w2 with h | h
                       · exact kd_2 h.2
                       · exfalso; omega
                     omega)
                  | (have hq : (kdW (tx M) (M 17 1) (M 17 4)) = 2 := by
                       rcases w3 with h | h
                       · exact kd_3 h.2
                       · exfalso; omega
                     omega)
                  | (have hq : (kdW (tx M) (M 17 1) (M 17 4)) = 3 := by
                       rcases w4 with h | h
                       · exact kd_4 h.2
                       · exfalso; omega
                     omega)
                first
                | (have hb : bgC (kdW (tx M) (M 17 1) (M 17 4)) (M 42 11) ahead = 0 := by unfold bgC; rw [if_neg (by omega), if_neg hk.2.2, if_neg (by omega)]
                   rw [hb]
                   exact Or.inl ⟨rfl, rfl, rfl⟩)
                | (have hb : bgC (kdW (tx M) (M 17 1) (M 17 4)) (M 42 11) ahead = 4 := by unfold bgC; rw [if_neg (by omega), if_neg hk.2.2, if_pos (by omega)]
                   rw [hb]
                   refine Or.inr ⟨rfl, by decide, ?_⟩
                   rw [hfl.2, epf])
                | (exfalso; omega)
          · refine z_aload_nr dX2_mayBegin_61 rfl ?_
            refine z_geti (kz := 11) fl_X2_68 rfl (by decide) rfl dX2_mayBegin_62 (fun x53 hx53 bx53 => ?_)
            refine z_bipush dX2_mayBegin_65 ⟨by decide, by decide⟩ (by decide) ?_
            refine z_icmp_lt (tgt := 80) dX2_mayBegin_67 (by decide) (fun c54 => ?_) (fun c54 => ?_)
            · refine z_iload_n dX2_mayBegin_80 rfl ?_
              refine z_bipush dX2_mayBegin_81 ⟨by decide, by decide⟩ (by decide) ?_
              refine z_icmp_lt (tgt := 98) dX2_mayBegin_83 (by decide) (fun c55 => ?_) (fun c55 => ?_)
              · refine z_iconst dX2_mayBegin_98 ⟨by decide, by decide⟩ ?_
                refine z_goto (tgt := 103) dX2_mayBegin_99 (by decide) ?_
                refine z_zret rfl (by omega) (by decide) rfl (Nat.sub_self _) dX2_mayBegin_103 ?_
                have hk : 0 ≤ (kdW (tx M) (M 17 1) (M 17 4)) ∧ (kdW (tx M) (M 17 1) (M 17 4)) ≤ 4 ∧ ¬ ((kdW (tx M) (M 17 1) (M 17 4)) = 4 ∧ 8 ≤ M 42 11) := by
                  first
                  | (have hq : (kdW (tx M) (M 17 1) (M 17 4)) = 4 := by
                       rcases w0 with h | h
                       · exact kd_0 h.2
                       · exfalso; omega
                     omega)
                  | (have hq : (kdW (tx M) (M 17 1) (M 17 4)) = 0 := by
                       rcases w1 with h | h
                       · exact kd_1 h.2
                       · exfalso; omega
                     omega)
                  | (have hq : (kdW (tx M) (M 17 1) (M 17 4)) = 1 := by
                       rcases w2 with h | h
                       · exact kd_2 h.2
                       · exfalso; omega
                     omega)
                  | (have hq : (kdW (tx M) (M 17 1) (M 17 4)) = 2 := by
                       rcases w3 with h | h
                       · exact kd_3 h.2
                       · exfalso; omega
                     omega)
                  | (have hq : (kdW (tx M) (M 17 1) (M 17 4)) = 3 := by
                       rcases w4 with h | h
                       · exact kd_4 h.2
                       · exfalso; omega
                     omega)
                first
                | (have hb : bgC (kdW (tx M) (M 17 1) (M 17 4)) (M 42 11) ahead = 0 := by unfold bgC; rw [if_neg (by omega), if_neg hk.2.2, if_neg (by omega)]
                   rw [hb]
                   exact Or.inl ⟨rfl, rfl, rfl⟩)
                | (have hb : bgC (kdW (tx M) (M 17 1) (M 17 4)) (M 42 11) ahead = 4 := by unfold bgC; rw [if_neg (by omega), if_neg hk.2.2, if_pos (by omega)]
                   rw [hb]
                   refine Or.inr ⟨rfl, by decide, ?_⟩
                   rw [hfl.2, epf])
                | (exfalso; omega)
              · refine z_aload_nr dX2_mayBegin_86 rfl ?_
                refine z_iconst dX2_mayBegin_87 ⟨by decide, by decide⟩ ?_
                refine z_aload_nr dX2_mayBegin_88 rfl ?_
                refine z_geti (kz := 4) fl_X2_25 rfl (by decide) rfl dX2_mayBegin_89 (fun x56 hx56 bx56 => ?_)
                have epf : x56 = M 17 4 := by omega
                refine z_callVi (n2 := 93) (A_X2_fail l g M 4 x56) cb_X2_fail cl_X2_64 (clr0 rfl rfl (by decide) (by decide)) rfl (by decide) ⟨_, rfl, rfl⟩ rfl (by decide) rfl (Nat.le_of_ble_eq_true rfl) rfl dX2_mayBegin_92 (fun x57 Mz57 bx57 kMz57 hc57 => ?_)
                have hfl := hc57
                refine z_if_eq (tgt := 102) dX2_mayBegin_95 (by decide) (fun c58 => ?_) (fun c58 => ?_)
                · refine z_iconst dX2_mayBegin_102 ⟨by decide, by decide⟩ ?_
                  refine z_zret rfl (by omega) (by decide) rfl (Nat.sub_self _) dX2_mayBegin_103 ?_
                  have hk : 0 ≤ (kdW (tx M) (M 17 1) (M 17 4)) ∧ (kdW (tx M) (M 17 1) (M 17 4)) ≤ 4 ∧ ¬ ((kdW (tx M) (M 17 1) (M 17 4)) = 4 ∧ 8 ≤ M 42 11) := by
                    first
                    | (have hq : (kdW (tx M) (M 17 1) (M 17 4)) = 4 := by
                         rcases w0 with h | h
                         · exact kd_0 h.2
                         · exfalso; omega
                       omega)
                    | (have hq : (kdW (tx M) (M 17 1) (M 17 4)) = 0 := by
                         rcases w1 with h | h
                         · exact kd_1 h.2
                         · exfalso; omega
                       omega)
                    | (have hq : (kdW (tx M) (M 17 1) (M 17 4)) = 1 := by
                         rcases w2 with h | h
                         · exact kd_2 h.2
                         · exfalso; omega
                       omega)
                    | (have hq : (kdW (tx M) (M 17 1) (M 17 4)) = 2 := by
                         rcases w3 with h | h
                         · exact kd_3 h.2
                         · exfalso; omega
                       omega)
                    | (have hq : (kdW (tx M) (M 17 1) (M 17 4)) = 3 := by
                         rcases w4 with h | h
                         · exact kd_4 h.2
                         · exfalso; omega
                       omega)
                  first
                  | (have hb : bgC (kdW (tx M) (M 17 1) (M 17 4)) (M 42 11) ahead = 0 := by unfold bgC; rw [if_neg (by omega), if_neg hk.2.2, if_neg (by omega)]
                     rw [hb]
                     exact Or.inl ⟨rfl, rfl, rfl⟩)
                  | (have hb : bgC (kdW (tx M) (M 17 1) (M 17 4)) (M 42 11) ahead = 4 := by unfold bgC; rw [if_neg (by omega), if_neg hk.2.2, if_pos (by omega)]
                     rw [hb]
                     refine Or.inr ⟨rfl, by decide, ?_⟩
                     rw [hfl.2, epf])
                  | (exfalso; omega)
                · refine z_iconst dX2_mayBegin_98 ⟨by decide, by decide⟩ ?_
                  refine z_goto (tgt := 103) dX2_mayBegin_99 (by decide) ?_
                  refine z_zret rfl (by omega) (by decide) rfl (Nat.sub_self _) dX2_mayBegin_103 ?_
                  have hk : 0 ≤ (kdW (tx M) (M 17 1) (M 17 4)) ∧ (kdW (tx M) (M 17 1) (M 17 4)) ≤ 4 ∧ ¬ ((kdW (tx M) (M 17 1) (M 17 4)) = 4 ∧ 8 ≤ M 42 11) := by
                    first
                    | (have hq : (kdW (tx M) (M 17 1) (M 17 4)) = 4 := by
                         rcases w0 with h | h
                         · exact kd_0 h.2
                         · exfalso; omega
                       omega)
                    | (have hq : (kdW (tx M) (M 17 1) (M 17 4)) = 0 := by
                         rcases w1 with h | h
                         · exact kd_1 h.2
                         · exfalso; omega
                       omega)
                    | (have hq : (kdW (tx M) (M 17 1) (M 17 4)) = 1 := by
                         rcases w2 with h | h
                         · exact kd_2 h.2
                         · exfalso; omega
                       omega)
                    | (have hq : (kdW (tx M) (M 17 1) (M 17 4)) = 2 := by
                         rcases w3 with h | h
                         · exact kd_3 h.2
                         · exfalso; omega
                       omega)
                    | (have hq : (kdW (tx M) (M 17 1) (M 17 4)) = 3 := by
                         rcases w4 with h | h
                         · exact kd_4 h.2
                         · exfalso; omega
                       omega)
                  first
                  | (have hb : bgC (kdW (tx M) (M 17 1) (M 17 4)) (M 42 11) ahead = 0 := by unfold bgC; rw [if_neg (by omega), if_neg hk.2.2, if_neg (by omega)]
                     rw [hb]
                     exact Or.inl ⟨rfl, rfl, rfl⟩)
                  | (have hb : bgC (kdW (tx M) (M 17 1) (M 17 4)) (M 42 11) ahead = 4 := by unfold bgC; rw [if_neg (by omega), if_neg hk.2.2, if_pos (by omega)]
                     rw [hb]
                     refine Or.inr ⟨rfl, by decide, ?_⟩
                     rw [hfl.2, epf])
                  | (exfalso; omega)
            · refine z_aload_nr dX2_mayBegin_70 rfl ?_
              refine z_iconst dX2_mayBegin_71 ⟨by decide, by decide⟩ ?_
              refine z_aload_nr dX2_mayBegin_72 rfl ?_
              refine z_geti (kz := 4) fl_X2_25 rfl (by decide) rfl dX2_mayBegin_73 (fun x59 hx59 bx59 => ?_)
              have epf : x59 = M 17 4 := by omega
              refine z_callVi (n2 := 93) (A_X2_fail l g M 3 x59) cb_X2_fail cl_X2_64 (clr0 rfl rfl (by decide) (by decide)) rfl (by decide) ⟨_, rfl, rfl⟩ rfl (by decide) rfl (Nat.le_of_ble_eq_true rfl) rfl dX2_mayBegin_76 (fun x60 Mz60 bx60 kMz60 hc60 => ?_)
              have hfl := hc60
              refine z_zret rfl (by omega) (by decide) rfl (Nat.sub_self _) dX2_mayBegin_79 ?_
              have hk : (kdW (tx M) (M 17 1) (M 17 4)) = 4 := by
                rcases w0 with h | h
                · exact kd_0 h.2
                · exfalso; omega
              have hb : bgC (kdW (tx M) (M 17 1) (M 17 4)) (M 42 11) ahead = 3 := by unfold bgC; rw [if_neg (by omega), if_pos (by omega)]
              rw [hb]
              refine Or.inr ⟨hfl.1, by decide, ?_⟩
              rw [hfl.2, epf]
        · refine z_aload_nr dX2_mayBegin_38 rfl ?_
          refine z_ldcs (j := 4) rfl (by decide) dX2_mayBegin_39 ?_
          refine z_callVip (n2 := 93) (A_X2_isWord l g M 4 (by decide) (h0) (hn)) cb_X2_isWord cl_X2_52 (clr0 rfl rfl (by decide) (by decide)) rfl (by decide) ⟨_, rfl, rfl⟩ rfl (by decide) rfl (Nat.le_of_ble_eq_true rfl) rfl dX2_mayBegin_41 (fun x61 bx61 hx61 => ?_)
          have w4 := hx61
          refine z_if_ne (tgt := 57) dX2_mayBegin_44 (by decide) (fun c62 => ?_) (fun c62 => ?_)
          · refine z_iload_n dX2_mayBegin_57 rfl ?_
            refine z_if_eq (tgt := 80) dX2_mayBegin_58 (by decide) (fun c63 => ?_) (fun c63 => ?_)
            · refine z_iload_n dX2_mayBegin_80 rfl ?_
              refine z_bipush dX2_mayBegin_81 ⟨by decide, by decide⟩ (by decide) ?_
              refine z_icmp_lt (tgt := 98) dX2_mayBegin_83 (by decide) (fun c64 => ?_) (fun c64 => ?_)
              · refine z_iconst dX2_mayBegin_98 ⟨by decide, by decide⟩ ?_
                refine z_goto (tgt := 103) dX2_mayBegin_99 (by decide) ?_
                refine z_zret rfl (by omega) (by decide) rfl (Nat.sub_self _) dX2_mayBegin_103 ?_
                have hk : 0 ≤ (kdW (tx M) (M 17 1) (M 17 4)) ∧ (kdW (tx M) (M 17 1) (M 17 4)) ≤ 4 ∧ ¬ ((kdW (tx M) (M 17 1) (M 17 4)) = 4 ∧ 8 ≤ M 42 11) := by
                  first
                  | (have hq : (kdW (tx M) (M 17 1) (M 17 4)) = 4 := by
                       rcases w0 with h | h
                       · exact kd_0 h.2
                       · exfalso; omega
                     omega)
                  | (have hq : (kdW (tx M) (M 17 1) (M 17 4)) = 0 := by
                       rcases w1 with h | h
                       · exact kd_1 h.2
                       · exfalso; omega
                     omega)
                  | (have hq : (kdW (tx M) (M 17 1) (M 17 4)) = 1 := by
                       rcases w2 with h | h
                       · exact kd_2 h.2
                       · exfalso; omega
                     omega)
                  | (have hq : (kdW (tx M) (M 17 1) (M 17 4)) = 2 := by
                       rcases w3 with h | h
                       · exact kd_3 h.2
                       · exfalso; omega
                     omega)
                  | (have hq : (kdW (tx M) (M 17 1) (M 17 4)) = 3 := by
                       rcases w4 with h | h
                       · exact kd_4 h.2
                       · exfalso; omega
                     omega)
                first
                | (have hb : bgC (kdW (tx M) (M 17 1) (M 17 4)) (M 42 11) ahead = 0 := by unfold bgC; rw [if_neg (by omega), if_neg hk.2.2, if_neg (by omega)]
                   rw [hb]
                   exact Or.inl ⟨rfl, rfl, rfl⟩)
                | (have hb : bgC (kdW (tx M) (M 17 1) (M 17 4)) (M 42 11) ahead = 4 := by unfold bgC; rw [if_neg (by omega), if_neg hk.2.2, if_pos (by omega)]
                   rw [hb]
                   refine Or.inr ⟨rfl, by decide, ?_⟩
                   rw [hfl.2, epf])
                | (exfalso; omega)
              · refine z_aload_nr dX2_mayBegin_86 rfl ?_
                refine z_iconst dX2_mayBegin_87 ⟨by decide, by decide⟩ ?_
                refine z_aload_nr dX2_mayBegin_88 rfl ?_
                refine z_geti (kz := 4) fl_X2_25 rfl (by decide) rfl dX2_mayBegin_89 (fun x65 hx65 bx65 => ?_)
                have epf : x65 = M 17 4 := by omega
                refine z_callVi (n2 := 93) (A_X2_fail l g M 4 x65) cb_X2_fail cl_X2_64 (clr0 rfl rfl (by decide) (by decide)) rfl (by decide) ⟨_, rfl, rfl⟩ rfl (by decide) rfl (Nat.le_of_ble_eq_true rfl) rfl dX2_mayBegin_92 (fun x66 Mz66 bx66 kMz66 hc66 => ?_)
                have hfl := hc66
                refine z_if_eq (tgt := 102) dX2_mayBegin_95 (by decide) (fun c67 => ?_) (fun c67 => ?_)
                · refine z_iconst dX2_mayBegin_102 ⟨by decide, by decide⟩ ?_
                  refine z_zret rfl (by omega) (by decide) rfl (Nat.sub_self _) dX2_mayBegin_103 ?_
                  have hk : 0 ≤ (kdW (tx M) (M 17 1) (M 17 4)) ∧ (kdW (tx M) (M 17 1) (M 17 4)) ≤ 4 ∧ ¬ ((kdW (tx M) (M 17 1) (M 17 4)) = 4 ∧ 8 ≤ M 42 11) := by
                    first
                    | (have hq : (kdW (tx M) (M 17 1) (M 17 4)) = 4 := by
                         rcases w0 with h | h
                         · exact kd_0 h.2
                         · exfalso; omega
                       omega)
                    | (have hq : (kdW (tx M) (M 17 1) (M 17 4)) = 0 := by
                         rcases w1 with h | h
                         · exact kd_1 h.2
                         · exfalso; omega
                       omega)
                    | (have hq : (kdW (tx M) (M 17 1) (M 17 4)) = 1 := by
                         rcases w2 with h | h
                         · exact kd_2 h.2
                         · exfalso; omega
                       omega)
                    | (have hq : (kdW (tx M) (M 17 1) (M 17 4)) = 2 := by
                         rcases w3 with h | h
                         · exact kd_3 h.2
                         · exfalso; omega
                       omega)
                    | (have hq : (kdW (tx M) (M 17 1) (M 17 4)) = 3 := by
                         rcases w4 with h | h
                         · exact kd_4 h.2
                         · exfalso; omega
                       omega)
                  first
                  | (have hb : bgC (kdW (tx M) (M 17 1) (M 17 4)) (M 42 11) ahead = 0 := by unfold bgC; rw [if_neg (by omega), if_neg hk.2.2, if_neg (by omega)]
                     rw [hb]
                     exact Or.inl ⟨rfl, rfl, rfl⟩)
                  | (have hb : bgC (kdW (tx M) (M 17 1) (M 17 4)) (M 42 11) ahead = 4 := by unfold bgC; rw [if_neg (by omega), if_neg hk.2.2, if_pos (by omega)]
                     rw [hb]
                     refine Or.inr ⟨rfl, by decide, ?_⟩
                     rw [hfl.2, epf])
                  | (exfalso; omega)
                · refine z_iconst dX2_mayBegin_98 ⟨by decide, by decide⟩ ?_
                  refine z_goto (tgt := 103) dX2_mayBegin_99 (by decide) ?_
                  refine z_zret rfl (by omega) (by decide) rfl (Nat.sub_self _) dX2_mayBegin_103 ?_
                  have hk : 0 ≤ (kdW (tx M) (M 17 1) (M 17 4)) ∧ (kdW (tx M) (M 17 1) (M 17 4)) ≤ 4 ∧ ¬ ((kdW (tx M) (M 17 1) (M 17 4)) = 4 ∧ 8 ≤ M 42 11) := by
                    first
                    | (have hq : (kdW (tx M) (M 17 1) (M 17 4)) = 4 := by
                         rcases w0 with h | h
                         · exact kd_0 h.2
                         · exfalso; omega
                       omega)
                    | (have hq : (kdW (tx M) (M 17 1) (M 17 4)) = 0 := by
                         rcases w1 with h | h
                         · exact kd_1 h.2
                         · exfalso; omega
                       omega)
                    | (have hq : (kdW (tx M) (M 17 1) (M 17 4)) = 1 := by
                         rcases w2 with h | h
                         · exact kd_2 h.2
                         · exfalso; omega
                       omega)
                    | (have hq : (kdW (tx M) (M 17 1) (M 17 4)) = 2 := by
                         rcases w3 with h | h
                         · exact kd_3 h.2
                         · exfalso; omega
                       omega)
                    | (have hq : (kdW (tx M) (M 17 1) (M 17 4)) = 3 := by
                         rcases w4 with h | h
                         · exact kd_4 h.2
                         · exfalso; omega
                       omega)
                  first
                  | (have hb : bgC (kdW (tx M) (M 17 1) (M 17 4)) (M 42 11) ahead = 0 := by unfold bgC; rw [if_neg (by omega), if_neg hk.2.2, if_neg (by omega)]
                     rw [hb]
                     exact Or.inl ⟨rfl, rfl, rfl⟩)
                  | (have hb : bgC (kdW (tx M) (M 17 1) (M 17 4)) (M 42 11) ahead = 4 := by unfold bgC; rw [if_neg (by omega), if_neg hk.2.2, if_pos (by omega)]
                     rw [hb]
                     refine Or.inr ⟨rfl, by decide, ?_⟩
                     rw [hfl.2, epf])
                  | (exfalso; omega)
            · refine z_aload_nr dX2_mayBegin_61 rfl ?_
              refine z_geti (kz := 11) fl_X2_68 rfl (by decide) rfl dX2_mayBegin_62 (fun x68 hx68 bx68 => ?_)
              refine z_bipush dX2_mayBegin_65 ⟨by decide, by decide⟩ (by decide) ?_
              refine z_icmp_lt (tgt := 80) dX2_mayBegin_67 (by decide) (fun c69 => ?_) (fun c69 => ?_)
              · refine z_iload_n dX2_mayBegin_80 rfl ?_
                refine z_bipush dX2_mayBegin_81 ⟨by decide, by decide⟩ (by decide) ?_
                refine z_icmp_lt (tgt := 98) dX2_mayBegin_83 (by decide) (fun c70 => ?_) (fun c70 => ?_)
                · refine z_iconst dX2_mayBegin_98 ⟨by decide, by decide⟩ ?_
                  refine z_goto (tgt := 103) dX2_mayBegin_99 (by decide) ?_
                  refine z_zret rfl (by omega) (by decide) rfl (Nat.sub_self _) dX2_mayBegin_103 ?_
                  have hk : 0 ≤ (kdW (tx M) (M 17 1) (M 17 4)) ∧ (kdW (tx M) (M 17 1) (M 17 4)) ≤ 4 ∧ ¬ ((kdW (tx M) (M 17 1) (M 17 4)) = 4 ∧ 8 ≤ M 42 11) := by
                    first
                    | (have hq : (kdW (tx M) (M 17 1) (M 17 4)) = 4 := by
                         rcases w0 with h | h
                         · exact kd_0 h.2
                         · exfalso; omega
                       omega)
                    | (have hq : (kdW (tx M) (M 17 1) (M 17 4)) = 0 := by
                         rcases w1 with h | h
                         · exact kd_1 h.2
                         · exfalso; omega
                       omega)
                    | (have hq : (kdW (tx M) (M 17 1) (M 17 4)) = 1 := by
                         rcases w2 with h | h
                         · exact kd_2 h.2
                         · exfalso; omega
                       omega)
                    | (have hq : (kdW (tx M) (M 17 1) (M 17 4)) = 2 := by
                         rcases w3 with h | h
                         · exact kd_3 h.2
                         · exfalso; omega
                       omega)
                    | (have hq : (kdW (tx M) (M 17 1) (M 17 4)) = 3 := by
                         rcases w4 with h | h
                         · exact kd_4 h.2
                         · exfalso; omega
                       omega)
                  first
                  | (have hb : bgC (kdW (tx M) (M 17 1) (M 17 4)) (M 42 11) ahead = 0 := by unfold bgC; rw [if_neg (by omega), if_neg hk.2.2, if_neg (by omega)]
                     rw [hb]
                     exact Or.inl ⟨rfl, rfl, rfl⟩)
                  | (have hb : bgC (kdW (tx M) (M 17 1) (M 17 4)) (M 42 11) ahead = 4 := by unfold bgC; rw [if_neg (by omega), if_neg hk.2.2, if_pos (by omega)]
                     rw [hb]
                     refine Or.inr ⟨rfl, by decide, ?_⟩
                     rw [hfl.2, epf])
                  | (exfalso; omega)
                · refine z_aload_nr dX2_mayBegin_86 rfl ?_
                  refine z_iconst dX2_mayBegin_87 ⟨by decide, by decide⟩ ?_
                  refine z_aload_nr dX2_mayBegin_88 rfl ?_
                  refine z_geti (kz := 4) fl_X2_25 rfl (by decide) rfl dX2_mayBegin_89 (fun x71 hx71 bx71 => ?_)
                  have epf : x71 = M 17 4 := by omega
                  refine z_callVi (n2 := 93) (A_X2_fail l g M 4 x71) cb_X2_fail cl_X2_64 (clr0 rfl rfl (by decide) (by decide)) rfl (by decide) ⟨_, rfl, rfl⟩ rfl (by decide) rfl (Nat.le_of_ble_eq_true rfl) rfl dX2_mayBegin_92 (fun x72 Mz72 bx72 kMz72 hc72 => ?_)
                  have hfl := hc72
                  refine z_if_eq (tgt := 102) dX2_mayBegin_95 (by decide) (fun c73 => ?_) (fun c73 => ?_)
                  · refine z_iconst dX2_mayBegin_102 ⟨by decide, by decide⟩ ?_
                    refine z_zret rfl (by omega) (by decide) rfl (Nat.sub_self _) dX2_mayBegin_103 ?_
                    have hk : 0 ≤ (kdW (tx M) (M 17 1) (M 17 4)) ∧ (kdW (tx M) (M 17 1) (M 17 4)) ≤ 4 ∧ ¬ ((kdW (tx M) (M 17 1) (M 17 4)) = 4 ∧ 8 ≤ M 42 11) := by
                      first
                      | (have hq : (kdW (tx M) (M 17 1) (M 17 4)) = 4 := by
                           rcases w0 with h | h
                           · exact kd_0 h.2
                           · exfalso; omega
                         omega)
                      | (have hq : (kdW (tx M) (M 17 1) (M 17 4)) = 0 := by
                           rcases w1 with h | h
                           · exact kd_1 h.2
                           · exfalso; omega
                         omega)
                      | (have hq : (kdW (tx M) (M 17 1) (M 17 4)) = 1 := by
                           rcases w2 with h | h
                           · exact kd_2 h.2
                           · exfalso; omega
                         omega)
                      | (have hq : (kdW (tx M) (M 17 1) (M 17 4)) = 2 := by
                           rcases w3 with h | h
                           · exact kd_3 h.2
                           · exfalso; omega
                         omega)
                      | (have hq : (kdW (tx M) (M 17 1) (M 17 4)) = 3 := by
                           rcases w4 with h | h
                           · exact kd_4 h.2
                           · exfalso; omega
                         omega)
                    first
                    | (have hb : bgC (kdW (tx M) (M 17 1) (M 17 4)) (M 42 11) ahead = 0 := by unfold bgC; rw [if_neg (by omega), if_neg hk.2.2, if_neg (by omega)]
                       rw [hb]
                       exact Or.inl ⟨rfl, rfl, rfl⟩)
                    | (have hb : bgC (kdW (tx M) (M 17 1) (M 17 4)) (M 42 11) ahead = 4 := by unfold bgC; rw [if_neg (by omega), if_neg hk.2.2, if_pos (by omega)]
                       rw [hb]
                       refine Or.inr ⟨rfl, by decide, ?_⟩
                       rw [hfl.2, epf])
                    | (exfalso; omega)
                  · refine z_iconst dX2_mayBegin_98 ⟨by decide, by decide⟩ ?_
                    refine z_goto (tgt := 103) dX2_mayBegin_99 (by decide) ?_
                    refine z_zret rfl (by omega) (by decide) rfl (Nat.sub_self _) dX2_mayBegin_103 ?_
                    have hk : 0 ≤ (kdW (tx M) (M 17 1) (M 17 4)) ∧ (kdW (tx M) (M 17 1) (M 17 4)) ≤ 4 ∧ ¬ ((kdW (tx M) (M 17 1) (M 17 4)) = 4 ∧ 8 ≤ M 42 11) := by
                      first
                      | (have hq : (kdW (tx M) (M 17 1) (M 17 4)) = 4 := by
                           rcases w0 with h | h
                           · exact kd_0 h.2
                           · exfalso; omega
                         omega)
                      | (have hq : (kdW (tx M) (M 17 1) (M 17 4)) = 0 := by
                           rcases w1 with h | h
                           · exact kd_1 h.2
                           · exfalso; omega
                         omega)
                      | (have hq : (kdW (tx M) (M 17 1) (M 17 4)) = 1 := by
                           rcases w2 with h | h
                           · exact kd_2 h.2
                           · exfalso; omega
                         omega)
                      | (have hq : (kdW (tx M) (M 17 1) (M 17 4)) = 2 := by
                           rcases w3 with h | h
                           · exact kd_3 h.2
                           · exfalso; omega
                         omega)
                      | (have hq : (kdW (tx M) (M 17 1) (M 17 4)) = 3 := by
                           rcases w4 with h | h
                           · exact kd_4 h.2
                           · exfalso; omega
                         omega)
                    first
                    | (have hb : bgC (kdW (tx M) (M 17 1) (M 17 4)) (M 42 11) ahead = 0 := by unfold bgC; rw [if_neg (by omega), if_neg hk.2.2, if_neg (by omega)]
                       rw [hb]
                       exact Or.inl ⟨rfl, rfl, rfl⟩)
                    | (have hb : bgC (kdW (tx M) (M 17 1) (M 17 4)) (M 42 11) ahead = 4 := by unfold bgC; rw [if_neg (by omega), if_neg hk.2.2, if_pos (by omega)]
                       rw [hb]
                       refine Or.inr ⟨rfl, by decide, ?_⟩
                       rw [hfl.2, epf])
                    | (exfalso; omega)
              · refine z_aload_nr dX2_mayBegin_70 rfl ?_
                refine z_iconst dX2_mayBegin_71 ⟨by decide, by decide⟩ ?_
                refine z_aload_nr dX2_mayBegin_72 rfl ?_
                refine z_geti (kz := 4) fl_X2_25 rfl (by decide) rfl dX2_mayBegin_73 (fun x74 hx74 bx74 => ?_)
                have epf : x74 = M 17 4 := by omega
                refine z_callVi (n2 := 93) (A_X2_fail l g M 3 x74) cb_X2_fail cl_X2_64 (clr0 rfl rfl (by decide) (by decide)) rfl (by decide) ⟨_, rfl, rfl⟩ rfl (by decide) rfl (Nat.le_of_ble_eq_true rfl) rfl dX2_mayBegin_76 (fun x75 Mz75 bx75 kMz75 hc75 => ?_)
                have hfl := hc75
                refine z_zret rfl (by omega) (by decide) rfl (Nat.sub_self _) dX2_mayBegin_79 ?_
                have hk : (kdW (tx M) (M 17 1) (M 17 4)) = 4 := by
                  rcases w0 with h | h
                  · exact kd_0 h.2
                  · exfalso; omega
                have hb : bgC (kdW (tx M) (M 17 1) (M 17 4)) (M 42 11) ahead = 3 := by unfold bgC; rw [if_neg (by omega), if_pos (by omega)]
                rw [hb]
                refine Or.inr ⟨hfl.1, by decide, ?_⟩
                rw [hfl.2, epf]
          · refine z_aload_nr dX2_mayBegin_47 rfl ?_
            refine z_iconst dX2_mayBegin_48 ⟨by decide, by decide⟩ ?_
            refine z_aload_nr dX2_mayBegin_49 rfl ?_
            refine z_geti (kz := 4) fl_X2_25 rfl (by decide) rfl dX2_mayBegin_50 (fun x76 hx76 bx76 => ?_)
            have epf : x76 = M 17 4 := by omega
            refine z_callVi (n2 := 93) (A_X2_fail l g M 1 x76) cb_X2_fail cl_X2_64 (clr0 rfl rfl (by decide) (by decide)) rfl (by decide) ⟨_, rfl, rfl⟩ rfl (by decide) rfl (Nat.le_of_ble_eq_true rfl) rfl dX2_mayBegin_53 (fun x77 Mz77 bx77 kMz77 hc77 => ?_)
            have hfl := hc77
            refine z_zret rfl (by omega) (by decide) rfl (Nat.sub_self _) dX2_mayBegin_56 ?_
            have hk : (kdW (tx M) (M 17 1) (M 17 4)) = -1 := by
              refine kd_n ?_ ?_ ?_ ?_ ?_
              · rcases w1 with h | h; (exfalso; omega); exact h.2
              · rcases w2 with h | h; (exfalso; omega); exact h.2
              · rcases w3 with h | h; (exfalso; omega); exact h.2
              · rcases w4 with h | h; (exfalso; omega); exact h.2
              · rcases w0 with h | h; (exfalso; omega); exact h.2
            have hb : bgC (kdW (tx M) (M 17 1) (M 17 4)) (M 42 11) ahead = 1 := by unfold bgC; rw [if_pos hk]
            rw [hb]
            refine Or.inr ⟨hfl.1, by decide, ?_⟩
            rw [hfl.2, epf]
set_option maxHeartbeats 1600000 in
theorem A_X2_readClause42 (l : Launch) (g : Cx) (M : FMem) (h0 : 0 ≤ M 17 4 ∧ M 17 4 ≤ M 17 1) (hn : M 17 1 ≤ 240) (h2 : M 17 2 = 0) (h3 : M 17 3 = -1) (hkn : (kdW (tx M) (M 17 1) (M 17 4)) ≠ -1) (hsk : sk (tx M) (M 17 1) (M 17 4) = M 17 4) (hcl : (kdW (tx M) (M 17 1) (M 17 4)) = 4 → 0 ≤ M 42 11 ∧ M 42 11 < 8) : AMi l g true fi_X2_readClause [fr 17, fr 42] 93 M (fun q M2 => (q = 1 ∧ (clR (tx M) (M 17 1) (M 17 4) (kdW (tx M) (M 17 1) (M 17 4))).1.1 = 0 ∧ ∃ M1, Rs M (clR (tx M) (M 17 1) (M 17 4) (kdW (tx M) (M 17 1) (M 17 4))) M1 ∧ M2 = effR 42 (kdW (tx M) (M 17 1) (M 17 4)) (clR (tx M) (M 17 1) (M 17 4) (kdW (tx M) (M 17 1) (M 17 4))).2.2 (clV (tx M) (M 17 1) (M 17 4) (kdW (tx M) (M 17 1) (M 17 4))) M1) ∨ (q = 0 ∧ (clR (tx M) (M 17 1) (M 17 4) (kdW (tx M) (M 17 1) (M 17 4))).1.1 ≠ 0 ∧ Rs M (clR (tx M) (M 17 1) (M 17 4) (kdW (tx M) (M 17 1) (M 17 4))) M2)) := by
  refine AMi_intro [fr 17, fr 42] (by decide) (knall rfl) (Nat.le_of_ble_eq_true rfl) rfl ?_
  intro hNV hM0 μ
  refine z_aload_nr dX2_readClause_0 rfl ?_
  refine z_iconst dX2_readClause_1 ⟨by decide, by decide⟩ ?_
  refine z_puti (kz := 6) fl_X2_31 rfl (by decide) rfl nr_17_6 dX2_readClause_2 (fun Mz1 hMz1 => ?_)
  refine z_aload_nr dX2_readClause_5 rfl ?_
  refine z_ldcs (j := 1) rfl (by decide) dX2_readClause_6 ?_
  have fat : Mz1 17 4 = M 17 4 := by rw [hMz1, st_at, if_neg (by decide)]
  have fln : Mz1 17 1 = M 17 1 := by rw [hMz1, st_at, if_neg (by decide)]
  have ftf : tx Mz1 = tx M := funext fun i => by show Mz1 18 i = _; rw [hMz1, st_cell (by decide)]
  have hM1 := hMz1
  refine z_callVi (n2 := 93) (A_X2_tookWord l g Mz1 1 (by decide) (by rw [fat]; omega) (by rw [fln]; omega)) cb_X2_tookWord cl_X2_71 (clr0 rfl rfl (by decide) (by decide)) rfl (by decide) ⟨_, rfl, rfl⟩ rfl (by decide) rfl (Nat.le_of_ble_eq_true rfl) rfl dX2_readClause_8 (fun x2 Mz2 bx2 kMz2 hc2 => ?_)
  have k1 := hc2
  rw [ftf, fln, fat] at k1
  refine z_if_eq (tgt := 20) dX2_readClause_11 (by decide) (fun c3 => ?_) (fun c3 => ?_)
  · have q1 : True ∧ ¬ isW (tx M) (M 17 1) (M 17 4) 1 ∧ Mz2 = _ := ⟨trivial, by rcases k1 with h | h; (exfalso; omega); exact h.2.1, by rcases k1 with h | h; (exfalso; omega); exact h.2.2⟩
    refine z_aload_nr dX2_readClause_20 rfl ?_
    refine z_ldcs (j := 2) rfl (by decide) dX2_readClause_21 ?_
    refine z_callVi (n2 := 93) (A_X2_tookWord l g Mz2 2 (by decide) (by rw [q1.2.2, fat]; omega) (by rw [q1.2.2, fln]; omega)) cb_X2_tookWord cl_X2_71 (clr0 rfl rfl (by decide) (by decide)) rfl (by decide) ⟨_, rfl, rfl⟩ rfl (by decide) rfl (Nat.le_of_ble_eq_true rfl) rfl dX2_readClause_23 (fun x4 Mz4 bx4 kMz4 hc4 => ?_)
    have k2 := hc4
    rw [q1.2.2, ftf, fln, fat] at k2
    refine z_if_eq (tgt := 35) dX2_readClause_26 (by decide) (fun c5 => ?_) (fun c5 => ?_)
    · have q2 : True ∧ ¬ isW (tx M) (M 17 1) (M 17 4) 2 ∧ Mz4 = _ := ⟨trivial, by rcases k2 with h | h; (exfalso; omega); exact h.2.1, by rcases k2 with h | h; (exfalso; omega); exact h.2.2⟩
      refine z_aload_nr dX2_readClause_35 rfl ?_
      refine z_ldcs (j := 3) rfl (by decide) dX2_readClause_36 ?_
      refine z_callVi (n2 := 93) (A_X2_tookWord l g Mz4 3 (by decide) (by rw [q2.2.2, fat]; omega) (by rw [q2.2.2, fln]; omega)) cb_X2_tookWord cl_X2_71 (clr0 rfl rfl (by decide) (by decide)) rfl (by decide) ⟨_, rfl, rfl⟩ rfl (by decide) rfl (Nat.le_of_ble_eq_true rfl) rfl dX2_readClause_38 (fun x6 Mz6 bx6 kMz6 hc6 => ?_)
      have k3 := hc6
      rw [q2.2.2, ftf, fln, fat] at k3
      refine z_if_eq (tgt := 50) dX2_readClause_41 (by decide) (fun c7 => ?_) (fun c7 => ?_)
      · have q3 : True ∧ ¬ isW (tx M) (M 17 1) (M 17 4) 3 ∧ Mz6 = _ := ⟨trivial, by rcases k3 with h | h; (exfalso; omega); exact h.2.1, by rcases k3 with h | h; (exfalso; omega); exact h.2.2⟩
        refine z_aload_nr dX2_readClause_50 rfl ?_
        refine z_ldcs (j := 4) rfl (by decide) dX2_readClause_51 ?_
        refine z_callVi (n2 := 93) (A_X2_tookWord l g Mz6 4 (by decide) (by rw [q3.2.2, fat]; omega) (by rw [q3.2.2, fln]; omega)) cb_X2_tookWord cl_X2_71 (clr0 rfl rfl (by decide) (by decide)) rfl (by decide) ⟨_, rfl, rfl⟩ rfl (by decide) rfl (Nat.le_of_ble_eq_true rfl) rfl dX2_readClause_53 (fun x8 Mz8 bx8 kMz8 hc8 => ?_)
        have k4 := hc8
        rw [q3.2.2, ftf, fln, fat] at k4
        refine z_if_eq (tgt := 65) dX2_readClause_56 (by decide) (fun c9 => ?_) (fun c9 => ?_)
        · have q4 : True ∧ ¬ isW (tx M) (M 17 1) (M 17 4) 4 ∧ Mz8 = _ := ⟨trivial, by rcases k4 with h | h; (exfalso; omega); exact h.2.1, by rcases k4 with h | h; (exfalso; omega); exact h.2.2⟩
          refine z_aload_nr dX2_readClause_65 rfl ?_
          refine z_ldcs (j := 0) rfl (by decide) dX2_readClause_66 ?_
          have hw0 : isW (tx M) (M 17 1) (M 17 4) 0 := by
            apply Classical.byContradiction
            intro z
            exact hkn (kd_n q1.2.1 q2.2.1 q3.2.1 q4.2.1 z)
          have hkd : (kdW (tx M) (M 17 1) (M 17 4)) = 4 := kd_0 hw0
          have hle := isW_le (by decide) hw0
          have hwl := wl_b (show 0 < 11 by decide)
          have hR5 : Rs M (s0 (M 17 4)) Mz8 := by
            rw [q4.2.2, hM1]
            have := Rs_s0 (q := M 17 4) h2 h3
            rw [st_self (M := st M 17 6 0) (by rw [st_at, if_neg (by decide)])] at this
            exact this
          have hop : opW (tx M) (M 17 1) 0 (s0 (M 17 4)) = s0 (M 17 4 + wl 0) := by
            unfold opW
            rw [if_pos (show (s0 (M 17 4)).1.1 = 0 from rfl), show (s0 (M 17 4)).1.2.2 = M 17 4 from rfl, hsk, if_pos hw0]
            rfl
          have hok5 : SOk (M 17 1) (s0 (M 17 4)) := fun _ => ⟨by show 0 ≤ M 17 4; omega, by show M 17 4 ≤ M 17 1; omega⟩
          have hok0 : SOk (M 17 1) (s0 (M 17 4 + wl 0)) := fun _ => ⟨by show 0 ≤ M 17 4 + wl 0; omega, by show M 17 4 + wl 0 ≤ M 17 1; omega⟩
          refine z_callVi (n2 := 93) (A_X2_readWord l g Mz8 0 (by decide) _ ((s0 (M 17 4))) (hR5) (rfl) (hok5) (hn)) cb_X2_readWord cl_X2_86 (clr0 rfl rfl (by decide) (by decide)) rfl (by decide) ⟨_, rfl, rfl⟩ rfl (by decide) rfl (Nat.le_of_ble_eq_true rfl) rfl dX2_readClause_68 (fun x10 Mz10 bx10 kMz10 hc10 => ?_)
          have hrw := hc10
          rw [hop] at hrw
          refine z_if_eq (tgt := 86) dX2_readClause_71 (by decide) (fun c11 => ?_) (fun c11 => ?_)
          · refine z_iconst dX2_readClause_86 ⟨by decide, by decide⟩ ?_
            refine z_zret rfl (by omega) (by decide) rfl (Nat.sub_self _) dX2_readClause_87 ?_
            have hC : (clR (tx M) (M 17 1) (M 17 4) (kdW (tx M) (M 17 1) (M 17 4))) = clC (tx M) (M 17 1) (s0 (M 17 4 + wl 0)) := by unfold clR; rw [hkd, if_neg (by decide), if_neg (by decide), if_neg (by decide), if_neg (by decide)]
            rw [hC, hkd]
            first
            | (rcases hres with ⟨a, b, M1, c, d⟩ | ⟨a, b, c⟩
               · first
                 | (exfalso; omega)
                 | exact Or.inl ⟨rfl, b, M1, c, d⟩
               · first
                 | (exfalso; omega)
                 | exact Or.inr ⟨rfl, b, c⟩)
            | (exfalso
               rcases hrw.2 with h | h
               · omega
               · exact h.2 rfl)
          · refine z_aload_nr dX2_readClause_74 rfl ?_
            refine z_aload_nr dX2_readClause_75 rfl ?_
            refine z_callVi (n2 := 93) (A_X2_readClaim42 l g Mz10 _ ((s0 (M 17 4 + wl 0))) (hrw.1) (rfl) (hok0) (hn) (rfl) (hcl hkd)) cb_X2_readClaim cl_X2_89 (clr0 rfl rfl (by decide) (by decide)) rfl (by decide) ⟨_, rfl, rfl⟩ rfl (by decide) rfl (Nat.le_of_ble_eq_true rfl) rfl dX2_readClause_76 (fun x12 Mz12 bx12 kMz12 hc12 => ?_)
            have hres := hc12
            refine z_if_eq (tgt := 86) dX2_readClause_79 (by decide) (fun c13 => ?_) (fun c13 => ?_)
            · refine z_iconst dX2_readClause_86 ⟨by decide, by decide⟩ ?_
              refine z_zret rfl (by omega) (by decide) rfl (Nat.sub_self _) dX2_readClause_87 ?_
              have hC : (clR (tx M) (M 17 1) (M 17 4) (kdW (tx M) (M 17 1) (M 17 4))) = clC (tx M) (M 17 1) (s0 (M 17 4 + wl 0)) := by unfold clR; rw [hkd, if_neg (by decide), if_neg (by decide), if_neg (by decide), if_neg (by decide)]
              rw [hC, hkd]
              first
              | (rcases hres with ⟨a, b, M1, c, d⟩ | ⟨a, b, c⟩
                 · first
                   | (exfalso; omega)
                   | exact Or.inl ⟨rfl, b, M1, c, d⟩
                 · first
                   | (exfalso; omega)
                   | exact Or.inr ⟨rfl, b, c⟩)
              | (exfalso
                 rcases hrw.2 with h | h
                 · omega
                 · exact h.2 rfl)
            · refine z_iconst dX2_readClause_82 ⟨by decide, by decide⟩ ?_
              refine z_goto (tgt := 87) dX2_readClause_83 (by decide) ?_
              refine z_zret rfl (by omega) (by decide) rfl (Nat.sub_self _) dX2_readClause_87 ?_
              have hC : (clR (tx M) (M 17 1) (M 17 4) (kdW (tx M) (M 17 1) (M 17 4))) = clC (tx M) (M 17 1) (s0 (M 17 4 + wl 0)) := by unfold clR; rw [hkd, if_neg (by decide), if_neg (by decide), if_neg (by decide), if_neg (by decide)]
              rw [hC, hkd]
              first
              | (rcases hres with ⟨a, b, M1, c, d⟩ | ⟨a, b, c⟩
                 · first
                   | (exfalso; omega)
                   | exact Or.inl ⟨rfl, b, M1, c, d⟩
                 · first
                   | (exfalso; omega)
                   | exact Or.inr ⟨rfl, b, c⟩)
              | (exfalso
                 rcases hrw.2 with h | h
                 · omega
                 · exact h.2 rfl)
        · have hw4 : isW (tx M) (M 17 1) (M 17 4) 4 ∧ Mz8 = st (st M 17 6 0) 17 4 (M 17 4 + wl 4) := by
            rcases k4 with h | h
            · exact ⟨h.2.1, by rw [h.2.2, hM1]⟩
            · exfalso; omega
          have hkd : (kdW (tx M) (M 17 1) (M 17 4)) = 3 := kd_4 hw4.1
          have hle := isW_le (by decide) hw4.1
          have hwl := wl_b (show 4 < 11 by decide)
          have hsk4 : SOk (M 17 1) (s0 (M 17 4 + wl 4)) := fun _ => ⟨by show 0 ≤ M 17 4 + wl 4; omega, by show M 17 4 + wl 4 ≤ M 17 1; omega⟩
          refine z_aload_nr dX2_readClause_59 rfl ?_
          refine z_aload_nr dX2_readClause_60 rfl ?_
          refine z_callVi (n2 := 93) (A_X2_readOwn42 l g Mz8 _ ((s0 (M 17 4 + wl 4))) (by rw [hw4.2]; exact Rs_s0 h2 h3) (rfl) (hsk4) (hn) (rfl)) cb_X2_readOwn cl_X2_83 (clr0 rfl rfl (by decide) (by decide)) rfl (by decide) ⟨_, rfl, rfl⟩ rfl (by decide) rfl (Nat.le_of_ble_eq_true rfl) rfl dX2_readClause_61 (fun x14 Mz14 bx14 kMz14 hc14 => ?_)
          have hres := hc14
          refine z_zret rfl (by omega) (by decide) rfl (Nat.sub_self _) dX2_readClause_64 ?_
          have hC : (clR (tx M) (M 17 1) (M 17 4) (kdW (tx M) (M 17 1) (M 17 4))) = clO (tx M) (M 17 1) (s0 (M 17 4 + wl 4)) := by unfold clR; rw [hkd, if_neg (by decide), if_neg (by decide), if_neg (by decide), if_pos rfl]
          rw [hC, hkd]
          rcases hres with ⟨a, b, M1, c, d⟩ | ⟨a, b, c⟩
          · exact Or.inl ⟨a, b, M1, c, by rw [d]; rfl⟩
          · exact Or.inr ⟨a, b, c⟩
      · have hw3 : isW (tx M) (M 17 1) (M 17 4) 3 ∧ Mz6 = st (st M 17 6 0) 17 4 (M 17 4 + wl 3) := by
          rcases k3 with h | h
          · exact ⟨h.2.1, by rw [h.2.2, hM1]⟩
          · exfalso; omega
        have hkd : (kdW (tx M) (M 17 1) (M 17 4)) = 2 := kd_3 hw3.1
        have hle := isW_le (by decide) hw3.1
        have hwl := wl_b (show 3 < 11 by decide)
        have hsk3 : SOk (M 17 1) (s0 (M 17 4 + wl 3)) := fun _ => ⟨by show 0 ≤ M 17 4 + wl 3; omega, by show M 17 4 + wl 3 ≤ M 17 1; omega⟩
        refine z_aload_nr dX2_readClause_44 rfl ?_
        refine z_aload_nr dX2_readClause_45 rfl ?_
        refine z_callVi (n2 := 93) (A_X2_readBlur42 l g Mz6 _ ((s0 (M 17 4 + wl 3))) (by rw [hw3.2]; exact Rs_s0 h2 h3) (rfl) (hsk3) (hn) (rfl)) cb_X2_readBlur cl_X2_80 (clr0 rfl rfl (by decide) (by decide)) rfl (by decide) ⟨_, rfl, rfl⟩ rfl (by decide) rfl (Nat.le_of_ble_eq_true rfl) rfl dX2_readClause_46 (fun x15 Mz15 bx15 kMz15 hc15 => ?_)
        have hres := hc15
        refine z_zret rfl (by omega) (by decide) rfl (Nat.sub_self _) dX2_readClause_49 ?_
        have hC : (clR (tx M) (M 17 1) (M 17 4) (kdW (tx M) (M 17 1) (M 17 4))) = clB (tx M) (M 17 1) (s0 (M 17 4 + wl 3)) := by unfold clR; rw [hkd, if_neg (by decide), if_neg (by decide), if_pos rfl]
        rw [hC, hkd]
        rcases hres with ⟨a, b, M1, c, d⟩ | ⟨a, b, c⟩
        · exact Or.inl ⟨a, b, M1, c, by rw [d]; rfl⟩
        · exact Or.inr ⟨a, b, c⟩
    · have hw2 : isW (tx M) (M 17 1) (M 17 4) 2 ∧ Mz4 = st (st M 17 6 0) 17 4 (M 17 4 + wl 2) := by
        rcases k2 with h | h
        · exact ⟨h.2.1, by rw [h.2.2, hM1]⟩
        · exfalso; omega
      have hkd : (kdW (tx M) (M 17 1) (M 17 4)) = 1 := kd_2 hw2.1
      have hle := isW_le (by decide) hw2.1
      have hwl := wl_b (show 2 < 11 by decide)
      have hsk2 : SOk (M 17 1) (s0 (M 17 4 + wl 2)) := fun _ => ⟨by show 0 ≤ M 17 4 + wl 2; omega, by show M 17 4 + wl 2 ≤ M 17 1; omega⟩
      refine z_aload_nr dX2_readClause_29 rfl ?_
      refine z_aload_nr dX2_readClause_30 rfl ?_
      refine z_callVi (n2 := 93) (A_X2_readDust42 l g Mz4 _ ((s0 (M 17 4 + wl 2))) (by rw [hw2.2]; exact Rs_s0 h2 h3) (rfl) (hsk2) (hn) (rfl)) cb_X2_readDust cl_X2_77 (clr0 rfl rfl (by decide) (by decide)) rfl (by decide) ⟨_, rfl, rfl⟩ rfl (by decide) rfl (Nat.le_of_ble_eq_true rfl) rfl dX2_readClause_31 (fun x16 Mz16 bx16 kMz16 hc16 => ?_)
      have hres := hc16
      refine z_zret rfl (by omega) (by decide) rfl (Nat.sub_self _) dX2_readClause_34 ?_
      have hC : (clR (tx M) (M 17 1) (M 17 4) (kdW (tx M) (M 17 1) (M 17 4))) = clD (tx M) (M 17 1) (s0 (M 17 4 + wl 2)) := by unfold clR; rw [hkd, if_neg (by decide), if_pos rfl]
      rw [hC, hkd]
      rcases hres with ⟨a, b, M1, c, d⟩ | ⟨a, b, c⟩
      · exact Or.inl ⟨a, b, M1, c, by rw [d]; rfl⟩
      · exact Or.inr ⟨a, b, c⟩
  · have hw1 : isW (tx M) (M 17 1) (M 17 4) 1 ∧ Mz2 = st (st M 17 6 0) 17 4 (M 17 4 + wl 1) := by
      rcases k1 with h | h
      · exact ⟨h.2.1, by rw [h.2.2, hM1]⟩
      · exfalso; omega
    have hkd : (kdW (tx M) (M 17 1) (M 17 4)) = 0 := kd_1 hw1.1
    have hle := isW_le (by decide) hw1.1
    have hwl := wl_b (show 1 < 11 by decide)
    have hsk1 : SOk (M 17 1) (s0 (M 17 4 + wl 1)) := fun _ => ⟨by show 0 ≤ M 17 4 + wl 1; omega, by show M 17 4 + wl 1 ≤ M 17 1; omega⟩
    refine z_aload_nr dX2_readClause_14 rfl ?_
    refine z_aload_nr dX2_readClause_15 rfl ?_
    refine z_callVi (n2 := 93) (A_X2_readSort42 l g Mz2 _ ((s0 (M 17 4 + wl 1))) (by rw [hw1.2]; exact Rs_s0 h2 h3) (rfl) (hsk1) (hn) (rfl)) cb_X2_readSort cl_X2_74 (clr0 rfl rfl (by decide) (by decide)) rfl (by decide) ⟨_, rfl, rfl⟩ rfl (by decide) rfl (Nat.le_of_ble_eq_true rfl) rfl dX2_readClause_16 (fun x17 Mz17 bx17 kMz17 hc17 => ?_)
    have hres := hc17
    refine z_zret rfl (by omega) (by decide) rfl (Nat.sub_self _) dX2_readClause_19 ?_
    have hC : (clR (tx M) (M 17 1) (M 17 4) (kdW (tx M) (M 17 1) (M 17 4))) = clS (tx M) (M 17 1) (s0 (M 17 4 + wl 1)) := by unfold clR; rw [hkd, if_pos rfl]
    rw [hC, hkd]
    rcases hres with ⟨a, b, M1, c, d⟩ | ⟨a, b, c⟩
    · exact Or.inl ⟨a, b, M1, c, by rw [d]; rfl⟩
    · exact Or.inr ⟨a, b, c⟩
set_option maxHeartbeats 1600000 in
theorem A_X2_mayBegin51 (l : Launch) (g : Cx) (M : FMem) (ahead : Int) (h0 : 0 ≤ M 17 4 ∧ M 17 4 ≤ 240) (hn : M 17 1 ≤ 240) : AMi l g true fi_X2_mayBegin [fr 17, fr 51, fi ahead] 93 M (fun q M2 => (q = 1 ∧ bgC (kdW (tx M) (M 17 1) (M 17 4)) (M 51 11) ahead = 0 ∧ M2 = M) ∨ (q = 0 ∧ bgC (kdW (tx M) (M 17 1) (M 17 4)) (M 51 11) ahead ≠ 0 ∧ M2 = st (st M 17 2 (bgC (kdW (tx M) (M 17 1) (M 17 4)) (M 51 11) ahead)) 17 3 (M 17 4))) := by
  refine AMi_intro [fr 17, fr 51, fi ahead, fu] (by decide) (knall rfl) (Nat.le_of_ble_eq_true rfl) rfl ?_
  intro hNV hM0 μ
  have bahead : N32 ahead := hNV (fi ahead) (by simp)
  refine z_aload_nr dX2_mayBegin_0 rfl ?_
  refine z_ldcs (j := 0) rfl (by decide) dX2_mayBegin_1 ?_
  refine z_callVip (n2 := 93) (A_X2_isWord l g M 0 (by decide) (h0) (hn)) cb_X2_isWord cl_X2_52 (clr0 rfl rfl (by decide) (by decide)) rfl (by decide) ⟨_, rfl, rfl⟩ rfl (by decide) rfl (Nat.le_of_ble_eq_true rfl) rfl dX2_mayBegin_3 (fun x1 bx1 hx1 => ?_)
  have w0 := hx1
  refine z_istore_n (loc2 := [fr 17, fr 51, fi ahead, fi x1]) dX2_mayBegin_6 (by decide) rfl ?_
  refine z_iload_n dX2_mayBegin_7 rfl ?_
  refine z_if_ne (tgt := 57) dX2_mayBegin_8 (by decide) (fun c2 => ?_) (fun c2 => ?_)
  · refine z_iload_n dX2_mayBegin_57 rfl ?_
    refine z_if_eq (tgt := 80) dX2_mayBegin_58 (by decide) (fun c3 => ?_) (fun c3 => ?_)
    · refine z_iload_n dX2_mayBegin_80 rfl ?_
      refine z_bipush dX2_mayBegin_81 ⟨by decide, by decide⟩ (by decide) ?_
      refine z_icmp_lt (tgt := 98) dX2_mayBegin_83 (by decide) (fun c4 => ?_) (fun c4 => ?_)
      · refine z_iconst dX2_mayBegin_98 ⟨by decide, by decide⟩ ?_
        refine z_goto (tgt := 103) dX2_mayBegin_99 (by decide) ?_
        refine z_zret rfl (by omega) (by decide) rfl (Nat.sub_self _) dX2_mayBegin_103 ?_
        have hk : 0 ≤ (kdW (tx M) (M 17 1) (M 17 4)) ∧ (kdW (tx M) (M 17 1) (M 17 4)) ≤ 4 ∧ ¬ ((kdW (tx M) (M 17 1) (M 17 4)) = 4 ∧ 8 ≤ M 51 11) := by
          first
          | (have hq : (kdW (tx M) (M 17 1) (M 17 4)) = 4 := by
               rcases w0 with h | h
               · exact kd_0 h.2
               · exfalso; omega
             omega)
          | (have hq : (kdW (tx M) (M 17 1) (M 17 4)) = 0 := by
               rcases w1 with h | h
               · exact kd_1 h.2
               · exfalso; omega
             omega)
          | (have hq : (kdW (tx M) (M 17 1) (M 17 4)) = 1 := by
               rcases w2 with h | h
               · exact kd_2 h.2
               · exfalso; omega
             omega)
          | (have hq : (kdW (tx M) (M 17 1) (M 17 4)) = 2 := by
               rcases w3 with h | h
               · exact kd_3 h.2
               · exfalso; omega
             omega)
          | (have hq : (kdW (tx M) (M 17 1) (M 17 4)) = 3 := by
               rcases w4 with h | h
               · exact kd_4 h.2
               · exfalso; omega
             omega)
        first
        | (have hb : bgC (kdW (tx M) (M 17 1) (M 17 4)) (M 51 11) ahead = 0 := by unfold bgC; rw [if_neg (by omega), if_neg hk.2.2, if_neg (by omega)]
           rw [hb]
           exact Or.inl ⟨rfl, rfl, rfl⟩)
        | (have hb : bgC (kdW (tx M) (M 17 1) (M 17 4)) (M 51 11) ahead = 4 := by unfold bgC; rw [if_neg (by omega), if_neg hk.2.2, if_pos (by omega)]
           rw [hb]
           refine Or.inr ⟨rfl, by decide, ?_⟩
           rw [hfl.2, epf])
        | (exfalso; omega)
      · refine z_aload_nr dX2_mayBegin_86 rfl ?_
        refine z_iconst dX2_mayBegin_87 ⟨by decide, by decide⟩ ?_
        refine z_aload_nr dX2_mayBegin_88 rfl ?_
        refine z_geti (kz := 4) fl_X2_25 rfl (by decide) rfl dX2_mayBegin_89 (fun x5 hx5 bx5 => ?_)
        have epf : x5 = M 17 4 := by omega
        refine z_callVi (n2 := 93) (A_X2_fail l g M 4 x5) cb_X2_fail cl_X2_64 (clr0 rfl rfl (by decide) (by decide)) rfl (by decide) ⟨_, rfl, rfl⟩ rfl (by decide) rfl (Nat.le_of_ble_eq_true rfl) rfl dX2_mayBegin_92 (fun x6 Mz6 bx6 kMz6 hc6 => ?_)
        have hfl := hc6
        refine z_if_eq (tgt := 102) dX2_mayBegin_95 (by decide) (fun c7 => ?_) (fun c7 => ?_)
        · refine z_iconst dX2_mayBegin_102 ⟨by decide, by decide⟩ ?_
          refine z_zret rfl (by omega) (by decide) rfl (Nat.sub_self _) dX2_mayBegin_103 ?_
          have hk : 0 ≤ (kdW (tx M) (M 17 1) (M 17 4)) ∧ (kdW (tx M) (M 17 1) (M 17 4)) ≤ 4 ∧ ¬ ((kdW (tx M) (M 17 1) (M 17 4)) = 4 ∧ 8 ≤ M 51 11) := by
            first
            | (have hq : (kdW (tx M) (M 17 1) (M 17 4)) = 4 := by
                 rcases w0 with h | h
                 · exact kd_0 h.2
                 · exfalso; omega
               omega)
            | (have hq : (kdW (tx M) (M 17 1) (M 17 4)) = 0 := by
                 rcases w1 with h | h
                 · exact kd_1 h.2
                 · exfalso; omega
               omega)
            | (have hq : (kdW (tx M) (M 17 1) (M 17 4)) = 1 := by
                 rcases w2 with h | h
                 · exact kd_2 h.2
                 · exfalso; omega
               omega)
            | (have hq : (kdW (tx M) (M 17 1) (M 17 4)) = 2 := by
                 rcases w3 with h | h
                 · exact kd_3 h.2
                 · exfalso; omega
               omega)
            | (have hq : (kdW (tx M) (M 17 1) (M 17 4)) = 3 := by
                 rcases w4 with h | h
                 · exact kd_4 h.2
                 · exfalso; omega
               omega)
          first
          | (have hb : bgC (kdW (tx M) (M 17 1) (M 17 4)) (M 51 11) ahead = 0 := by unfold bgC; rw [if_neg (by omega), if_neg hk.2.2, if_neg (by omega)]
             rw [hb]
             exact Or.inl ⟨rfl, rfl, rfl⟩)
          | (have hb : bgC (kdW (tx M) (M 17 1) (M 17 4)) (M 51 11) ahead = 4 := by unfold bgC; rw [if_neg (by omega), if_neg hk.2.2, if_pos (by omega)]
             rw [hb]
             refine Or.inr ⟨rfl, by decide, ?_⟩
             rw [hfl.2, epf])
          | (exfalso; omega)
        · refine z_iconst dX2_mayBegin_98 ⟨by decide, by decide⟩ ?_
          refine z_goto (tgt := 103) dX2_mayBegin_99 (by decide) ?_
          refine z_zret rfl (by omega) (by decide) rfl (Nat.sub_self _) dX2_mayBegin_103 ?_
          have hk : 0 ≤ (kdW (tx M) (M 17 1) (M 17 4)) ∧ (kdW (tx M) (M 17 1) (M 17 4)) ≤ 4 ∧ ¬ ((kdW (tx M) (M 17 1) (M 17 4)) = 4 ∧ 8 ≤ M 51 11) := by
            first
            | (have hq : (kdW (tx M) (M 17 1) (M 17 4)) = 4 := by
                 rcases w0 with h | h
                 · exact kd_0 h.2
                 · exfalso; omega
               omega)
            | (have hq : (kdW (tx M) (M 17 1) (M 17 4)) = 0 := by
                 rcases w1 with h | h
                 · exact kd_1 h.2
                 · exfalso; omega
               omega)
            | (have hq : (kdW (tx M) (M 17 1) (M 17 4)) = 1 := by
                 rcases w2 with h | h
                 · exact kd_2 h.2
                 · exfalso; omega
               omega)
            | (have hq : (kdW (tx M) (M 17 1) (M 17 4)) = 2 := by
                 rcases w3 with h | h
                 · exact kd_3 h.2
                 · exfalso; omega
               omega)
            | (have hq : (kdW (tx M) (M 17 1) (M 17 4)) = 3 := by
                 rcases w4 with h | h
                 · exact kd_4 h.2
                 · exfalso; omega
               omega)
          first
          | (have hb : bgC (kdW (tx M) (M 17 1) (M 17 4)) (M 51 11) ahead = 0 := by unfold bgC; rw [if_neg (by omega), if_neg hk.2.2, if_neg (by omega)]
             rw [hb]
             exact Or.inl ⟨rfl, rfl, rfl⟩)
          | (have hb : bgC (kdW (tx M) (M 17 1) (M 17 4)) (M 51 11) ahead = 4 := by unfold bgC; rw [if_neg (by omega), if_neg hk.2.2, if_pos (by omega)]
             rw [hb]
             refine Or.inr ⟨rfl, by decide, ?_⟩
             rw [hfl.2, epf])
          | (exfalso; omega)
    · refine z_aload_nr dX2_mayBegin_61 rfl ?_
      refine z_geti (kz := 11) fl_X2_68 rfl (by decide) rfl dX2_mayBegin_62 (fun x8 hx8 bx8 => ?_)
      refine z_bipush dX2_mayBegin_65 ⟨by decide, by decide⟩ (by decide) ?_
      refine z_icmp_lt (tgt := 80) dX2_mayBegin_67 (by decide) (fun c9 => ?_) (fun c9 => ?_)
      · refine z_iload_n dX2_mayBegin_80 rfl ?_
        refine z_bipush dX2_mayBegin_81 ⟨by decide, by decide⟩ (by decide) ?_
        refine z_icmp_lt (tgt := 98) dX2_mayBegin_83 (by decide) (fun c10 => ?_) (fun c10 => ?_)
        · refine z_iconst dX2_mayBegin_98 ⟨by decide, by decide⟩ ?_
          refine z_goto (tgt := 103) dX2_mayBegin_99 (by decide) ?_
          refine z_zret rfl (by omega) (by decide) rfl (Nat.sub_self _) dX2_mayBegin_103 ?_
          have hk : 0 ≤ (kdW (tx M) (M 17 1) (M 17 4)) ∧ (kdW (tx M) (M 17 1) (M 17 4)) ≤ 4 ∧ ¬ ((kdW (tx M) (M 17 1) (M 17 4)) = 4 ∧ 8 ≤ M 51 11) := by
            first
            | (have hq : (kdW (tx M) (M 17 1) (M 17 4)) = 4 := by
                 rcases w0 with h | h
                 · exact kd_0 h.2
                 · exfalso; omega
               omega)
            | (have hq : (kdW (tx M) (M 17 1) (M 17 4)) = 0 := by
                 rcases w1 with h | h
                 · exact kd_1 h.2
                 · exfalso; omega
               omega)
            | (have hq : (kdW (tx M) (M 17 1) (M 17 4)) = 1 := by
                 rcases w2 with h | h
                 · exact kd_2 h.2
                 · exfalso; omega
               omega)
            | (have hq : (kdW (tx M) (M 17 1) (M 17 4)) = 2 := by
                 rcases w3 with h | h
                 · exact kd_3 h.2
                 · exfalso; omega
               omega)
            | (have hq : (kdW (tx M) (M 17 1) (M 17 4)) = 3 := by
                 rcases w4 with h | h
                 · exact kd_4 h.2
                 · exfalso; omega
               omega)
          first
          | (have hb : bgC (kdW (tx M) (M 17 1) (M 17 4)) (M 51 11) ahead = 0 := by unfold bgC; rw [if_neg (by omega), if_neg hk.2.2, if_neg (by omega)]
             rw [hb]
             exact Or.inl ⟨rfl, rfl, rfl⟩)
          | (have hb : bgC (kdW (tx M) (M 17 1) (M 17 4)) (M 51 11) ahead = 4 := by unfold bgC; rw [if_neg (by omega), if_neg hk.2.2, if_pos (by omega)]
             rw [hb]
             refine Or.inr ⟨rfl, by decide, ?_⟩
             rw [hfl.2, epf])
          | (exfalso; omega)
        · refine z_aload_nr dX2_mayBegin_86 rfl ?_
          refine z_iconst dX2_mayBegin_87 ⟨by decide, by decide⟩ ?_
          refine z_aload_nr dX2_mayBegin_88 rfl ?_
          refine z_geti (kz := 4) fl_X2_25 rfl (by decide) rfl dX2_mayBegin_89 (fun x11 hx11 bx11 => ?_)
          have epf : x11 = M 17 4 := by omega
          refine z_callVi (n2 := 93) (A_X2_fail l g M 4 x11) cb_X2_fail cl_X2_64 (clr0 rfl rfl (by decide) (by decide)) rfl (by decide) ⟨_, rfl, rfl⟩ rfl (by decide) rfl (Nat.le_of_ble_eq_true rfl) rfl dX2_mayBegin_92 (fun x12 Mz12 bx12 kMz12 hc12 => ?_)
          have hfl := hc12
          refine z_if_eq (tgt := 102) dX2_mayBegin_95 (by decide) (fun c13 => ?_) (fun c13 => ?_)
          · refine z_iconst dX2_mayBegin_102 ⟨by decide, by decide⟩ ?_
            refine z_zret rfl (by omega) (by decide) rfl (Nat.sub_self _) dX2_mayBegin_103 ?_
            have hk : 0 ≤ (kdW (tx M) (M 17 1) (M 17 4)) ∧ (kdW (tx M) (M 17 1) (M 17 4)) ≤ 4 ∧ ¬ ((kdW (tx M) (M 17 1) (M 17 4)) = 4 ∧ 8 ≤ M 51 11) := by
              first
              | (have hq : (kdW (tx M) (M 17 1) (M 17 4)) = 4 := by
                   rcases w0 with h | h
                   · exact kd_0 h.2
                   · exfalso; omega
                 omega)
              | (have hq : (kdW (tx M) (M 17 1) (M 17 4)) = 0 := by
                   rcases w1 with h | h
                   · exact kd_1 h.2
                   · exfalso; omega
                 omega)
              | (have hq : (kdW (tx M) (M 17 1) (M 17 4)) = 1 := by
                   rcases w2 with h | h
                   · exact kd_2 h.2
                   · exfalso; omega
                 omega)
              | (have hq : (kdW (tx M) (M 17 1) (M 17 4)) = 2 := by
                   rcases w3 with h | h
                   · exact kd_3 h.2
                   · exfalso; omega
                 omega)
              | (have hq : (kdW (tx M) (M 17 1) (M 17 4)) = 3 := by
                   rcases w4 with h | h
                   · exact kd_4 h.2
                   · exfalso; omega
                 omega)
            first
            | (have hb : bgC (kdW (tx M) (M 17 1) (M 17 4)) (M 51 11) ahead = 0 := by unfold bgC; rw [if_neg (by omega), if_neg hk.2.2, if_neg (by omega)]
               rw [hb]
               exact Or.inl ⟨rfl, rfl, rfl⟩)
            | (have hb : bgC (kdW (tx M) (M 17 1) (M 17 4)) (M 51 11) ahead = 4 := by unfold bgC; rw [if_neg (by omega), if_neg hk.2.2, if_pos (by omega)]
               rw [hb]
               refine Or.inr ⟨rfl, by decide, ?_⟩
               rw [hfl.2, epf])
            | (exfalso; omega)
          · refine z_iconst dX2_mayBegin_98 ⟨by decide, by decide⟩ ?_
            refine z_goto (tgt := 103) dX2_mayBegin_99 (by decide) ?_
            refine z_zret rfl (by omega) (by decide) rfl (Nat.sub_self _) dX2_mayBegin_103 ?_
            have hk : 0 ≤ (kdW (tx M) (M 17 1) (M 17 4)) ∧ (kdW (tx M) (M 17 1) (M 17 4)) ≤ 4 ∧ ¬ ((kdW (tx M) (M 17 1) (M 17 4)) = 4 ∧ 8 ≤ M 51 11) := by
              first
              | (have hq : (kdW (tx M) (M 17 1) (M 17 4)) = 4 := by
                   rcases w0 with h | h
                   · exact kd_0 h.2
                   · exfalso; omega
                 omega)
              | (have hq : (kdW (tx M) (M 17 1) (M 17 4)) = 0 := by
                   rcases w1 with h | h
                   · exact kd_1 h.2
                   · exfalso; omega
                 omega)
              | (have hq : (kdW (tx M) (M 17 1) (M 17 4)) = 1 := by
                   rcases w2 with h | h
                   · exact kd_2 h.2
                   · exfalso; omega
                 omega)
              | (have hq : (kdW (tx M) (M 17 1) (M 17 4)) = 2 := by
                   rcases w3 with h | h
                   · exact kd_3 h.2
                   · exfalso; omega
                 omega)
              | (have hq : (kdW (tx M) (M 17 1) (M 17 4)) = 3 := by
                   rcases w4 with h | h
                   · exact kd_4 h.2
                   · exfalso; omega
                 omega)
            first
            | (have hb : bgC (kdW (tx M) (M 17 1) (M 17 4)) (M 51 11) ahead = 0 := by unfold bgC; rw [if_neg (by omega), if_neg hk.2.2, if_neg (by omega)]
               rw [hb]
               exact Or.inl ⟨rfl, rfl, rfl⟩)
            | (have hb : bgC (kdW (tx M) (M 17 1) (M 17 4)) (M 51 11) ahead = 4 := by unfold bgC; rw [if_neg (by omega), if_neg hk.2.2, if_pos (by omega)]
               rw [hb]
               refine Or.inr ⟨rfl, by decide, ?_⟩
               rw [hfl.2, epf])
            | (exfalso; omega)
      · refine z_aload_nr dX2_mayBegin_70 rfl ?_
        refine z_iconst dX2_mayBegin_71 ⟨by decide, by decide⟩ ?_
        refine z_aload_nr dX2_mayBegin_72 rfl ?_
        refine z_geti (kz := 4) fl_X2_25 rfl (by decide) rfl dX2_mayBegin_73 (fun x14 hx14 bx14 => ?_)
        have epf : x14 = M 17 4 := by omega
        refine z_callVi (n2 := 93) (A_X2_fail l g M 3 x14) cb_X2_fail cl_X2_64 (clr0 rfl rfl (by decide) (by decide)) rfl (by decide) ⟨_, rfl, rfl⟩ rfl (by decide) rfl (Nat.le_of_ble_eq_true rfl) rfl dX2_mayBegin_76 (fun x15 Mz15 bx15 kMz15 hc15 => ?_)
        have hfl := hc15
        refine z_zret rfl (by omega) (by decide) rfl (Nat.sub_self _) dX2_mayBegin_79 ?_
        have hk : (kdW (tx M) (M 17 1) (M 17 4)) = 4 := by
          rcases w0 with h | h
          · exact kd_0 h.2
          · exfalso; omega
        have hb : bgC (kdW (tx M) (M 17 1) (M 17 4)) (M 51 11) ahead = 3 := by unfold bgC; rw [if_neg (by omega), if_pos (by omega)]
        rw [hb]
        refine Or.inr ⟨hfl.1, by decide, ?_⟩
        rw [hfl.2, epf]
  · refine z_aload_nr dX2_mayBegin_11 rfl ?_
    refine z_ldcs (j := 1) rfl (by decide) dX2_mayBegin_12 ?_
    refine z_callVip (n2 := 93) (A_X2_isWord l g M 1 (by decide) (h0) (hn)) cb_X2_isWord cl_X2_52 (clr0 rfl rfl (by decide) (by decide)) rfl (by decide) ⟨_, rfl, rfl⟩ rfl (by decide) rfl (Nat.le_of_ble_eq_true rfl) rfl dX2_mayBegin_14 (fun x16 bx16 hx16 => ?_)
    have w1 := hx16
    refine z_if_ne (tgt := 57) dX2_mayBegin_17 (by decide) (fun c17 => ?_) (fun c17 => ?_)
    · refine z_iload_n dX2_mayBegin_57 rfl ?_
      refine z_if_eq (tgt := 80) dX2_mayBegin_58 (by decide) (fun c18 => ?_) (fun c18 => ?_)
      · refine z_iload_n dX2_mayBegin_80 rfl ?_
        refine z_bipush dX2_mayBegin_81 ⟨by decide, by decide⟩ (by decide) ?_
        refine z_icmp_lt (tgt := 98) dX2_mayBegin_83 (by decide) (fun c19 => ?_) (fun c19 => ?_)
        · refine z_iconst dX2_mayBegin_98 ⟨by decide, by decide⟩ ?_
          refine z_goto (tgt := 103) dX2_mayBegin_99 (by decide) ?_
          refine z_zret rfl (by omega) (by decide) rfl (Nat.sub_self _) dX2_mayBegin_103 ?_
          have hk : 0 ≤ (kdW (tx M) (M 17 1) (M 17 4)) ∧ (kdW (tx M) (M 17 1) (M 17 4)) ≤ 4 ∧ ¬ ((kdW (tx M) (M 17 1) (M 17 4)) = 4 ∧ 8 ≤ M 51 11) := by
            first
            | (have hq : (kdW (tx M) (M 17 1) (M 17 4)) = 4 := by
                 rcases w0 with h | h
                 · exact kd_0 h.2
                 · exfalso; omega
               omega)
            | (have hq : (kdW (tx M) (M 17 1) (M 17 4)) = 0 := by
                 rcases w1 with h | h
                 · exact kd_1 h.2
                 · exfalso; omega
               omega)
            | (have hq : (kdW (tx M) (M 17 1) (M 17 4)) = 1 := by
                 rcases w2 with h | h
                 · exact kd_2 h.2
                 · exfalso; omega
               omega)
            | (have hq : (kdW (tx M) (M 17 1) (M 17 4)) = 2 := by
                 rcases w3 with h | h
                 · exact kd_3 h.2
                 · exfalso; omega
               omega)
            | (have hq : (kdW (tx M) (M 17 1) (M 17 4)) = 3 := by
                 rcases w4 with h | h
                 · exact kd_4 h.2
                 · exfalso; omega
               omega)
          first
          | (have hb : bgC (kdW (tx M) (M 17 1) (M 17 4)) (M 51 11) ahead = 0 := by unfold bgC; rw [if_neg (by omega), if_neg hk.2.2, if_neg (by omega)]
             rw [hb]
             exact Or.inl ⟨rfl, rfl, rfl⟩)
          | (have hb : bgC (kdW (tx M) (M 17 1) (M 17 4)) (M 51 11) ahead = 4 := by unfold bgC; rw [if_neg (by omega), if_neg hk.2.2, if_pos (by omega)]
             rw [hb]
             refine Or.inr ⟨rfl, by decide, ?_⟩
             rw [hfl.2, epf])
          | (exfalso; omega)
        · refine z_aload_nr dX2_mayBegin_86 rfl ?_
          refine z_iconst dX2_mayBegin_87 ⟨by decide, by decide⟩ ?_
          refine z_aload_nr dX2_mayBegin_88 rfl ?_
          refine z_geti (kz := 4) fl_X2_25 rfl (by decide) rfl dX2_mayBegin_89 (fun x20 hx20 bx20 => ?_)
          have epf : x20 = M 17 4 := by omega
          refine z_callVi (n2 := 93) (A_X2_fail l g M 4 x20) cb_X2_fail cl_X2_64 (clr0 rfl rfl (by decide) (by decide)) rfl (by decide) ⟨_, rfl, rfl⟩ rfl (by decide) rfl (Nat.le_of_ble_eq_true rfl) rfl dX2_mayBegin_92 (fun x21 Mz21 bx21 kMz21 hc21 => ?_)
          have hfl := hc21
          refine z_if_eq (tgt := 102) dX2_mayBegin_95 (by decide) (fun c22 => ?_) (fun c22 => ?_)
          · refine z_iconst dX2_mayBegin_102 ⟨by decide, by decide⟩ ?_
            refine z_zret rfl (by omega) (by decide) rfl (Nat.sub_self _) dX2_mayBegin_103 ?_
            have hk : 0 ≤ (kdW (tx M) (M 17 1) (M 17 4)) ∧ (kdW (tx M) (M 17 1) (M 17 4)) ≤ 4 ∧ ¬ ((kdW (tx M) (M 17 1) (M 17 4)) = 4 ∧ 8 ≤ M 51 11) := by
              first
              | (have hq : (kdW (tx M) (M 17 1) (M 17 4)) = 4 := by
                   rcases w0 with h | h
                   · exact kd_0 h.2
                   · exfalso; omega
                 omega)
              | (have hq : (kdW (tx M) (M 17 1) (M 17 4)) = 0 := by
                   rcases w1 with h | h
                   · exact kd_1 h.2
                   · exfalso; omega
                 omega)
              | (have hq : (kdW (tx M) (M 17 1) (M 17 4)) = 1 := by
                   rcases w2 with h | h
                   · exact kd_2 h.2
                   · exfalso; omega
                 omega)
              | (have hq : (kdW (tx M) (M 17 1) (M 17 4)) = 2 := by
                   rcases w3 with h | h
                   · exact kd_3 h.2
                   · exfalso; omega
                 omega)
              | (have hq : (kdW (tx M) (M 17 1) (M 17 4)) = 3 := by
                   rcases w4 with h | h
                   · exact kd_4 h.2
                   · exfalso; omega
                 omega)
            first
            | (have hb : bgC (kdW (tx M) (M 17 1) (M 17 4)) (M 51 11) ahead = 0 := by unfold bgC; rw [if_neg (by omega), if_neg hk.2.2, if_neg (by omega)]
               rw [hb]
               exact Or.inl ⟨rfl, rfl, rfl⟩)
            | (have hb : bgC (kdW (tx M) (M 17 1) (M 17 4)) (M 51 11) ahead = 4 := by unfold bgC; rw [if_neg (by omega), if_neg hk.2.2, if_pos (by omega)]
               rw [hb]
               refine Or.inr ⟨rfl, by decide, ?_⟩
               rw [hfl.2, epf])
            | (exfalso; omega)
          · refine z_iconst dX2_mayBegin_98 ⟨by decide, by decide⟩ ?_
            refine z_goto (tgt := 103) dX2_mayBegin_99 (by decide) ?_
            refine z_zret rfl (by omega) (by decide) rfl (Nat.sub_self _) dX2_mayBegin_103 ?_
            have hk : 0 ≤ (kdW (tx M) (M 17 1) (M 17 4)) ∧ (kdW (tx M) (M 17 1) (M 17 4)) ≤ 4 ∧ ¬ ((kdW (tx M) (M 17 1) (M 17 4)) = 4 ∧ 8 ≤ M 51 11) := by
              first
              | (have hq : (kdW (tx M) (M 17 1) (M 17 4)) = 4 := by
                   rcases w0 with h | h
                   · exact kd_0 h.2
                   · exfalso; omega
                 omega)
              | (have hq : (kdW (tx M) (M 17 1) (M 17 4)) = 0 := by
                   rcases w1 with h | h
                   · exact kd_1 h.2
                   · exfalso; omega
                 omega)
              | (have hq : (kdW (tx M) (M 17 1) (M 17 4)) = 1 := by
                   rcases w2 with h | h
                   · exact kd_2 h.2
                   · exfalso; omega
                 omega)
              | (have hq : (kdW (tx M) (M 17 1) (M 17 4)) = 2 := by
                   rcases w3 with h | h
                   · exact kd_3 h.2
                   · exfalso; omega
                 omega)
              | (have hq : (kdW (tx M) (M 17 1) (M 17 4)) = 3 := by
                   rcases w4 with h | h
                   · exact kd_4 h.2
                   · exfalso; omega
                 omega)
            first
            | (have hb : bgC (kdW (tx M) (M 17 1) (M 17 4)) (M 51 11) ahead = 0 := by unfold bgC; rw [if_neg (by omega), if_neg hk.2.2, if_neg (by omega)]
               rw [hb]
               exact Or.inl ⟨rfl, rfl, rfl⟩)
            | (have hb : bgC (kdW (tx M) (M 17 1) (M 17 4)) (M 51 11) ahead = 4 := by unfold bgC; rw [if_neg (by omega), if_neg hk.2.2, if_pos (by omega)]
               rw [hb]
               refine Or.inr ⟨rfl, by decide, ?_⟩
               rw [hfl.2, epf])
            | (exfalso; omega)
      · refine z_aload_nr dX2_mayBegin_61 rfl ?_
        refine z_geti (kz := 11) fl_X2_68 rfl (by decide) rfl dX2_mayBegin_62 (fun x23 hx23 bx23 => ?_)
        refine z_bipush dX2_mayBegin_65 ⟨by decide, by decide⟩ (by decide) ?_
        refine z_icmp_lt (tgt := 80) dX2_mayBegin_67 (by decide) (fun c24 => ?_) (fun c24 => ?_)
        · refine z_iload_n dX2_mayBegin_80 rfl ?_
          refine z_bipush dX2_mayBegin_81 ⟨by decide, by decide⟩ (by decide) ?_
          refine z_icmp_lt (tgt := 98) dX2_mayBegin_83 (by decide) (fun c25 => ?_) (fun c25 => ?_)
          · refine z_iconst dX2_mayBegin_98 ⟨by decide, by decide⟩ ?_
            refine z_goto (tgt := 103) dX2_mayBegin_99 (by decide) ?_
            refine z_zret rfl (by omega) (by decide) rfl (Nat.sub_self _) dX2_mayBegin_103 ?_
            have hk : 0 ≤ (kdW (tx M) (M 17 1) (M 17 4)) ∧ (kdW (tx M) (M 17 1) (M 17 4)) ≤ 4 ∧ ¬ ((kdW (tx M) (M 17 1) (M 17 4)) = 4 ∧ 8 ≤ M 51 11) := by
              first
              | (have hq : (kdW (tx M) (M 17 1) (M 17 4)) = 4 := by
                   rcases w0 with h | h
                   · exact kd_0 h.2
                   · exfalso; omega
                 omega)
              | (have hq : (kdW (tx M) (M 17 1) (M 17 4)) = 0 := by
                   rcases w1 with h | h
                   · exact kd_1 h.2
                   · exfalso; omega
                 omega)
              | (have hq : (kdW (tx M) (M 17 1) (M 17 4)) = 1 := by
                   rcases w2 with h | h
                   · exact kd_2 h.2
                   · exfalso; omega
                 omega)
              | (have hq : (kdW (tx M) (M 17 1) (M 17 4)) = 2 := by
                   rcases w3 with h | h
                   · exact kd_3 h.2
                   · exfalso; omega
                 omega)
              | (have hq : (kdW (tx M) (M 17 1) (M 17 4)) = 3 := by
                   rcases w4 with h | h
                   · exact kd_4 h.2
                   · exfalso; omega
                 omega)
            first
            | (have hb : bgC (kdW (tx M) (M 17 1) (M 17 4)) (M 51 11) ahead = 0 := by unfold bgC; rw [if_neg (by omega), if_neg hk.2.2, if_neg (by omega)]
               rw [hb]
               exact Or.inl ⟨rfl, rfl, rfl⟩)
            | (have hb : bgC (kdW (tx M) (M 17 1) (M 17 4)) (M 51 11) ahead = 4 := by unfold bgC; rw [if_neg (by omega), if_neg hk.2.2, if_pos (by omega)]
               rw [hb]
               refine Or.inr ⟨rfl, by decide, ?_⟩
               rw [hfl.2, epf])
            | (exfalso; omega)
          · refine z_aload_nr dX2_mayBegin_86 rfl ?_
            refine z_iconst dX2_mayBegin_87 ⟨by decide, by decide⟩ ?_
            refine z_aload_nr dX2_mayBegin_88 rfl ?_
            refine z_geti (kz := 4) fl_X2_25 rfl (by decide) rfl dX2_mayBegin_89 (fun x26 hx26 bx26 => ?_)
            have epf : x26 = M 17 4 := by omega
            refine z_callVi (n2 := 93) (A_X2_fail l g M 4 x26) cb_X2_fail cl_X2_64 (clr0 rfl rfl (by decide) (by decide)) rfl (by decide) ⟨_, rfl, rfl⟩ rfl (by decide) rfl (Nat.le_of_ble_eq_true rfl) rfl dX2_mayBegin_92 (fun x27 Mz27 bx27 kMz27 hc27 => ?_)
            have hfl := hc27
            refine z_if_eq (tgt := 102) dX2_mayBegin_95 (by decide) (fun c28 => ?_) (fun c28 => ?_)
            · refine z_iconst dX2_mayBegin_102 ⟨by decide, by decide⟩ ?_
              refine z_zret rfl (by omega) (by decide) rfl (Nat.sub_self _) dX2_mayBegin_103 ?_
              have hk : 0 ≤ (kdW (tx M) (M 17 1) (M 17 4)) ∧ (kdW (tx M) (M 17 1) (M 17 4)) ≤ 4 ∧ ¬ ((kdW (tx M) (M 17 1) (M 17 4)) = 4 ∧ 8 ≤ M 51 11) := by
                first
                | (have hq : (kdW (tx M) (M 17 1) (M 17 4)) = 4 := by
                     rcases w0 with h | h
                     · exact kd_0 h.2
                     · exfalso; omega
                   omega)
                | (have hq : (kdW (tx M) (M 17 1) (M 17 4)) = 0 := by
                     rcases w1 with h | h
                     · exact kd_1 h.2
                     · exfalso; omega
                   omega)
                | (have hq : (kdW (tx M) (M 17 1) (M 17 4)) = 1 := by
                     rcases w2 with h | h
                     · exact kd_2 h.2
                     · exfalso; omega
                   omega)
                | (have hq : (kdW (tx M) (M 17 1) (M 17 4)) = 2 := by
                     rcases w3 with h | h
                     · exact kd_3 h.2
                     · exfalso; omega
                   omega)
                | (have hq : (kdW (tx M) (M 17 1) (M 17 4)) = 3 := by
                     rcases w4 with h | h
                     · exact kd_4 h.2
                     · exfalso; omega
                   omega)
              first
              | (have hb : bgC (kdW (tx M) (M 17 1) (M 17 4)) (M 51 11) ahead = 0 := by unfold bgC; rw [if_neg (by omega), if_neg hk.2.2, if_neg (by omega)]
                 rw [hb]
                 exact Or.inl ⟨rfl, rfl, rfl⟩)
              | (have hb : bgC (kdW (tx M) (M 17 1) (M 17 4)) (M 51 11) ahead = 4 := by unfold bgC; rw [if_neg (by omega), if_neg hk.2.2, if_pos (by omega)]
                 rw [hb]
                 refine Or.inr ⟨rfl, by decide, ?_⟩
                 rw [hfl.2, epf])
              | (exfalso; omega)
            · refine z_iconst dX2_mayBegin_98 ⟨by decide, by decide⟩ ?_
              refine z_goto (tgt := 103) dX2_mayBegin_99 (by decide) ?_
              refine z_zret rfl (by omega) (by decide) rfl (Nat.sub_self _) dX2_mayBegin_103 ?_
              have hk : 0 ≤ (kdW (tx M) (M 17 1) (M 17 4)) ∧ (kdW (tx M) (M 17 1) (M 17 4)) ≤ 4 ∧ ¬ ((kdW (tx M) (M 17 1) (M 17 4)) = 4 ∧ 8 ≤ M 51 11) := by
                first
                | (have hq : (kdW (tx M) (M 17 1) (M 17 4)) = 4 := by
                     rcases w0 with h | h
                     · exact kd_0 h.2
                     · exfalso; omega
                   omega)
                | (have hq : (kdW (tx M) (M 17 1) (M 17 4)) = 0 := by
                     rcases w1 with h | h
                     · exact kd_1 h.2
                     · exfalso; omega
                   omega)
                | (have hq : (kdW (tx M) (M 17 1) (M 17 4)) = 1 := by
                     rcases w2 with h | h
                     · exact kd_2 h.2
                     · exfalso; omega
                   omega)
                | (have hq : (kdW (tx M) (M 17 1) (M 17 4)) = 2 := by
                     rcases w3 with h | h
                     · exact kd_3 h.2
                     · exfalso; omega
                   omega)
                | (have hq : (kdW (tx M) (M 17 1) (M 17 4)) = 3 := by
                     rcases w4 with h | h
                     · exact kd_4 h.2
                     · exfalso; omega
                   omega)
              first
              | (have hb : bgC (kdW (tx M) (M 17 1) (M 17 4)) (M 51 11) ahead = 0 := by unfold bgC; rw [if_neg (by omega), if_neg hk.2.2, if_neg (by omega)]
                 rw [hb]
                 exact Or.inl ⟨rfl, rfl, rfl⟩)
              | (have hb : bgC (kdW (tx M) (M 17 1) (M 17 4)) (M 51 11) ahead = 4 := by unfold bgC; rw [if_neg (by omega), if_neg hk.2.2, if_pos (by omega)]
                 rw [hb]
                 refine Or.inr ⟨rfl, by decide, ?_⟩
                 rw [hfl.2, epf])
              | (exfalso; omega)
        · refine z_aload_nr dX2_mayBegin_70 rfl ?_
          refine z_iconst dX2_mayBegin_71 ⟨by decide, by decide⟩ ?_
          refine z_aload_nr dX2_mayBegin_72 rfl ?_
          refine z_geti (kz := 4) fl_X2_25 rfl (by decide) rfl dX2_mayBegin_73 (fun x29 hx29 bx29 => ?_)
          have epf : x29 = M 17 4 := by omega
          refine z_callVi (n2 := 93) (A_X2_fail l g M 3 x29) cb_X2_fail cl_X2_64 (clr0 rfl rfl (by decide) (by decide)) rfl (by decide) ⟨_, rfl, rfl⟩ rfl (by decide) rfl (Nat.le_of_ble_eq_true rfl) rfl dX2_mayBegin_76 (fun x30 Mz30 bx30 kMz30 hc30 => ?_)
          have hfl := hc30
          refine z_zret rfl (by omega) (by decide) rfl (Nat.sub_self _) dX2_mayBegin_79 ?_
          have hk : (kdW (tx M) (M 17 1) (M 17 4)) = 4 := by
            rcases w0 with h | h
            · exact kd_0 h.2
            · exfalso; omega
          have hb : bgC (kdW (tx M) (M 17 1) (M 17 4)) (M 51 11) ahead = 3 := by unfold bgC; rw [if_neg (by omega), if_pos (by omega)]
          rw [hb]
          refine Or.inr ⟨hfl.1, by decide, ?_⟩
          rw [hfl.2, epf]
    · refine z_aload_nr dX2_mayBegin_20 rfl ?_
      refine z_ldcs (j := 2) rfl (by decide) dX2_mayBegin_21 ?_
      refine z_callVip (n2 := 93) (A_X2_isWord l g M 2 (by decide) (h0) (hn)) cb_X2_isWord cl_X2_52 (clr0 rfl rfl (by decide) (by decide)) rfl (by decide) ⟨_, rfl, rfl⟩ rfl (by decide) rfl (Nat.le_of_ble_eq_true rfl) rfl dX2_mayBegin_23 (fun x31 bx31 hx31 => ?_)
      have w2 := hx31
      refine z_if_ne (tgt := 57) dX2_mayBegin_26 (by decide) (fun c32 => ?_) (fun c32 => ?_)
      · refine z_iload_n dX2_mayBegin_57 rfl ?_
        refine z_if_eq (tgt := 80) dX2_mayBegin_58 (by decide) (fun c33 => ?_) (fun c33 => ?_)
        · refine z_iload_n dX2_mayBegin_80 rfl ?_
          refine z_bipush dX2_mayBegin_81 ⟨by decide, by decide⟩ (by decide) ?_
          refine z_icmp_lt (tgt := 98) dX2_mayBegin_83 (by decide) (fun c34 => ?_) (fun c34 => ?_)
          · refine z_iconst dX2_mayBegin_98 ⟨by decide, by decide⟩ ?_
            refine z_goto (tgt := 103) dX2_mayBegin_99 (by decide) ?_
            refine z_zret rfl (by omega) (by decide) rfl (Nat.sub_self _) dX2_mayBegin_103 ?_
            have hk : 0 ≤ (kdW (tx M) (M 17 1) (M 17 4)) ∧ (kdW (tx M) (M 17 1) (M 17 4)) ≤ 4 ∧ ¬ ((kdW (tx M) (M 17 1) (M 17 4)) = 4 ∧ 8 ≤ M 51 11) := by
              first
              | (have hq : (kdW (tx M) (M 17 1) (M 17 4)) = 4 := by
                   rcases w0 with h | h
                   · exact kd_0 h.2
                   · exfalso; omega
                 omega)
              | (have hq : (kdW (tx M) (M 17 1) (M 17 4)) = 0 := by
                   rcases w1 with h | h
                   · exact kd_1 h.2
                   · exfalso; omega
                 omega)
              | (have hq : (kdW (tx M) (M 17 1) (M 17 4)) = 1 := by
                   rcases w2 with h | h
                   · exact kd_2 h.2
                   · exfalso; omega
                 omega)
              | (have hq : (kdW (tx M) (M 17 1) (M 17 4)) = 2 := by
                   rcases w3 with h | h
                   · exact kd_3 h.2
                   · exfalso; omega
                 omega)
              | (have hq : (kdW (tx M) (M 17 1) (M 17 4)) = 3 := by
                   rcases w4 with h | h
                   · exact kd_4 h.2
                   · exfalso; omega
                 omega)
            first
            | (have hb : bgC (kdW (tx M) (M 17 1) (M 17 4)) (M 51 11) ahead = 0 := by unfold bgC; rw [if_neg (by omega), if_neg hk.2.2, if_neg (by omega)]
               rw [hb]
               exact Or.inl ⟨rfl, rfl, rfl⟩)
            | (have hb : bgC (kdW (tx M) (M 17 1) (M 17 4)) (M 51 11) ahead = 4 := by unfold bgC; rw [if_neg (by omega), if_neg hk.2.2, if_pos (by omega)]
               rw [hb]
               refine Or.inr ⟨rfl, by decide, ?_⟩
               rw [hfl.2, epf])
            | (exfalso; omega)
          · refine z_aload_nr dX2_mayBegin_86 rfl ?_
            refine z_iconst dX2_mayBegin_87 ⟨by decide, by decide⟩ ?_
            refine z_aload_nr dX2_mayBegin_88 rfl ?_
            refine z_geti (kz := 4) fl_X2_25 rfl (by decide) rfl dX2_mayBegin_89 (fun x35 hx35 bx35 => ?_)
            have epf : x35 = M 17 4 := by omega
            refine z_callVi (n2 := 93) (A_X2_fail l g M 4 x35) cb_X2_fail cl_X2_64 (clr0 rfl rfl (by decide) (by decide)) rfl (by decide) ⟨_, rfl, rfl⟩ rfl (by decide) rfl (Nat.le_of_ble_eq_true rfl) rfl dX2_mayBegin_92 (fun x36 Mz36 bx36 kMz36 hc36 => ?_)
            have hfl := hc36
            refine z_if_eq (tgt := 102) dX2_mayBegin_95 (by decide) (fun c37 => ?_) (fun c37 => ?_)
            · refine z_iconst dX2_mayBegin_102 ⟨by decide, by decide⟩ ?_
              refine z_zret rfl (by omega) (by decide) rfl (Nat.sub_self _) dX2_mayBegin_103 ?_
              have hk : 0 ≤ (kdW (tx M) (M 17 1) (M 17 4)) ∧ (kdW (tx M) (M 17 1) (M 17 4)) ≤ 4 ∧ ¬ ((kdW (tx M) (M 17 1) (M 17 4)) = 4 ∧ 8 ≤ M 51 11) := by
                first
                | (have hq : (kdW (tx M) (M 17 1) (M 17 4)) = 4 := by
                     rcases w0 with h | h
                     · exact kd_0 h.2
                     · exfalso; omega
                   omega)
                | (have hq : (kdW (tx M) (M 17 1) (M 17 4)) = 0 := by
                     rcases w1 with h | h
                     · exact kd_1 h.2
                     · exfalso; omega
                   omega)
                | (have hq : (kdW (tx M) (M 17 1) (M 17 4)) = 1 := by
                     rcases w2 with h | h
                     · exact kd_2 h.2
                     · exfalso; omega
                   omega)
                | (have hq : (kdW (tx M) (M 17 1) (M 17 4)) = 2 := by
                     rcases w3 with h | h
                     · exact kd_3 h.2
                     · exfalso; omega
                   omega)
                | (have hq : (kdW (tx M) (M 17 1) (M 17 4)) = 3 := by
                     rcases w4 with h | h
                     · exact kd_4 h.2
                     · exfalso; omega
                   omega)
              first
              | (have hb : bgC (kdW (tx M) (M 17 1) (M 17 4)) (M 51 11) ahead = 0 := by unfold bgC; rw [if_neg (by omega), if_neg hk.2.2, if_neg (by omega)]
                 rw [hb]
                 exact Or.inl ⟨rfl, rfl, rfl⟩)
              | (have hb : bgC (kdW (tx M) (M 17 1) (M 17 4)) (M 51 11) ahead = 4 := by unfold bgC; rw [if_neg (by omega), if_neg hk.2.2, if_pos (by omega)]
                 rw [hb]
                 refine Or.inr ⟨rfl, by decide, ?_⟩
                 rw [hfl.2, epf])
              | (exfalso; omega)
            · refine z_iconst dX2_mayBegin_98 ⟨by decide, by decide⟩ ?_
              refine z_goto (tgt := 103) dX2_mayBegin_99 (by decide) ?_
              refine z_zret rfl (by omega) (by decide) rfl (Nat.sub_self _) dX2_mayBegin_103 ?_
              have hk : 0 ≤ (kdW (tx M) (M 17 1) (M 17 4)) ∧ (kdW (tx M) (M 17 1) (M 17 4)) ≤ 4 ∧ ¬ ((kdW (tx M) (M 17 1) (M 17 4)) = 4 ∧ 8 ≤ M 51 11) := by
                first
                | (have hq : (kdW (tx M) (M 17 1) (M 17 4)) = 4 := by
                     rcases w0 with h | h
                     · exact kd_0 h.2
                     · exfalso; omega
                   omega)
                | (have hq : (kdW (tx M) (M 17 1) (M 17 4)) = 0 := by
                     rcases w1 with h | h
                     · exact kd_1 h.2
                     · exfalso; omega
                   omega)
                | (have hq : (kdW (tx M) (M 17 1) (M 17 4)) = 1 := by
                     rcases w2 with h | h
                     · exact kd_2 h.2
                     · exfalso; omega
                   omega)
                | (have hq : (kdW (tx M) (M 17 1) (M 17 4)) = 2 := by
                     rcases w3 with h | h
                     · exact kd_3 h.2
                     · exfalso; omega
                   omega)
                | (have hq : (kdW (tx M) (M 17 1) (M 17 4)) = 3 := by
                     rcases w4 with h | h
                     · exact kd_4 h.2
                     · exfalso; omega
                   omega)
              first
              | (have hb : bgC (kdW (tx M) (M 17 1) (M 17 4)) (M 51 11) ahead = 0 := by unfold bgC; rw [if_neg (by omega), if_neg hk.2.2, if_neg (by omega)]
                 rw [hb]
                 exact Or.inl ⟨rfl, rfl, rfl⟩)
              | (have hb : bgC (kdW (tx M) (M 17 1) (M 17 4)) (M 51 11) ahead = 4 := by unfold bgC; rw [if_neg (by omega), if_neg hk.2.2, if_pos (by omega)]
                 rw [hb]
                 refine Or.inr ⟨rfl, by decide, ?_⟩
                 rw [hfl.2, epf])
              | (exfalso; omega)
        · refine z_aload_nr dX2_mayBegin_61 rfl ?_
          refine z_geti (kz := 11) fl_X2_68 rfl (by decide) rfl dX2_mayBegin_62 (fun x38 hx38 bx38 => ?_)
          refine z_bipush dX2_mayBegin_65 ⟨by decide, by decide⟩ (by decide) ?_
          refine z_icmp_lt (tgt := 80) dX2_mayBegin_67 (by decide) (fun c39 => ?_) (fun c39 => ?_)
          · refine z_iload_n dX2_mayBegin_80 rfl ?_
            refine z_bipush dX2_mayBegin_81 ⟨by decide, by decide⟩ (by decide) ?_
            refine z_icmp_lt (tgt := 98) dX2_mayBegin_83 (by decide) (fun c40 => ?_) (fun c40 => ?_)
            · refine z_iconst dX2_mayBegin_98 ⟨by decide, by decide⟩ ?_
              refine z_goto (tgt := 103) dX2_mayBegin_99 (by decide) ?_
              refine z_zret rfl (by omega) (by decide) rfl (Nat.sub_self _) dX2_mayBegin_103 ?_
              have hk : 0 ≤ (kdW (tx M) (M 17 1) (M 17 4)) ∧ (kdW (tx M) (M 17 1) (M 17 4)) ≤ 4 ∧ ¬ ((kdW (tx M) (M 17 1) (M 17 4)) = 4 ∧ 8 ≤ M 51 11) := by
                first
                | (have hq : (kdW (tx M) (M 17 1) (M 17 4)) = 4 := by
                     rcases w0 with h | h
                     · exact kd_0 h.2
                     · exfalso; omega
                   omega)
                | (have hq : (kdW (tx M) (M 17 1) (M 17 4)) = 0 := by
                     rcases w1 with h | h
                     · exact kd_1 h.2
                     · exfalso; omega
                   omega)
                | (have hq : (kdW (tx M) (M 17 1) (M 17 4)) = 1 := by
                     rcases w2 with h | h
                     · exact kd_2 h.2
                     · exfalso; omega
                   omega)
                | (have hq : (kdW (tx M) (M 17 1) (M 17 4)) = 2 := by
                     rcases w3 with h | h
                     · exact kd_3 h.2
                     · exfalso; omega
                   omega)
                | (have hq : (kdW (tx M) (M 17 1) (M 17 4)) = 3 := by
                     rcases w4 with h | h
                     · exact kd_4 h.2
                     · exfalso; omega
                   omega)
              first
              | (have hb : bgC (kdW (tx M) (M 17 1) (M 17 4)) (M 51 11) ahead = 0 := by unfold bgC; rw [if_neg (by omega), if_neg hk.2.2, if_neg (by omega)]
                 rw [hb]
                 exact Or.inl ⟨rfl, rfl, rfl⟩)
              | (have hb : bgC (kdW (tx M) (M 17 1) (M 17 4)) (M 51 11) ahead = 4 := by unfold bgC; rw [if_neg (by omega), if_neg hk.2.2, if_pos (by omega)]
                 rw [hb]
                 refine Or.inr ⟨rfl, by decide, ?_⟩
                 rw [hfl.2, epf])
              | (exfalso; omega)
            · refine z_aload_nr dX2_mayBegin_86 rfl ?_
              refine z_iconst dX2_mayBegin_87 ⟨by decide, by decide⟩ ?_
              refine z_aload_nr dX2_mayBegin_88 rfl ?_
              refine z_geti (kz := 4) fl_X2_25 rfl (by decide) rfl dX2_mayBegin_89 (fun x41 hx41 bx41 => ?_)
              have epf : x41 = M 17 4 := by omega
              refine z_callVi (n2 := 93) (A_X2_fail l g M 4 x41) cb_X2_fail cl_X2_64 (clr0 rfl rfl (by decide) (by decide)) rfl (by decide) ⟨_, rfl, rfl⟩ rfl (by decide) rfl (Nat.le_of_ble_eq_true rfl) rfl dX2_mayBegin_92 (fun x42 Mz42 bx42 kMz42 hc42 => ?_)
              have hfl := hc42
              refine z_if_eq (tgt := 102) dX2_mayBegin_95 (by decide) (fun c43 => ?_) (fun c43 => ?_)
              · refine z_iconst dX2_mayBegin_102 ⟨by decide, by decide⟩ ?_
                refine z_zret rfl (by omega) (by decide) rfl (Nat.sub_self _) dX2_mayBegin_103 ?_
                have hk : 0 ≤ (kdW (tx M) (M 17 1) (M 17 4)) ∧ (kdW (tx M) (M 17 1) (M 17 4)) ≤ 4 ∧ ¬ ((kdW (tx M) (M 17 1) (M 17 4)) = 4 ∧ 8 ≤ M 51 11) := by
                  first
                  | (have hq : (kdW (tx M) (M 17 1) (M 17 4)) = 4 := by
                       rcases w0 with h | h
                       · exact kd_0 h.2
                       · exfalso; omega
                     omega)
                  | (have hq : (kdW (tx M) (M 17 1) (M 17 4)) = 0 := by
                       rcases w1 with h | h
                       · exact kd_1 h.2
                       · exfalso; omega
                     omega)
                  | (have hq : (kdW (tx M) (M 17 1) (M 17 4)) = 1 := by
                       rcases w2 with h | h
                       · exact kd_2 h.2
                       · exfalso; omega
                     omega)
                  | (have hq : (kdW (tx M) (M 17 1) (M 17 4)) = 2 := by
                       rcases w3 with h | h
                       · exact kd_3 h.2
                       · exfalso; omega
                     omega)
                  | (have hq : (kdW (tx M) (M 17 1) (M 17 4)) = 3 := by
                       rcases w4 with h | h
                       · exact kd_4 h.2
                       · exfalso; omega
                     omega)
                first
                | (have hb : bgC (kdW (tx M) (M 17 1) (M 17 4)) (M 51 11) ahead = 0 := by unfold bgC; rw [if_neg (by omega), if_neg hk.2.2, if_neg (by omega)]
                   rw [hb]
                   exact Or.inl ⟨rfl, rfl, rfl⟩)
                | (have hb : bgC (kdW (tx M) (M 17 1) (M 17 4)) (M 51 11) ahead = 4 := by unfold bgC; rw [if_neg (by omega), if_neg hk.2.2, if_pos (by omega)]
                   rw [hb]
                   refine Or.inr ⟨rfl, by decide, ?_⟩
                   rw [hfl.2, epf])
                | (exfalso; omega)
              · refine z_iconst dX2_mayBegin_98 ⟨by decide, by decide⟩ ?_
                refine z_goto (tgt := 103) dX2_mayBegin_99 (by decide) ?_
                refine z_zret rfl (by omega) (by decide) rfl (Nat.sub_self _) dX2_mayBegin_103 ?_
                have hk : 0 ≤ (kdW (tx M) (M 17 1) (M 17 4)) ∧ (kdW (tx M) (M 17 1) (M 17 4)) ≤ 4 ∧ ¬ ((kdW (tx M) (M 17 1) (M 17 4)) = 4 ∧ 8 ≤ M 51 11) := by
                  first
                  | (have hq : (kdW (tx M) (M 17 1) (M 17 4)) = 4 := by
                       rcases w0 with h | h
                       · exact kd_0 h.2
                       · exfalso; omega
                     omega)
                  | (have hq : (kdW (tx M) (M 17 1) (M 17 4)) = 0 := by
                       rcases w1 with h | h
                       · exact kd_1 h.2
                       · exfalso; omega
                     omega)
                  | (have hq : (kdW (tx M) (M 17 1) (M 17 4)) = 1 := by
                       rcases w2 with h | h
                       · exact kd_2 h.2
                       · exfalso; omega
                     omega)
                  | (have hq : (kdW (tx M) (M 17 1) (M 17 4)) = 2 := by
                       rcases w3 with h | h
                       · exact kd_3 h.2
                       · exfalso; omega
                     omega)
                  | (have hq : (kdW (tx M) (M 17 1) (M 17 4)) = 3 := by
                       rcases w4 with h | h
                       · exact kd_4 h.2
                       · exfalso; omega
                     omega)
                first
                | (have hb : bgC (kdW (tx M) (M 17 1) (M 17 4)) (M 51 11) ahead = 0 := by unfold bgC; rw [if_neg (by omega), if_neg hk.2.2, if_neg (by omega)]
                   rw [hb]
                   exact Or.inl ⟨rfl, rfl, rfl⟩)
                | (have hb : bgC (kdW (tx M) (M 17 1) (M 17 4)) (M 51 11) ahead = 4 := by unfold bgC; rw [if_neg (by omega), if_neg hk.2.2, if_pos (by omega)]
                   rw [hb]
                   refine Or.inr ⟨rfl, by decide, ?_⟩
                   rw [hfl.2, epf])
                | (exfalso; omega)
          · refine z_aload_nr dX2_mayBegin_70 rfl ?_
            refine z_iconst dX2_mayBegin_71 ⟨by decide, by decide⟩ ?_
            refine z_aload_nr dX2_mayBegin_72 rfl ?_
            refine z_geti (kz := 4) fl_X2_25 rfl (by decide) rfl dX2_mayBegin_73 (fun x44 hx44 bx44 => ?_)
            have epf : x44 = M 17 4 := by omega
            refine z_callVi (n2 := 93) (A_X2_fail l g M 3 x44) cb_X2_fail cl_X2_64 (clr0 rfl rfl (by decide) (by decide)) rfl (by decide) ⟨_, rfl, rfl⟩ rfl (by decide) rfl (Nat.le_of_ble_eq_true rfl) rfl dX2_mayBegin_76 (fun x45 Mz45 bx45 kMz45 hc45 => ?_)
            have hfl := hc45
            refine z_zret rfl (by omega) (by decide) rfl (Nat.sub_self _) dX2_mayBegin_79 ?_
            have hk : (kdW (tx M) (M 17 1) (M 17 4)) = 4 := by
              rcases w0 with h | h
              · exact kd_0 h.2
              · exfalso; omega
            have hb : bgC (kdW (tx M) (M 17 1) (M 17 4)) (M 51 11) ahead = 3 := by unfold bgC; rw [if_neg (by omega), if_pos (by omega)]
            rw [hb]
            refine Or.inr ⟨hfl.1, by decide, ?_⟩
            rw [hfl.2, epf]
      · refine z_aload_nr dX2_mayBegin_29 rfl ?_
        refine z_ldcs (j := 3) rfl (by decide) dX2_mayBegin_30 ?_
        refine z_callVip (n2 := 93) (A_X2_isWord l g M 3 (by decide) (h0) (hn)) cb_X2_isWord cl_X2_52 (clr0 rfl rfl (by decide) (by decide)) rfl (by decide) ⟨_, rfl, rfl⟩ rfl (by decide) rfl (Nat.le_of_ble_eq_true rfl) rfl dX2_mayBegin_32 (fun x46 bx46 hx46 => ?_)
        have w3 := hx46
        refine z_if_ne (tgt := 57) dX2_mayBegin_35 (by decide) (fun c47 => ?_) (fun c47 => ?_)
        · refine z_iload_n dX2_mayBegin_57 rfl ?_
          refine z_if_eq (tgt := 80) dX2_mayBegin_58 (by decide) (fun c48 => ?_) (fun c48 => ?_)
          · refine z_iload_n dX2_mayBegin_80 rfl ?_
            refine z_bipush dX2_mayBegin_81 ⟨by decide, by decide⟩ (by decide) ?_
            refine z_icmp_lt (tgt := 98) dX2_mayBegin_83 (by decide) (fun c49 => ?_) (fun c49 => ?_)
            · refine z_iconst dX2_mayBegin_98 ⟨by decide, by decide⟩ ?_
              refine z_goto (tgt := 103) dX2_mayBegin_99 (by decide) ?_
              refine z_zret rfl (by omega) (by decide) rfl (Nat.sub_self _) dX2_mayBegin_103 ?_
              have hk : 0 ≤ (kdW (tx M) (M 17 1) (M 17 4)) ∧ (kdW (tx M) (M 17 1) (M 17 4)) ≤ 4 ∧ ¬ ((kdW (tx M) (M 17 1) (M 17 4)) = 4 ∧ 8 ≤ M 51 11) := by
                first
                | (have hq : (kdW (tx M) (M 17 1) (M 17 4)) = 4 := by
                     rcases w0 with h | h
                     · exact kd_0 h.2
                     · exfalso; omega
                   omega)
                | (have hq : (kdW (tx M) (M 17 1) (M 17 4)) = 0 := by
                     rcases w1 with h | h
                     · exact kd_1 h.2
                     · exfalso; omega
                   omega)
                | (have hq : (kdW (tx M) (M 17 1) (M 17 4)) = 1 := by
                     rcases w2 with h | h
                     · exact kd_2 h.2
                     · exfalso; omega
                   omega)
                | (have hq : (kdW (tx M) (M 17 1) (M 17 4)) = 2 := by
                     rcases w3 with h | h
                     · exact kd_3 h.2
                     · exfalso; omega
                   omega)
                | (have hq : (kdW (tx M) (M 17 1) (M 17 4)) = 3 := by
                     rcases w4 with h | h
                     · exact kd_4 h.2
                     · exfalso; omega
                   omega)
              first
              | (have hb : bgC (kdW (tx M) (M 17 1) (M 17 4)) (M 51 11) ahead = 0 := by unfold bgC; rw [if_neg (by omega), if_neg hk.2.2, if_neg (by omega)]
                 rw [hb]
                 exact Or.inl ⟨rfl, rfl, rfl⟩)
              | (have hb : bgC (kdW (tx M) (M 17 1) (M 17 4)) (M 51 11) ahead = 4 := by unfold bgC; rw [if_neg (by omega), if_neg hk.2.2, if_pos (by omega)]
                 rw [hb]
                 refine Or.inr ⟨rfl, by decide, ?_⟩
                 rw [hfl.2, epf])
              | (exfalso; omega)
            · refine z_aload_nr dX2_mayBegin_86 rfl ?_
              refine z_iconst dX2_mayBegin_87 ⟨by decide, by decide⟩ ?_
              refine z_aload_nr dX2_mayBegin_88 rfl ?_
              refine z_geti (kz := 4) fl_X2_25 rfl (by decide) rfl dX2_mayBegin_89 (fun x50 hx50 bx50 => ?_)
              have epf : x50 = M 17 4 := by omega
              refine z_callVi (n2 := 93) (A_X2_fail l g M 4 x50) cb_X2_fail cl_X2_64 (clr0 rfl rfl (by decide) (by decide)) rfl (by decide) ⟨_, rfl, rfl⟩ rfl (by decide) rfl (Nat.le_of_ble_eq_true rfl) rfl dX2_mayBegin_92 (fun x51 Mz51 bx51 kMz51 hc51 => ?_)
              have hfl := hc51
              refine z_if_eq (tgt := 102) dX2_mayBegin_95 (by decide) (fun c52 => ?_) (fun c52 => ?_)
              · refine z_iconst dX2_mayBegin_102 ⟨by decide, by decide⟩ ?_
                refine z_zret rfl (by omega) (by decide) rfl (Nat.sub_self _) dX2_mayBegin_103 ?_
                have hk : 0 ≤ (kdW (tx M) (M 17 1) (M 17 4)) ∧ (kdW (tx M) (M 17 1) (M 17 4)) ≤ 4 ∧ ¬ ((kdW (tx M) (M 17 1) (M 17 4)) = 4 ∧ 8 ≤ M 51 11) := by
                  first
                  | (have hq : (kdW (tx M) (M 17 1) (M 17 4)) = 4 := by
                       rcases w0 with h | h
                       · exact kd_0 h.2
                       · exfalso; omega
                     omega)
                  | (have hq : (kdW (tx M) (M 17 1) (M 17 4)) = 0 := by
                       rcases w1 with h | h
                       · exact kd_1 h.2
                       · exfalso; omega
                     omega)
                  | (have hq : (kdW (tx M) (M 17 1) (M 17 4)) = 1 := by
                       rcases w2 with h | h
                       · exact kd_2 h.2
                       · exfalso; omega
                     omega)
                  | (have hq : (kdW (tx M) (M 17 1) (M 17 4)) = 2 := by
                       rcases w3 with h | h
                       · exact kd_3 h.2
                       · exfalso; omega
                     omega)
                  | (have hq : (kdW (tx M) (M 17 1) (M 17 4)) = 3 := by
                       rcases w4 with h | h
                       · exact kd_4 h.2
                       · exfalso; omega
                     omega)
                first
                | (have hb : bgC (kdW (tx M) (M 17 1) (M 17 4)) (M 51 11) ahead = 0 := by unfold bgC; rw [if_neg (by omega), if_neg hk.2.2, if_neg (by omega)]
                   rw [hb]
                   exact Or.inl ⟨rfl, rfl, rfl⟩)
                | (have hb : bgC (kdW (tx M) (M 17 1) (M 17 4)) (M 51 11) ahead = 4 := by unfold bgC; rw [if_neg (by omega), if_neg hk.2.2, if_pos (by omega)]
                   rw [hb]
                   refine Or.inr ⟨rfl, by decide, ?_⟩
                   rw [hfl.2, epf])
                | (exfalso; omega)
              · refine z_iconst dX2_mayBegin_98 ⟨by decide, by decide⟩ ?_
                refine z_goto (tgt := 103) dX2_mayBegin_99 (by decide) ?_
                refine z_zret rfl (by omega) (by decide) rfl (Nat.sub_self _) dX2_mayBegin_103 ?_
                have hk : 0 ≤ (kdW (tx M) (M 17 1) (M 17 4)) ∧ (kdW (tx M) (M 17 1) (M 17 4)) ≤ 4 ∧ ¬ ((kdW (tx M) (M 17 1) (M 17 4)) = 4 ∧ 8 ≤ M 51 11) := by
                  first
                  | (have hq : (kdW (tx M) (M 17 1) (M 17 4)) = 4 := by
                       rcases w0 with h | h
                       · exact kd_0 h.2
                       · exfalso; omega
                     omega)
                  | (have hq : (kdW (tx M) (M 17 1) (M 17 4)) = 0 := by
                       rcases w1 with h | h
                       · exact kd_1 h.2
                       · exfalso; omega
                     omega)
                  | (have hq : (kdW (tx M) (M 17 1) (M 17 4)) = 1 := by
                       rcases w2 with h | h
                       · exact kd_2 h.2
                       · exfalso; omega
                     omega)
                  | (have hq : (kdW (tx M) (M 17 1) (M 17 4)) = 2 := by
                       rcases w3 with h | h
                       · exact kd_3 h.2
                       · exfalso; omega
                     omega)
                  | (have hq : (kdW (tx M) (M 17 1) (M 17 4)) = 3 := by
                       rcases w4 with h | h
                       · exact kd_4 h.2
                       · exfalso; omega
                     omega)
                first
                | (have hb : bgC (kdW (tx M) (M 17 1) (M 17 4)) (M 51 11) ahead = 0 := by unfold bgC; rw [if_neg (by omega), if_neg hk.2.2, if_neg (by omega)]
                   rw [hb]
                   exact Or.inl ⟨rfl, rfl, rfl⟩)
                | (have hb : bgC (kdW (tx M) (M 17 1) (M 17 4)) (M 51 11) ahead = 4 := by unfold bgC; rw [if_neg (by omega), if_neg hk.2.2, if_pos (by omega)]
                   rw [hb]
                   refine Or.inr ⟨rfl, by decide, ?_⟩
                   rw [hfl.2, epf])
                | (exfalso; omega)
          · refine z_aload_nr dX2_mayBegin_61 rfl ?_
            refine z_geti (kz := 11) fl_X2_68 rfl (by decide) rfl dX2_mayBegin_62 (fun x53 hx53 bx53 => ?_)
            refine z_bipush dX2_mayBegin_65 ⟨by decide, by decide⟩ (by decide) ?_
            refine z_icmp_lt (tgt := 80) dX2_mayBegin_67 (by decide) (fun c54 => ?_) (fun c54 => ?_)
            · refine z_iload_n dX2_mayBegin_80 rfl ?_
              refine z_bipush dX2_mayBegin_81 ⟨by decide, by decide⟩ (by decide) ?_
              refine z_icmp_lt (tgt := 98) dX2_mayBegin_83 (by decide) (fun c55 => ?_) (fun c55 => ?_)
              · refine z_iconst dX2_mayBegin_98 ⟨by decide, by decide⟩ ?_
                refine z_goto (tgt := 103) dX2_mayBegin_99 (by decide) ?_
                refine z_zret rfl (by omega) (by decide) rfl (Nat.sub_self _) dX2_mayBegin_103 ?_
                have hk : 0 ≤ (kdW (tx M) (M 17 1) (M 17 4)) ∧ (kdW (tx M) (M 17 1) (M 17 4)) ≤ 4 ∧ ¬ ((kdW (tx M) (M 17 1) (M 17 4)) = 4 ∧ 8 ≤ M 51 11) := by
                  first
                  | (have hq : (kdW (tx M) (M 17 1) (M 17 4)) = 4 := by
                       rcases w0 with h | h
                       · exact kd_0 h.2
                       · exfalso; omega
                     omega)
                  | (have hq : (kdW (tx M) (M 17 1) (M 17 4)) = 0 := by
                       rcases w1 with h | h
                       · exact kd_1 h.2
                       · exfalso; omega
                     omega)
                  | (have hq : (kdW (tx M) (M 17 1) (M 17 4)) = 1 := by
                       rcases w2 with h | h
                       · exact kd_2 h.2
                       · exfalso; omega
                     omega)
                  | (have hq : (kdW (tx M) (M 17 1) (M 17 4)) = 2 := by
                       rcases w3 with h | h
                       · exact kd_3 h.2
                       · exfalso; omega
                     omega)
                  | (have hq : (kdW (tx M) (M 17 1) (M 17 4)) = 3 := by
                       rcases w4 with h | h
                       · exact kd_4 h.2
                       · exfalso; omega
                     omega)
                first
                | (have hb : bgC (kdW (tx M) (M 17 1) (M 17 4)) (M 51 11) ahead = 0 := by unfold bgC; rw [if_neg (by omega), if_neg hk.2.2, if_neg (by omega)]
                   rw [hb]
                   exact Or.inl ⟨rfl, rfl, rfl⟩)
                | (have hb : bgC (kdW (tx M) (M 17 1) (M 17 4)) (M 51 11) ahead = 4 := by unfold bgC; rw [if_neg (by omega), if_neg hk.2.2, if_pos (by omega)]
                   rw [hb]
                   refine Or.inr ⟨rfl, by decide, ?_⟩
                   rw [hfl.2, epf])
                | (exfalso; omega)
              · refine z_aload_nr dX2_mayBegin_86 rfl ?_
                refine z_iconst dX2_mayBegin_87 ⟨by decide, by decide⟩ ?_
                refine z_aload_nr dX2_mayBegin_88 rfl ?_
                refine z_geti (kz := 4) fl_X2_25 rfl (by decide) rfl dX2_mayBegin_89 (fun x56 hx56 bx56 => ?_)
                have epf : x56 = M 17 4 := by omega
                refine z_callVi (n2 := 93) (A_X2_fail l g M 4 x56) cb_X2_fail cl_X2_64 (clr0 rfl rfl (by decide) (by decide)) rfl (by decide) ⟨_, rfl, rfl⟩ rfl (by decide) rfl (Nat.le_of_ble_eq_true rfl) rfl dX2_mayBegin_92 (fun x57 Mz57 bx57 kMz57 hc57 => ?_)
                have hfl := hc57
                refine z_if_eq (tgt := 102) dX2_mayBegin_95 (by decide) (fun c58 => ?_) (fun c58 => ?_)
                · refine z_iconst dX2_mayBegin_102 ⟨by decide, by decide⟩ ?_
                  refine z_zret rfl (by omega) (by decide) rfl (Nat.sub_self _) dX2_mayBegin_103 ?_
                  have hk : 0 ≤ (kdW (tx M) (M 17 1) (M 17 4)) ∧ (kdW (tx M) (M 17 1) (M 17 4)) ≤ 4 ∧ ¬ ((kdW (tx M) (M 17 1) (M 17 4)) = 4 ∧ 8 ≤ M 51 11) := by
                    first
                    | (have hq : (kdW (tx M) (M 17 1) (M 17 4)) = 4 := by
                         rcases w0 with h | h
                         · exact kd_0 h.2
                         · exfalso; omega
                       omega)
                    | (have hq : (kdW (tx M) (M 17 1) (M 17 4)) = 0 := by
                         rcases w1 with h | h
                         · exact kd_1 h.2
                         · exfalso; omega
                       omega)
                    | (have hq : (kdW (tx M) (M 17 1) (M 17 4)) = 1 := by
                         rcases w2 with h | h
                         · exact kd_2 h.2
                         · exfalso; omega
                       omega)
                    | (have hq : (kdW (tx M) (M 17 1) (M 17 4)) = 2 := by
                         rcases w3 with h | h
                         · exact kd_3 h.2
                         · exfalso; omega
                       omega)
                    | (have hq : (kdW (tx M) (M 17 1) (M 17 4)) = 3 := by
                         rcases w4 with h | h
                         · exact kd_4 h.2
                         · exfalso; omega
                       omega)
                  first
                  | (have hb : bgC (kdW (tx M) (M 17 1) (M 17 4)) (M 51 11) ahead = 0 := by unfold bgC; rw [if_neg (by omega), if_neg hk.2.2, if_neg (by omega)]
                     rw [hb]
                     exact Or.inl ⟨rfl, rfl, rfl⟩)
                  | (have hb : bgC (kdW (tx M) (M 17 1) (M 17 4)) (M 51 11) ahead = 4 := by unfold bgC; rw [if_neg (by omega), if_neg hk.2.2, if_pos (by omega)]
                     rw [hb]
                     refine Or.inr ⟨rfl, by decide, ?_⟩
                     rw [hfl.2, epf])
                  | (exfalso; omega)
                · refine z_iconst dX2_mayBegin_98 ⟨by decide, by decide⟩ ?_
                  refine z_goto (tgt := 103) dX2_mayBegin_99 (by decide) ?_
                  refine z_zret rfl (by omega) (by decide) rfl (Nat.sub_self _) dX2_mayBegin_103 ?_
                  have hk : 0 ≤ (kdW (tx M) (M 17 1) (M 17 4)) ∧ (kdW (tx M) (M 17 1) (M 17 4)) ≤ 4 ∧ ¬ ((kdW (tx M) (M 17 1) (M 17 4)) = 4 ∧ 8 ≤ M 51 11) := by
                    first
                    | (have hq : (kdW (tx M) (M 17 1) (M 17 4)) = 4 := by
                         rcases w0 with h | h
                         · exact kd_0 h.2
                         · exfalso; omega
                       omega)
                    | (have hq : (kdW (tx M) (M 17 1) (M 17 4)) = 0 := by
                         rcases w1 with h | h
                         · exact kd_1 h.2
                         · exfalso; omega
                       omega)
                    | (have hq : (kdW (tx M) (M 17 1) (M 17 4)) = 1 := by
                         rcases w2 with h | h
                         · exact kd_2 h.2
                         · exfalso; omega
                       omega)
                    | (have hq : (kdW (tx M) (M 17 1) (M 17 4)) = 2 := by
                         rcases w3 with h | h
                         · exact kd_3 h.2
                         · exfalso; omega
                       omega)
                    | (have hq : (kdW (tx M) (M 17 1) (M 17 4)) = 3 := by
                         rcases w4 with h | h
                         · exact kd_4 h.2
                         · exfalso; omega
                       omega)
                  first
                  | (have hb : bgC (kdW (tx M) (M 17 1) (M 17 4)) (M 51 11) ahead = 0 := by unfold bgC; rw [if_neg (by omega), if_neg hk.2.2, if_neg (by omega)]
                     rw [hb]
                     exact Or.inl ⟨rfl, rfl, rfl⟩)
                  | (have hb : bgC (kdW (tx M) (M 17 1) (M 17 4)) (M 51 11) ahead = 4 := by unfold bgC; rw [if_neg (by omega), if_neg hk.2.2, if_pos (by omega)]
                     rw [hb]
                     refine Or.inr ⟨rfl, by decide, ?_⟩
                     rw [hfl.2, epf])
                  | (exfalso; omega)
            · refine z_aload_nr dX2_mayBegin_70 rfl ?_
              refine z_iconst dX2_mayBegin_71 ⟨by decide, by decide⟩ ?_
              refine z_aload_nr dX2_mayBegin_72 rfl ?_
              refine z_geti (kz := 4) fl_X2_25 rfl (by decide) rfl dX2_mayBegin_73 (fun x59 hx59 bx59 => ?_)
              have epf : x59 = M 17 4 := by omega
              refine z_callVi (n2 := 93) (A_X2_fail l g M 3 x59) cb_X2_fail cl_X2_64 (clr0 rfl rfl (by decide) (by decide)) rfl (by decide) ⟨_, rfl, rfl⟩ rfl (by decide) rfl (Nat.le_of_ble_eq_true rfl) rfl dX2_mayBegin_76 (fun x60 Mz60 bx60 kMz60 hc60 => ?_)
              have hfl := hc60
              refine z_zret rfl (by omega) (by decide) rfl (Nat.sub_self _) dX2_mayBegin_79 ?_
              have hk : (kdW (tx M) (M 17 1) (M 17 4)) = 4 := by
                rcases w0 with h | h
                · exact kd_0 h.2
                · exfalso; omega
              have hb : bgC (kdW (tx M) (M 17 1) (M 17 4)) (M 51 11) ahead = 3 := by unfold bgC; rw [if_neg (by omega), if_pos (by omega)]
              rw [hb]
              refine Or.inr ⟨hfl.1, by decide, ?_⟩
              rw [hfl.2, epf]
        · refine z_aload_nr dX2_mayBegin_38 rfl ?_
          refine z_ldcs (j := 4) rfl (by decide) dX2_mayBegin_39 ?_
          refine z_callVip (n2 := 93) (A_X2_isWord l g M 4 (by decide) (h0) (hn)) cb_X2_isWord cl_X2_52 (clr0 rfl rfl (by decide) (by decide)) rfl (by decide) ⟨_, rfl, rfl⟩ rfl (by decide) rfl (Nat.le_of_ble_eq_true rfl) rfl dX2_mayBegin_41 (fun x61 bx61 hx61 => ?_)
          have w4 := hx61
          refine z_if_ne (tgt := 57) dX2_mayBegin_44 (by decide) (fun c62 => ?_) (fun c62 => ?_)
          · refine z_iload_n dX2_mayBegin_57 rfl ?_
            refine z_if_eq (tgt := 80) dX2_mayBegin_58 (by decide) (fun c63 => ?_) (fun c63 => ?_)
            · refine z_iload_n dX2_mayBegin_80 rfl ?_
              refine z_bipush dX2_mayBegin_81 ⟨by decide, by decide⟩ (by decide) ?_
              refine z_icmp_lt (tgt := 98) dX2_mayBegin_83 (by decide) (fun c64 => ?_) (fun c64 => ?_)
              · refine z_iconst dX2_mayBegin_98 ⟨by decide, by decide⟩ ?_
                refine z_goto (tgt := 103) dX2_mayBegin_99 (by decide) ?_
                refine z_zret rfl (by omega) (by decide) rfl (Nat.sub_self _) dX2_mayBegin_103 ?_
                have hk : 0 ≤ (kdW (tx M) (M 17 1) (M 17 4)) ∧ (kdW (tx M) (M 17 1) (M 17 4)) ≤ 4 ∧ ¬ ((kdW (tx M) (M 17 1) (M 17 4)) = 4 ∧ 8 ≤ M 51 11) := by
                  first
                  | (have hq : (kdW (tx M) (M 17 1) (M 17 4)) = 4 := by
                       rcases w0 with h | h
                       · exact kd_0 h.2
                       · exfalso; omega
                     omega)
                  | (have hq : (kdW (tx M) (M 17 1) (M 17 4)) = 0 := by
                       rcases w1 with h | h
                       · exact kd_1 h.2
                       · exfalso; omega
                     omega)
                  | (have hq : (kdW (tx M) (M 17 1) (M 17 4)) = 1 := by
                       rcases w2 with h | h
                       · exact kd_2 h.2
                       · exfalso; omega
                     omega)
                  | (have hq : (kdW (tx M) (M 17 1) (M 17 4)) = 2 := by
                       rcases w3 with h | h
                       · exact kd_3 h.2
                       · exfalso; omega
                     omega)
                  | (have hq : (kdW (tx M) (M 17 1) (M 17 4)) = 3 := by
                       rcases w4 with h | h
                       · exact kd_4 h.2
                       · exfalso; omega
                     omega)
                first
                | (have hb : bgC (kdW (tx M) (M 17 1) (M 17 4)) (M 51 11) ahead = 0 := by unfold bgC; rw [if_neg (by omega), if_neg hk.2.2, if_neg (by omega)]
                   rw [hb]
                   exact Or.inl ⟨rfl, rfl, rfl⟩)
                | (have hb : bgC (kdW (tx M) (M 17 1) (M 17 4)) (M 51 11) ahead = 4 := by unfold bgC; rw [if_neg (by omega), if_neg hk.2.2, if_pos (by omega)]
                   rw [hb]
                   refine Or.inr ⟨rfl, by decide, ?_⟩
                   rw [hfl.2, epf])
                | (exfalso; omega)
              · refine z_aload_nr dX2_mayBegin_86 rfl ?_
                refine z_iconst dX2_mayBegin_87 ⟨by decide, by decide⟩ ?_
                refine z_aload_nr dX2_mayBegin_88 rfl ?_
                refine z_geti (kz := 4) fl_X2_25 rfl (by decide) rfl dX2_mayBegin_89 (fun x65 hx65 bx65 => ?_)
                have epf : x65 = M 17 4 := by omega
                refine z_callVi (n2 := 93) (A_X2_fail l g M 4 x65) cb_X2_fail cl_X2_64 (clr0 rfl rfl (by decide) (by decide)) rfl (by decide) ⟨_, rfl, rfl⟩ rfl (by decide) rfl (Nat.le_of_ble_eq_true rfl) rfl dX2_mayBegin_92 (fun x66 Mz66 bx66 kMz66 hc66 => ?_)
                have hfl := hc66
                refine z_if_eq (tgt := 102) dX2_mayBegin_95 (by decide) (fun c67 => ?_) (fun c67 => ?_)
                · refine z_iconst dX2_mayBegin_102 ⟨by decide, by decide⟩ ?_
                  refine z_zret rfl (by omega) (by decide) rfl (Nat.sub_self _) dX2_mayBegin_103 ?_
                  have hk : 0 ≤ (kdW (tx M) (M 17 1) (M 17 4)) ∧ (kdW (tx M) (M 17 1) (M 17 4)) ≤ 4 ∧ ¬ ((kdW (tx M) (M 17 1) (M 17 4)) = 4 ∧ 8 ≤ M 51 11) := by
                    first
                    | (have hq : (kdW (tx M) (M 17 1) (M 17 4)) = 4 := by
                         rcases w0 with h | h
                         · exact kd_0 h.2
                         · exfalso; omega
                       omega)
                    | (have hq : (kdW (tx M) (M 17 1) (M 17 4)) = 0 := by
                         rcases w1 with h | h
                         · exact kd_1 h.2
                         · exfalso; omega
                       omega)
                    | (have hq : (kdW (tx M) (M 17 1) (M 17 4)) = 1 := by
                         rcases w2 with h | h
                         · exact kd_2 h.2
                         · exfalso; omega
                       omega)
                    | (have hq : (kdW (tx M) (M 17 1) (M 17 4)) = 2 := by
                         rcases w3 with h | h
                         · exact kd_3 h.2
                         · exfalso; omega
                       omega)
                    | (have hq : (kdW (tx M) (M 17 1) (M 17 4)) = 3 := by
                         rcases w4 with h | h
                         · exact kd_4 h.2
                         · exfalso; omega
                       omega)
                  first
                  | (have hb : bgC (kdW (tx M) (M 17 1) (M 17 4)) (M 51 11) ahead = 0 := by unfold bgC; rw [if_neg (by omega), if_neg hk.2.2, if_neg (by omega)]
                     rw [hb]
                     exact Or.inl ⟨rfl, rfl, rfl⟩)
                  | (have hb : bgC (kdW (tx M) (M 17 1) (M 17 4)) (M 51 11) ahead = 4 := by unfold bgC; rw [if_neg (by omega), if_neg hk.2.2, if_pos (by omega)]
                     rw [hb]
                     refine Or.inr ⟨rfl, by decide, ?_⟩
                     rw [hfl.2, epf])
                  | (exfalso; omega)
                · refine z_iconst dX2_mayBegin_98 ⟨by decide, by decide⟩ ?_
                  refine z_goto (tgt := 103) dX2_mayBegin_99 (by decide) ?_
                  refine z_zret rfl (by omega) (by decide) rfl (Nat.sub_self _) dX2_mayBegin_103 ?_
                  have hk : 0 ≤ (kdW (tx M) (M 17 1) (M 17 4)) ∧ (kdW (tx M) (M 17 1) (M 17 4)) ≤ 4 ∧ ¬ ((kdW (tx M) (M 17 1) (M 17 4)) = 4 ∧ 8 ≤ M 51 11) := by
                    first
                    | (have hq : (kdW (tx M) (M 17 1) (M 17 4)) = 4 := by
                         rcases w0 with h | h
                         · exact kd_0 h.2
                         · exfalso; omega
                       omega)
                    | (have hq : (kdW (tx M) (M 17 1) (M 17 4)) = 0 := by
                         rcases w1 with h | h
                         · exact kd_1 h.2
                         · exfalso; omega
                       omega)
                    | (have hq : (kdW (tx M) (M 17 1) (M 17 4)) = 1 := by
                         rcases w2 with h | h
                         · exact kd_2 h.2
                         · exfalso; omega
                       omega)
                    | (have hq : (kdW (tx M) (M 17 1) (M 17 4)) = 2 := by
                         rcases w3 with h | h
                         · exact kd_3 h.2
                         · exfalso; omega
                       omega)
                    | (have hq : (kdW (tx M) (M 17 1) (M 17 4)) = 3 := by
                         rcases w4 with h | h
                         · exact kd_4 h.2
                         · exfalso; omega
                       omega)
                  first
                  | (have hb : bgC (kdW (tx M) (M 17 1) (M 17 4)) (M 51 11) ahead = 0 := by unfold bgC; rw [if_neg (by omega), if_neg hk.2.2, if_neg (by omega)]
                     rw [hb]
                     exact Or.inl ⟨rfl, rfl, rfl⟩)
                  | (have hb : bgC (kdW (tx M) (M 17 1) (M 17 4)) (M 51 11) ahead = 4 := by unfold bgC; rw [if_neg (by omega), if_neg hk.2.2, if_pos (by omega)]
                     rw [hb]
                     refine Or.inr ⟨rfl, by decide, ?_⟩
                     rw [hfl.2, epf])
                  | (exfalso; omega)
            · refine z_aload_nr dX2_mayBegin_61 rfl ?_
              refine z_geti (kz := 11) fl_X2_68 rfl (by decide) rfl dX2_mayBegin_62 (fun x68 hx68 bx68 => ?_)
              refine z_bipush dX2_mayBegin_65 ⟨by decide, by decide⟩ (by decide) ?_
              refine z_icmp_lt (tgt := 80) dX2_mayBegin_67 (by decide) (fun c69 => ?_) (fun c69 => ?_)
              · refine z_iload_n dX2_mayBegin_80 rfl ?_
                refine z_bipush dX2_mayBegin_81 ⟨by decide, by decide⟩ (by decide) ?_
                refine z_icmp_lt (tgt := 98) dX2_mayBegin_83 (by decide) (fun c70 => ?_) (fun c70 => ?_)
                · refine z_iconst dX2_mayBegin_98 ⟨by decide, by decide⟩ ?_
                  refine z_goto (tgt := 103) dX2_mayBegin_99 (by decide) ?_
                  refine z_zret rfl (by omega) (by decide) rfl (Nat.sub_self _) dX2_mayBegin_103 ?_
                  have hk : 0 ≤ (kdW (tx M) (M 17 1) (M 17 4)) ∧ (kdW (tx M) (M 17 1) (M 17 4)) ≤ 4 ∧ ¬ ((kdW (tx M) (M 17 1) (M 17 4)) = 4 ∧ 8 ≤ M 51 11) := by
                    first
                    | (have hq : (kdW (tx M) (M 17 1) (M 17 4)) = 4 := by
                         rcases w0 with h | h
                         · exact kd_0 h.2
                         · exfalso; omega
                       omega)
                    | (have hq : (kdW (tx M) (M 17 1) (M 17 4)) = 0 := by
                         rcases w1 with h | h
                         · exact kd_1 h.2
                         · exfalso; omega
                       omega)
                    | (have hq : (kdW (tx M) (M 17 1) (M 17 4)) = 1 := by
                         rcases w2 with h | h
                         · exact kd_2 h.2
                         · exfalso; omega
                       omega)
                    | (have hq : (kdW (tx M) (M 17 1) (M 17 4)) = 2 := by
                         rcases w3 with h | h
                         · exact kd_3 h.2
                         · exfalso; omega
                       omega)
                    | (have hq : (kdW (tx M) (M 17 1) (M 17 4)) = 3 := by
                         rcases w4 with h | h
                         · exact kd_4 h.2
                         · exfalso; omega
                       omega)
                  first
                  | (have hb : bgC (kdW (tx M) (M 17 1) (M 17 4)) (M 51 11) ahead = 0 := by unfold bgC; rw [if_neg (by omega), if_neg hk.2.2, if_neg (by omega)]
                     rw [hb]
                     exact Or.inl ⟨rfl, rfl, rfl⟩)
                  | (have hb : bgC (kdW (tx M) (M 17 1) (M 17 4)) (M 51 11) ahead = 4 := by unfold bgC; rw [if_neg (by omega), if_neg hk.2.2, if_pos (by omega)]
                     rw [hb]
                     refine Or.inr ⟨rfl, by decide, ?_⟩
                     rw [hfl.2, epf])
                  | (exfalso; omega)
                · refine z_aload_nr dX2_mayBegin_86 rfl ?_
                  refine z_iconst dX2_mayBegin_87 ⟨by decide, by decide⟩ ?_
                  refine z_aload_nr dX2_mayBegin_88 rfl ?_
                  refine z_geti (kz := 4) fl_X2_25 rfl (by decide) rfl dX2_mayBegin_89 (fun x71 hx71 bx71 => ?_)
                  have epf : x71 = M 17 4 := by omega
                  refine z_callVi (n2 := 93) (A_X2_fail l g M 4 x71) cb_X2_fail cl_X2_64 (clr0 rfl rfl (by decide) (by decide)) rfl (by decide) ⟨_, rfl, rfl⟩ rfl (by decide) rfl (Nat.le_of_ble_eq_true rfl) rfl dX2_mayBegin_92 (fun x72 Mz72 bx72 kMz72 hc72 => ?_)
                  have hfl := hc72
                  refine z_if_eq (tgt := 102) dX2_mayBegin_95 (by decide) (fun c73 => ?_) (fun c73 => ?_)
                  · refine z_iconst dX2_mayBegin_102 ⟨by decide, by decide⟩ ?_
                    refine z_zret rfl (by omega) (by decide) rfl (Nat.sub_self _) dX2_mayBegin_103 ?_
                    have hk : 0 ≤ (kdW (tx M) (M 17 1) (M 17 4)) ∧ (kdW (tx M) (M 17 1) (M 17 4)) ≤ 4 ∧ ¬ ((kdW (tx M) (M 17 1) (M 17 4)) = 4 ∧ 8 ≤ M 51 11) := by
                      first
                      | (have hq : (kdW (tx M) (M 17 1) (M 17 4)) = 4 := by
                           rcases w0 with h | h
                           · exact kd_0 h.2
                           · exfalso; omega
                         omega)
                      | (have hq : (kdW (tx M) (M 17 1) (M 17 4)) = 0 := by
                           rcases w1 with h | h
                           · exact kd_1 h.2
                           · exfalso; omega
                         omega)
                      | (have hq : (kdW (tx M) (M 17 1) (M 17 4)) = 1 := by
                           rcases w2 with h | h
                           · exact kd_2 h.2
                           · exfalso; omega
                         omega)
                      | (have hq : (kdW (tx M) (M 17 1) (M 17 4)) = 2 := by
                           rcases w3 with h | h
                           · exact kd_3 h.2
                           · exfalso; omega
                         omega)
                      | (have hq : (kdW (tx M) (M 17 1) (M 17 4)) = 3 := by
                           rcases w4 with h | h
                           · exact kd_4 h.2
                           · exfalso; omega
                         omega)
                    first
                    | (have hb : bgC (kdW (tx M) (M 17 1) (M 17 4)) (M 51 11) ahead = 0 := by unfold bgC; rw [if_neg (by omega), if_neg hk.2.2, if_neg (by omega)]
                       rw [hb]
                       exact Or.inl ⟨rfl, rfl, rfl⟩)
                    | (have hb : bgC (kdW (tx M) (M 17 1) (M 17 4)) (M 51 11) ahead = 4 := by unfold bgC; rw [if_neg (by omega), if_neg hk.2.2, if_pos (by omega)]
                       rw [hb]
                       refine Or.inr ⟨rfl, by decide, ?_⟩
                       rw [hfl.2, epf])
                    | (exfalso; omega)
                  · refine z_iconst dX2_mayBegin_98 ⟨by decide, by decide⟩ ?_
                    refine z_goto (tgt := 103) dX2_mayBegin_99 (by decide) ?_
                    refine z_zret rfl (by omega) (by decide) rfl (Nat.sub_self _) dX2_mayBegin_103 ?_
                    have hk : 0 ≤ (kdW (tx M) (M 17 1) (M 17 4)) ∧ (kdW (tx M) (M 17 1) (M 17 4)) ≤ 4 ∧ ¬ ((kdW (tx M) (M 17 1) (M 17 4)) = 4 ∧ 8 ≤ M 51 11) := by
                      first
                      | (have hq : (kdW (tx M) (M 17 1) (M 17 4)) = 4 := by
                           rcases w0 with h | h
                           · exact kd_0 h.2
                           · exfalso; omega
                         omega)
                      | (have hq : (kdW (tx M) (M 17 1) (M 17 4)) = 0 := by
                           rcases w1 with h | h
                           · exact kd_1 h.2
                           · exfalso; omega
                         omega)
                      | (have hq : (kdW (tx M) (M 17 1) (M 17 4)) = 1 := by
                           rcases w2 with h | h
                           · exact kd_2 h.2
                           · exfalso; omega
                         omega)
                      | (have hq : (kdW (tx M) (M 17 1) (M 17 4)) = 2 := by
                           rcases w3 with h | h
                           · exact kd_3 h.2
                           · exfalso; omega
                         omega)
                      | (have hq : (kdW (tx M) (M 17 1) (M 17 4)) = 3 := by
                           rcases w4 with h | h
                           · exact kd_4 h.2
                           · exfalso; omega
                         omega)
                    first
                    | (have hb : bgC (kdW (tx M) (M 17 1) (M 17 4)) (M 51 11) ahead = 0 := by unfold bgC; rw [if_neg (by omega), if_neg hk.2.2, if_neg (by omega)]
                       rw [hb]
                       exact Or.inl ⟨rfl, rfl, rfl⟩)
                    | (have hb : bgC (kdW (tx M) (M 17 1) (M 17 4)) (M 51 11) ahead = 4 := by unfold bgC; rw [if_neg (by omega), if_neg hk.2.2, if_pos (by omega)]
                       rw [hb]
                       refine Or.inr ⟨rfl, by decide, ?_⟩
                       rw [hfl.2, epf])
                    | (exfalso; omega)
              · refine z_aload_nr dX2_mayBegin_70 rfl ?_
                refine z_iconst dX2_mayBegin_71 ⟨by decide, by decide⟩ ?_
                refine z_aload_nr dX2_mayBegin_72 rfl ?_
                refine z_geti (kz := 4) fl_X2_25 rfl (by decide) rfl dX2_mayBegin_73 (fun x74 hx74 bx74 => ?_)
                have epf : x74 = M 17 4 := by omega
                refine z_callVi (n2 := 93) (A_X2_fail l g M 3 x74) cb_X2_fail cl_X2_64 (clr0 rfl rfl (by decide) (by decide)) rfl (by decide) ⟨_, rfl, rfl⟩ rfl (by decide) rfl (Nat.le_of_ble_eq_true rfl) rfl dX2_mayBegin_76 (fun x75 Mz75 bx75 kMz75 hc75 => ?_)
                have hfl := hc75
                refine z_zret rfl (by omega) (by decide) rfl (Nat.sub_self _) dX2_mayBegin_79 ?_
                have hk : (kdW (tx M) (M 17 1) (M 17 4)) = 4 := by
                  rcases w0 with h | h
                  · exact kd_0 h.2
                  · exfalso; omega
                have hb : bgC (kdW (tx M) (M 17 1) (M 17 4)) (M 51 11) ahead = 3 := by unfold bgC; rw [if_neg (by omega), if_pos (by omega)]
                rw [hb]
                refine Or.inr ⟨hfl.1, by decide, ?_⟩
                rw [hfl.2, epf]
          · refine z_aload_nr dX2_mayBegin_47 rfl ?_
            refine z_iconst dX2_mayBegin_48 ⟨by decide, by decide⟩ ?_
            refine z_aload_nr dX2_mayBegin_49 rfl ?_
            refine z_geti (kz := 4) fl_X2_25 rfl (by decide) rfl dX2_mayBegin_50 (fun x76 hx76 bx76 => ?_)
            have epf : x76 = M 17 4 := by omega
            refine z_callVi (n2 := 93) (A_X2_fail l g M 1 x76) cb_X2_fail cl_X2_64 (clr0 rfl rfl (by decide) (by decide)) rfl (by decide) ⟨_, rfl, rfl⟩ rfl (by decide) rfl (Nat.le_of_ble_eq_true rfl) rfl dX2_mayBegin_53 (fun x77 Mz77 bx77 kMz77 hc77 => ?_)
            have hfl := hc77
            refine z_zret rfl (by omega) (by decide) rfl (Nat.sub_self _) dX2_mayBegin_56 ?_
            have hk : (kdW (tx M) (M 17 1) (M 17 4)) = -1 := by
              refine kd_n ?_ ?_ ?_ ?_ ?_
              · rcases w1 with h | h; (exfalso; omega); exact h.2
              · rcases w2 with h | h; (exfalso; omega); exact h.2
              · rcases w3 with h | h; (exfalso; omega); exact h.2
              · rcases w4 with h | h; (exfalso; omega); exact h.2
              · rcases w0 with h | h; (exfalso; omega); exact h.2
            have hb : bgC (kdW (tx M) (M 17 1) (M 17 4)) (M 51 11) ahead = 1 := by unfold bgC; rw [if_pos hk]
            rw [hb]
            refine Or.inr ⟨hfl.1, by decide, ?_⟩
            rw [hfl.2, epf]
set_option maxHeartbeats 1600000 in
theorem A_X2_readClause51 (l : Launch) (g : Cx) (M : FMem) (h0 : 0 ≤ M 17 4 ∧ M 17 4 ≤ M 17 1) (hn : M 17 1 ≤ 240) (h2 : M 17 2 = 0) (h3 : M 17 3 = -1) (hkn : (kdW (tx M) (M 17 1) (M 17 4)) ≠ -1) (hsk : sk (tx M) (M 17 1) (M 17 4) = M 17 4) (hcl : (kdW (tx M) (M 17 1) (M 17 4)) = 4 → 0 ≤ M 51 11 ∧ M 51 11 < 8) : AMi l g true fi_X2_readClause [fr 17, fr 51] 93 M (fun q M2 => (q = 1 ∧ (clR (tx M) (M 17 1) (M 17 4) (kdW (tx M) (M 17 1) (M 17 4))).1.1 = 0 ∧ ∃ M1, Rs M (clR (tx M) (M 17 1) (M 17 4) (kdW (tx M) (M 17 1) (M 17 4))) M1 ∧ M2 = effR 51 (kdW (tx M) (M 17 1) (M 17 4)) (clR (tx M) (M 17 1) (M 17 4) (kdW (tx M) (M 17 1) (M 17 4))).2.2 (clV (tx M) (M 17 1) (M 17 4) (kdW (tx M) (M 17 1) (M 17 4))) M1) ∨ (q = 0 ∧ (clR (tx M) (M 17 1) (M 17 4) (kdW (tx M) (M 17 1) (M 17 4))).1.1 ≠ 0 ∧ Rs M (clR (tx M) (M 17 1) (M 17 4) (kdW (tx M) (M 17 1) (M 17 4))) M2)) := by
  refine AMi_intro [fr 17, fr 51] (by decide) (knall rfl) (Nat.le_of_ble_eq_true rfl) rfl ?_
  intro hNV hM0 μ
  refine z_aload_nr dX2_readClause_0 rfl ?_
  refine z_iconst dX2_readClause_1 ⟨by decide, by decide⟩ ?_
  refine z_puti (kz := 6) fl_X2_31 rfl (by decide) rfl nr_17_6 dX2_readClause_2 (fun Mz1 hMz1 => ?_)
  refine z_aload_nr dX2_readClause_5 rfl ?_
  refine z_ldcs (j := 1) rfl (by decide) dX2_readClause_6 ?_
  have fat : Mz1 17 4 = M 17 4 := by rw [hMz1, st_at, if_neg (by decide)]
  have fln : Mz1 17 1 = M 17 1 := by rw [hMz1, st_at, if_neg (by decide)]
  have ftf : tx Mz1 = tx M := funext fun i => by show Mz1 18 i = _; rw [hMz1, st_cell (by decide)]
  have hM1 := hMz1
  refine z_callVi (n2 := 93) (A_X2_tookWord l g Mz1 1 (by decide) (by rw [fat]; omega) (by rw [fln]; omega)) cb_X2_tookWord cl_X2_71 (clr0 rfl rfl (by decide) (by decide)) rfl (by decide) ⟨_, rfl, rfl⟩ rfl (by decide) rfl (Nat.le_of_ble_eq_true rfl) rfl dX2_readClause_8 (fun x2 Mz2 bx2 kMz2 hc2 => ?_)
  have k1 := hc2
  rw [ftf, fln, fat] at k1
  refine z_if_eq (tgt := 20) dX2_readClause_11 (by decide) (fun c3 => ?_) (fun c3 => ?_)
  · have q1 : True ∧ ¬ isW (tx M) (M 17 1) (M 17 4) 1 ∧ Mz2 = _ := ⟨trivial, by rcases k1 with h | h; (exfalso; omega); exact h.2.1, by rcases k1 with h | h; (exfalso; omega); exact h.2.2⟩
    refine z_aload_nr dX2_readClause_20 rfl ?_
    refine z_ldcs (j := 2) rfl (by decide) dX2_readClause_21 ?_
    refine z_callVi (n2 := 93) (A_X2_tookWord l g Mz2 2 (by decide) (by rw [q1.2.2, fat]; omega) (by rw [q1.2.2, fln]; omega)) cb_X2_tookWord cl_X2_71 (clr0 rfl rfl (by decide) (by decide)) rfl (by decide) ⟨_, rfl, rfl⟩ rfl (by decide) rfl (Nat.le_of_ble_eq_true rfl) rfl dX2_readClause_23 (fun x4 Mz4 bx4 kMz4 hc4 => ?_)
    have k2 := hc4
    rw [q1.2.2, ftf, fln, fat] at k2
    refine z_if_eq (tgt := 35) dX2_readClause_26 (by decide) (fun c5 => ?_) (fun c5 => ?_)
    · have q2 : True ∧ ¬ isW (tx M) (M 17 1) (M 17 4) 2 ∧ Mz4 = _ := ⟨trivial, by rcases k2 with h | h; (exfalso; omega); exact h.2.1, by rcases k2 with h | h; (exfalso; omega); exact h.2.2⟩
      refine z_aload_nr dX2_readClause_35 rfl ?_
      refine z_ldcs (j := 3) rfl (by decide) dX2_readClause_36 ?_
      refine z_callVi (n2 := 93) (A_X2_tookWord l g Mz4 3 (by decide) (by rw [q2.2.2, fat]; omega) (by rw [q2.2.2, fln]; omega)) cb_X2_tookWord cl_X2_71 (clr0 rfl rfl (by decide) (by decide)) rfl (by decide) ⟨_, rfl, rfl⟩ rfl (by decide) rfl (Nat.le_of_ble_eq_true rfl) rfl dX2_readClause_38 (fun x6 Mz6 bx6 kMz6 hc6 => ?_)
      have k3 := hc6
      rw [q2.2.2, ftf, fln, fat] at k3
      refine z_if_eq (tgt := 50) dX2_readClause_41 (by decide) (fun c7 => ?_) (fun c7 => ?_)
      · have q3 : True ∧ ¬ isW (tx M) (M 17 1) (M 17 4) 3 ∧ Mz6 = _ := ⟨trivial, by rcases k3 with h | h; (exfalso; omega); exact h.2.1, by rcases k3 with h | h; (exfalso; omega); exact h.2.2⟩
        refine z_aload_nr dX2_readClause_50 rfl ?_
        refine z_ldcs (j := 4) rfl (by decide) dX2_readClause_51 ?_
        refine z_callVi (n2 := 93) (A_X2_tookWord l g Mz6 4 (by decide) (by rw [q3.2.2, fat]; omega) (by rw [q3.2.2, fln]; omega)) cb_X2_tookWord cl_X2_71 (clr0 rfl rfl (by decide) (by decide)) rfl (by decide) ⟨_, rfl, rfl⟩ rfl (by decide) rfl (Nat.le_of_ble_eq_true rfl) rfl dX2_readClause_53 (fun x8 Mz8 bx8 kMz8 hc8 => ?_)
        have k4 := hc8
        rw [q3.2.2, ftf, fln, fat] at k4
        refine z_if_eq (tgt := 65) dX2_readClause_56 (by decide) (fun c9 => ?_) (fun c9 => ?_)
        · have q4 : True ∧ ¬ isW (tx M) (M 17 1) (M 17 4) 4 ∧ Mz8 = _ := ⟨trivial, by rcases k4 with h | h; (exfalso; omega); exact h.2.1, by rcases k4 with h | h; (exfalso; omega); exact h.2.2⟩
          refine z_aload_nr dX2_readClause_65 rfl ?_
          refine z_ldcs (j := 0) rfl (by decide) dX2_readClause_66 ?_
          have hw0 : isW (tx M) (M 17 1) (M 17 4) 0 := by
            apply Classical.byContradiction
            intro z
            exact hkn (kd_n q1.2.1 q2.2.1 q3.2.1 q4.2.1 z)
          have hkd : (kdW (tx M) (M 17 1) (M 17 4)) = 4 := kd_0 hw0
          have hle := isW_le (by decide) hw0
          have hwl := wl_b (show 0 < 11 by decide)
          have hR5 : Rs M (s0 (M 17 4)) Mz8 := by
            rw [q4.2.2, hM1]
            have := Rs_s0 (q := M 17 4) h2 h3
            rw [st_self (M := st M 17 6 0) (by rw [st_at, if_neg (by decide)])] at this
            exact this
          have hop : opW (tx M) (M 17 1) 0 (s0 (M 17 4)) = s0 (M 17 4 + wl 0) := by
            unfold opW
            rw [if_pos (show (s0 (M 17 4)).1.1 = 0 from rfl), show (s0 (M 17 4)).1.2.2 = M 17 4 from rfl, hsk, if_pos hw0]
            rfl
          have hok5 : SOk (M 17 1) (s0 (M 17 4)) := fun _ => ⟨by show 0 ≤ M 17 4; omega, by show M 17 4 ≤ M 17 1; omega⟩
          have hok0 : SOk (M 17 1) (s0 (M 17 4 + wl 0)) := fun _ => ⟨by show 0 ≤ M 17 4 + wl 0; omega, by show M 17 4 + wl 0 ≤ M 17 1; omega⟩
          refine z_callVi (n2 := 93) (A_X2_readWord l g Mz8 0 (by decide) _ ((s0 (M 17 4))) (hR5) (rfl) (hok5) (hn)) cb_X2_readWord cl_X2_86 (clr0 rfl rfl (by decide) (by decide)) rfl (by decide) ⟨_, rfl, rfl⟩ rfl (by decide) rfl (Nat.le_of_ble_eq_true rfl) rfl dX2_readClause_68 (fun x10 Mz10 bx10 kMz10 hc10 => ?_)
          have hrw := hc10
          rw [hop] at hrw
          refine z_if_eq (tgt := 86) dX2_readClause_71 (by decide) (fun c11 => ?_) (fun c11 => ?_)
          · refine z_iconst dX2_readClause_86 ⟨by decide, by decide⟩ ?_
            refine z_zret rfl (by omega) (by decide) rfl (Nat.sub_self _) dX2_readClause_87 ?_
            have hC : (clR (tx M) (M 17 1) (M 17 4) (kdW (tx M) (M 17 1) (M 17 4))) = clC (tx M) (M 17 1) (s0 (M 17 4 + wl 0)) := by unfold clR; rw [hkd, if_neg (by decide), if_neg (by decide), if_neg (by decide), if_neg (by decide)]
            rw [hC, hkd]
            first
            | (rcases hres with ⟨a, b, M1, c, d⟩ | ⟨a, b, c⟩
               · first
                 | (exfalso; omega)
                 | exact Or.inl ⟨rfl, b, M1, c, d⟩
               · first
                 | (exfalso; omega)
                 | exact Or.inr ⟨rfl, b, c⟩)
            | (exfalso
               rcases hrw.2 with h | h
               · omega
               · exact h.2 rfl)
          · refine z_aload_nr dX2_readClause_74 rfl ?_
            refine z_aload_nr dX2_readClause_75 rfl ?_
            refine z_callVi (n2 := 93) (A_X2_readClaim51 l g Mz10 _ ((s0 (M 17 4 + wl 0))) (hrw.1) (rfl) (hok0) (hn) (rfl) (hcl hkd)) cb_X2_readClaim cl_X2_89 (clr0 rfl rfl (by decide) (by decide)) rfl (by decide) ⟨_, rfl, rfl⟩ rfl (by decide) rfl (Nat.le_of_ble_eq_true rfl) rfl dX2_readClause_76 (fun x12 Mz12 bx12 kMz12 hc12 => ?_)
            have hres := hc12
            refine z_if_eq (tgt := 86) dX2_readClause_79 (by decide) (fun c13 => ?_) (fun c13 => ?_)
            · refine z_iconst dX2_readClause_86 ⟨by decide, by decide⟩ ?_
              refine z_zret rfl (by omega) (by decide) rfl (Nat.sub_self _) dX2_readClause_87 ?_
              have hC : (clR (tx M) (M 17 1) (M 17 4) (kdW (tx M) (M 17 1) (M 17 4))) = clC (tx M) (M 17 1) (s0 (M 17 4 + wl 0)) := by unfold clR; rw [hkd, if_neg (by decide), if_neg (by decide), if_neg (by decide), if_neg (by decide)]
              rw [hC, hkd]
              first
              | (rcases hres with ⟨a, b, M1, c, d⟩ | ⟨a, b, c⟩
                 · first
                   | (exfalso; omega)
                   | exact Or.inl ⟨rfl, b, M1, c, d⟩
                 · first
                   | (exfalso; omega)
                   | exact Or.inr ⟨rfl, b, c⟩)
              | (exfalso
                 rcases hrw.2 with h | h
                 · omega
                 · exact h.2 rfl)
            · refine z_iconst dX2_readClause_82 ⟨by decide, by decide⟩ ?_
              refine z_goto (tgt := 87) dX2_readClause_83 (by decide) ?_
              refine z_zret rfl (by omega) (by decide) rfl (Nat.sub_self _) dX2_readClause_87 ?_
              have hC : (clR (tx M) (M 17 1) (M 17 4) (kdW (tx M) (M 17 1) (M 17 4))) = clC (tx M) (M 17 1) (s0 (M 17 4 + wl 0)) := by unfold clR; rw [hkd, if_neg (by decide), if_neg (by decide), if_neg (by decide), if_neg (by decide)]
              rw [hC, hkd]
              first
              | (rcases hres with ⟨a, b, M1, c, d⟩ | ⟨a, b, c⟩
                 · first
                   | (exfalso; omega)
                   | exact Or.inl ⟨rfl, b, M1, c, d⟩
                 · first
                   | (exfalso; omega)
                   | exact Or.inr ⟨rfl, b, c⟩)
              | (exfalso
                 rcases hrw.2 with h | h
                 · omega
                 · exact h.2 rfl)
        · have hw4 : isW (tx M) (M 17 1) (M 17 4) 4 ∧ Mz8 = st (st M 17 6 0) 17 4 (M 17 4 + wl 4) := by
            rcases k4 with h | h
            · exact ⟨h.2.1, by rw [h.2.2, hM1]⟩
            · exfalso; omega
          have hkd : (kdW (tx M) (M 17 1) (M 17 4)) = 3 := kd_4 hw4.1
          have hle := isW_le (by decide) hw4.1
          have hwl := wl_b (show 4 < 11 by decide)
          have hsk4 : SOk (M 17 1) (s0 (M 17 4 + wl 4)) := fun _ => ⟨by show 0 ≤ M 17 4 + wl 4; omega, by show M 17 4 + wl 4 ≤ M 17 1; omega⟩
          refine z_aload_nr dX2_readClause_59 rfl ?_
          refine z_aload_nr dX2_readClause_60 rfl ?_
          refine z_callVi (n2 := 93) (A_X2_readOwn51 l g Mz8 _ ((s0 (M 17 4 + wl 4))) (by rw [hw4.2]; exact Rs_s0 h2 h3) (rfl) (hsk4) (hn) (rfl)) cb_X2_readOwn cl_X2_83 (clr0 rfl rfl (by decide) (by decide)) rfl (by decide) ⟨_, rfl, rfl⟩ rfl (by decide) rfl (Nat.le_of_ble_eq_true rfl) rfl dX2_readClause_61 (fun x14 Mz14 bx14 kMz14 hc14 => ?_)
          have hres := hc14
          refine z_zret rfl (by omega) (by decide) rfl (Nat.sub_self _) dX2_readClause_64 ?_
          have hC : (clR (tx M) (M 17 1) (M 17 4) (kdW (tx M) (M 17 1) (M 17 4))) = clO (tx M) (M 17 1) (s0 (M 17 4 + wl 4)) := by unfold clR; rw [hkd, if_neg (by decide), if_neg (by decide), if_neg (by decide), if_pos rfl]
          rw [hC, hkd]
          rcases hres with ⟨a, b, M1, c, d⟩ | ⟨a, b, c⟩
          · exact Or.inl ⟨a, b, M1, c, by rw [d]; rfl⟩
          · exact Or.inr ⟨a, b, c⟩
      · have hw3 : isW (tx M) (M 17 1) (M 17 4) 3 ∧ Mz6 = st (st M 17 6 0) 17 4 (M 17 4 + wl 3) := by
          rcases k3 with h | h
          · exact ⟨h.2.1, by rw [h.2.2, hM1]⟩
          · exfalso; omega
        have hkd : (kdW (tx M) (M 17 1) (M 17 4)) = 2 := kd_3 hw3.1
        have hle := isW_le (by decide) hw3.1
        have hwl := wl_b (show 3 < 11 by decide)
        have hsk3 : SOk (M 17 1) (s0 (M 17 4 + wl 3)) := fun _ => ⟨by show 0 ≤ M 17 4 + wl 3; omega, by show M 17 4 + wl 3 ≤ M 17 1; omega⟩
        refine z_aload_nr dX2_readClause_44 rfl ?_
        refine z_aload_nr dX2_readClause_45 rfl ?_
        refine z_callVi (n2 := 93) (A_X2_readBlur51 l g Mz6 _ ((s0 (M 17 4 + wl 3))) (by rw [hw3.2]; exact Rs_s0 h2 h3) (rfl) (hsk3) (hn) (rfl)) cb_X2_readBlur cl_X2_80 (clr0 rfl rfl (by decide) (by decide)) rfl (by decide) ⟨_, rfl, rfl⟩ rfl (by decide) rfl (Nat.le_of_ble_eq_true rfl) rfl dX2_readClause_46 (fun x15 Mz15 bx15 kMz15 hc15 => ?_)
        have hres := hc15
        refine z_zret rfl (by omega) (by decide) rfl (Nat.sub_self _) dX2_readClause_49 ?_
        have hC : (clR (tx M) (M 17 1) (M 17 4) (kdW (tx M) (M 17 1) (M 17 4))) = clB (tx M) (M 17 1) (s0 (M 17 4 + wl 3)) := by unfold clR; rw [hkd, if_neg (by decide), if_neg (by decide), if_pos rfl]
        rw [hC, hkd]
        rcases hres with ⟨a, b, M1, c, d⟩ | ⟨a, b, c⟩
        · exact Or.inl ⟨a, b, M1, c, by rw [d]; rfl⟩
        · exact Or.inr ⟨a, b, c⟩
    · have hw2 : isW (tx M) (M 17 1) (M 17 4) 2 ∧ Mz4 = st (st M 17 6 0) 17 4 (M 17 4 + wl 2) := by
        rcases k2 with h | h
        · exact ⟨h.2.1, by rw [h.2.2, hM1]⟩
        · exfalso; omega
      have hkd : (kdW (tx M) (M 17 1) (M 17 4)) = 1 := kd_2 hw2.1
      have hle := isW_le (by decide) hw2.1
      have hwl := wl_b (show 2 < 11 by decide)
      have hsk2 : SOk (M 17 1) (s0 (M 17 4 + wl 2)) := fun _ => ⟨by show 0 ≤ M 17 4 + wl 2; omega, by show M 17 4 + wl 2 ≤ M 17 1; omega⟩
      refine z_aload_nr dX2_readClause_29 rfl ?_
      refine z_aload_nr dX2_readClause_30 rfl ?_
      refine z_callVi (n2 := 93) (A_X2_readDust51 l g Mz4 _ ((s0 (M 17 4 + wl 2))) (by rw [hw2.2]; exact Rs_s0 h2 h3) (rfl) (hsk2) (hn) (rfl)) cb_X2_readDust cl_X2_77 (clr0 rfl rfl (by decide) (by decide)) rfl (by decide) ⟨_, rfl, rfl⟩ rfl (by decide) rfl (Nat.le_of_ble_eq_true rfl) rfl dX2_readClause_31 (fun x16 Mz16 bx16 kMz16 hc16 => ?_)
      have hres := hc16
      refine z_zret rfl (by omega) (by decide) rfl (Nat.sub_self _) dX2_readClause_34 ?_
      have hC : (clR (tx M) (M 17 1) (M 17 4) (kdW (tx M) (M 17 1) (M 17 4))) = clD (tx M) (M 17 1) (s0 (M 17 4 + wl 2)) := by unfold clR; rw [hkd, if_neg (by decide), if_pos rfl]
      rw [hC, hkd]
      rcases hres with ⟨a, b, M1, c, d⟩ | ⟨a, b, c⟩
      · exact Or.inl ⟨a, b, M1, c, by rw [d]; rfl⟩
      · exact Or.inr ⟨a, b, c⟩
  · have hw1 : isW (tx M) (M 17 1) (M 17 4) 1 ∧ Mz2 = st (st M 17 6 0) 17 4 (M 17 4 + wl 1) := by
      rcases k1 with h | h
      · exact ⟨h.2.1, by rw [h.2.2, hM1]⟩
      · exfalso; omega
    have hkd : (kdW (tx M) (M 17 1) (M 17 4)) = 0 := kd_1 hw1.1
    have hle := isW_le (by decide) hw1.1
    have hwl := wl_b (show 1 < 11 by decide)
    have hsk1 : SOk (M 17 1) (s0 (M 17 4 + wl 1)) := fun _ => ⟨by show 0 ≤ M 17 4 + wl 1; omega, by show M 17 4 + wl 1 ≤ M 17 1; omega⟩
    refine z_aload_nr dX2_readClause_14 rfl ?_
    refine z_aload_nr dX2_readClause_15 rfl ?_
    refine z_callVi (n2 := 93) (A_X2_readSort51 l g Mz2 _ ((s0 (M 17 4 + wl 1))) (by rw [hw1.2]; exact Rs_s0 h2 h3) (rfl) (hsk1) (hn) (rfl)) cb_X2_readSort cl_X2_74 (clr0 rfl rfl (by decide) (by decide)) rfl (by decide) ⟨_, rfl, rfl⟩ rfl (by decide) rfl (Nat.le_of_ble_eq_true rfl) rfl dX2_readClause_16 (fun x17 Mz17 bx17 kMz17 hc17 => ?_)
    have hres := hc17
    refine z_zret rfl (by omega) (by decide) rfl (Nat.sub_self _) dX2_readClause_19 ?_
    have hC : (clR (tx M) (M 17 1) (M 17 4) (kdW (tx M) (M 17 1) (M 17 4))) = clS (tx M) (M 17 1) (s0 (M 17 4 + wl 1)) := by unfold clR; rw [hkd, if_pos rfl]
    rw [hC, hkd]
    rcases hres with ⟨a, b, M1, c, d⟩ | ⟨a, b, c⟩
    · exact Or.inl ⟨a, b, M1, c, by rw [d]; rfl⟩
    · exact Or.inr ⟨a, b, c⟩
