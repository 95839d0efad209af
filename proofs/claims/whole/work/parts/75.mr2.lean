/-! ===== the reference's reader: a number, a word wanted ===== -/
theorem Qs_off {t : Int → Int} {n : Int} {s : PS} {M M2 : FMem} (h : Qs t n s M) (ho : offS M M2) (h1 : M2 60 36 = M 60 36) (h2 : M2 60 37 = M 60 37) (h3 : M2 60 38 = M 60 38) : Qs t n s M2 := by
  obtain ⟨a, b, c, d, e⟩ := h
  have hx := offS_tx ho
  exact ⟨hx.1.trans a, hx.2.trans b, c, fun z => by rw [h1, h2, h3]; exact d z, fun z => by rw [h2, h3]; exact e z⟩
theorem Qs_ok {t : Int → Int} {n q : Int} {s s2 : PS} {M M2 : FMem} (h : Qs t n s M) (ho : offS M M2) (hs : s2.1 = (0, 0, q)) (h1 : M2 60 36 = q) (h2 : M2 60 37 = 0) (h3 : M2 60 38 = -1) : Qs t n s2 M2 := by
  have hx := offS_tx ho
  refine ⟨hx.1.trans h.1, hx.2.trans h.2.1, by rw [hs]; exact Int.le_refl _, fun _ => ⟨by rw [hs]; exact h1, h2, h3⟩, fun z => absurd (by rw [hs]) z⟩
theorem Qs_no {t : Int → Int} {n q f r : Int} {s s2 : PS} {M M2 : FMem} (h : Qs t n s M) (ho : offS M M2) (hs : s2.1 = (f, q, r)) (hf : 0 < f) (h2 : M2 60 37 = f) (h3 : M2 60 38 = q) : Qs t n s2 M2 := by
  have hx := offS_tx ho
  refine ⟨hx.1.trans h.1, hx.2.trans h.2.1, by rw [hs]; show 0 ≤ f; omega, fun z => ?_, fun _ => ⟨by rw [hs]; exact h2, by rw [hs]; exact h3⟩⟩
  rw [hs] at z
  have : f = 0 := z
  omega
theorem isW_run {t : Int → Int} {n p : Int} {j : Nat} (hj : j < 11) (h : isW t n p j) : rn (isL t) n p = p + wl j := by
  have hwl := wl_b hj
  exact rn_uq (by omega) (fun i i1 i2 => by
    have z1 := h.1 (i - p) (by omega) (by omega)
    have hb := wc_b hj (i := i - p) (by omega) (by omega)
    rw [show p + (i - p) = i by omega] at z1
    exact ⟨z1.1, isL_i.mpr (by rw [z1.2]; exact hb)⟩) (fun y => h.2 ⟨y.1, isL_i.mp y.2⟩)
set_option maxHeartbeats 6400000 in
theorem A_X8_takeNumber (l : Launch) (g : Cx) (M : FMem) (lo hi sg : Int) (t : Int → Int) (n : Int) (s : PS) (hQ : Qs t n s M) (hS : SOk n s) (hn : 0 ≤ n ∧ n ≤ 240) (hsg : sg = 0 ∨ sg = 1) : AMi l g true fi_X8_takeNumber [fr 60, fi lo, fi hi, fi sg] 93 M (fun r M2 => offS M M2 ∧ Qs t n (opN t n sg lo hi s) M2 ∧ ((opN t n sg lo hi s).1.1 = 0 → r = (opN t n sg lo hi s).2.2 s.2.1)) := by
  refine AMi_intro [fr 60, fi lo, fi hi, fi sg, fu, fu, fu, fu, fu, fu] (by decide) (knall rfl) (Nat.le_of_ble_eq_true rfl) rfl ?_
  intro hNV hM0 μ
  have blo : N32 lo := hNV (fi lo) (by simp)
  have bhi : N32 hi := hNV (fi hi) (by simp)
  have bsg : N32 sg := hNV (fi sg) (by simp)
  have hq1 := hQ.1
  have hq2 := hQ.2.1
  have hq0 := hQ.2.2.1
  have hfo : M 60 37 = s.1.1 := by
    by_cases e : s.1.1 = 0
    · rw [(hQ.2.2.2.1 e).2.1, e]
    · exact (hQ.2.2.2.2 e).1
  have lp114 : ∀ (kq : Nat) (bgz blz dgz vz cz : Int) (M1 : FMem), (240 - cz).toNat = kq → (s.1.1 = 0) → (bgz = (sk t n s.1.2.2) ∧ dgz = (sgn t n sg (sk t n s.1.2.2)) ∧ ((blz = 1 ∧ (sgn t n sg (sk t n s.1.2.2)) = (sk t n s.1.2.2) + 1) ∨ (blz = 0 ∧ (sgn t n sg (sk t n s.1.2.2)) = (sk t n s.1.2.2))) ∧ 0 ≤ (sk t n s.1.2.2) ∧ ((sgn t n sg (sk t n s.1.2.2)) < n ∧ 48 ≤ t (sgn t n sg (sk t n s.1.2.2)) ∧ t (sgn t n sg (sk t n s.1.2.2)) ≤ 57)) → (0 ≤ cz ∧ (sgn t n sg (sk t n s.1.2.2)) + cz ≤ n) → (offS M M1 ∧ M1 60 36 = (sgn t n sg (sk t n s.1.2.2)) + cz ∧ M1 60 37 = 0 ∧ M1 60 38 = -1) → (∀ j, (sgn t n sg (sk t n s.1.2.2)) ≤ j → j < (sgn t n sg (sk t n s.1.2.2)) + cz → 48 ≤ t j ∧ t j ≤ 57) → (0 ≤ vz ∧ vz ≤ 1000000 ∧ (cz ≤ 5 → vz = dv t (sgn t n sg (sk t n s.1.2.2)) cz.toNat)) → Wa l g true fi_X8_takeNumber 93 μ (Zi g true fi_X8_takeNumber 93 μ (fun r M2 => offS M M2 ∧ Qs t n (opN t n sg lo hi s) M2 ∧ ((opN t n sg lo hi s).1.1 = 0 → r = (opN t n sg lo hi s).2.2 s.2.1))) 114 [] [fr 60, fi lo, fi hi, fu, fu, fi bgz, fi blz, fi dgz, fi vz, fu] 93 M1 := by
    intro kq
    induction kq using Nat.strongRecOn with
    | _ kq ih114 =>
    intro bgz blz dgz vz cz M1 hk114 hf0 hA h1 h2 h3 h4
    have e1 := h2.2.1
    have ex := offS_tx h2.1
    have e2 : M1 60 35 = n := ex.2.trans hq2
    have e3 : ∀ i, M1 85 i = t i := fun i => congrFun (ex.1.trans hq1) i
    have e7 : cz = 0 → t ((sgn t n sg (sk t n s.1.2.2)) + cz) = t (sgn t n sg (sk t n s.1.2.2)) := fun e => by rw [e, Int.add_zero]
    refine z_aload_nr dX8_takeNumber_114 rfl ?_
    refine z_geti (kz := 36) fl_X8_202 rfl (by decide) rfl dX8_takeNumber_115 (fun x1 hx1 bx1 => ?_)
    refine z_aload_nr dX8_takeNumber_118 rfl ?_
    refine z_geti (kz := 35) fl_X8_197 rfl (by decide) rfl dX8_takeNumber_119 (fun x2 hx2 bx2 => ?_)
    refine z_icmp_ge (tgt := 192) dX8_takeNumber_122 (by decide) (fun c3 => ?_) (fun c3 => ?_)
    · have hrun : rn (isD t) n (sgn t n sg (sk t n s.1.2.2)) = (sgn t n sg (sk t n s.1.2.2)) + cz := rn_uq (by omega) (fun jz a b => ⟨by omega, isD_i.mpr (h3 jz a b)⟩) (fun z => by have hq := isD_i.mp z.2; omega)
      have hcz : 1 ≤ cz := by omega
      refine z_iload dX8_takeNumber_192 rfl ?_
      refine z_if_eq (tgt := 204) dX8_takeNumber_194 (by decide) (fun c4 => ?_) (fun c4 => ?_)
      · refine z_iload dX8_takeNumber_204 rfl ?_
        refine z_istore (loc2 := [fr 60, fi lo, fi hi, fu, fu, fi bgz, fi blz, fi dgz, fi vz, fu]) dX8_takeNumber_206 (by decide) rfl ?_
        have hnv : cz ≤ 5 → nvl t n (sk t n s.1.2.2) (sgn t n sg (sk t n s.1.2.2)) = vz := by
          intro e
          unfold nvl
          rw [hrun, show (sgn t n sg (sk t n s.1.2.2)) + cz - (sgn t n sg (sk t n s.1.2.2)) = cz by omega, ← h4.2.2 e]
          first
          | (rw [if_pos (by omega)]; omega)
          | (rw [if_neg (by omega)]; omega)
        have hL8 : -1000000 ≤ vz ∧ vz ≤ 1000000 := by omega
        refine z_aload_nr dX8_takeNumber_208 rfl ?_
        refine z_aload_nr dX8_takeNumber_209 rfl ?_
        refine z_geti (kz := 36) fl_X8_202 rfl (by decide) rfl dX8_takeNumber_210 (fun x5 hx5 bx5 => ?_)
        refine z_iload dX8_takeNumber_213 rfl ?_
        first | refine z_isubN dX8_takeNumber_215 (by omega) (fun x6 hx6 => ?_) | refine z_isub dX8_takeNumber_215 (fun x6 hx6 => ?_)
        refine z_bipush dX8_takeNumber_216 ⟨by decide, by decide⟩ (by decide) ?_
        refine z_icmp_ge (tgt := 238) dX8_takeNumber_218 (by decide) (fun c7 => ?_) (fun c7 => ?_)
        · refine z_iconst dX8_takeNumber_238 ⟨by decide, by decide⟩ ?_
          refine z_iconst dX8_takeNumber_239 ⟨by decide, by decide⟩ ?_
          refine z_iload dX8_takeNumber_240 rfl ?_
          refine z_callVi (n2 := 93) (A_X8_want l g M1 0 2 bgz (by omega) (by decide)) cb_X8_want cl_X8_226 (clr0 rfl rfl (by decide) (by decide)) rfl (by decide) ⟨_, rfl, rfl⟩ rfl (by decide) rfl (Nat.le_of_ble_eq_true rfl) rfl dX8_takeNumber_242 (fun x8 Mz8 bx8 kMz8 hc8 => ?_)
          have hwb := hc8
          refine z_istore (loc2 := [fr 60, fi lo, fi hi, fu, fu, fi bgz, fi blz, fi dgz, fi vz, fi x8]) dX8_takeNumber_245 (by decide) rfl ?_
          refine z_iload dX8_takeNumber_247 rfl ?_
          refine z_iret rfl (by decide) rfl (Nat.sub_self _) dX8_takeNumber_249 ?_
          have hoS : offS M Mz8 := by
            rcases hwb with ⟨z1, z2, z3, z4⟩ | ⟨z1, z2, z3⟩
            · rw [z4]; exact offS_st (offS_st h2.1 (by omega)) (by omega)
            · rw [z2]; exact h2.1
          by_cases hgd : cz ≤ 5 ∧ lo ≤ vz ∧ vz ≤ hi
          · have hF : opF t n (sk t n s.1.2.2) (sgn t n sg (sk t n s.1.2.2)) lo hi = ((0, 0, (sgn t n sg (sk t n s.1.2.2)) + cz), vz) := by
              unfold opF
              rw [if_neg (by omega), if_neg, hrun, hnv hgd.1]
              rintro (z | z)
              · omega
              · rw [hnv hgd.1] at z; omega
            have hop : (opN t n sg lo hi s) = ((0, 0, (sgn t n sg (sk t n s.1.2.2)) + cz), s.2.1 + 1, up s.2.2 s.2.1 vz) := by
              unfold opN
              rw [if_pos hf0, hF]
              rfl
            have hM1 : Mz8 = M1 := by
              rcases hwb with ⟨z1, z2, z3, z4⟩ | ⟨z1, z2, z3⟩
              · exfalso; omega
              · exact z2
            refine ⟨hoS, Qs_ok hQ hoS (by rw [hop]) (by rw [hM1]; exact e1) (by rw [hM1]; exact h2.2.2.1) (by rw [hM1]; exact h2.2.2.2), fun _ => ?_⟩
            rw [hop]; exact (up_s _ _ _).symm
          · have hF : opF t n (sk t n s.1.2.2) (sgn t n sg (sk t n s.1.2.2)) lo hi = ((2, (sk t n s.1.2.2), 0), 0) := by
              unfold opF
              rw [if_neg (by omega), if_pos]
              by_cases e : cz ≤ 5
              · right; rw [hnv e]; omega
              · left; omega
            have hop : (opN t n sg lo hi s).1 = (2, (sk t n s.1.2.2), 0) := by
              unfold opN
              rw [if_pos hf0, hF]
              rfl
            have hM1 : Mz8 = st (st M1 60 37 2) 60 38 (sk t n s.1.2.2) := by
              rcases hwb with ⟨z1, z2, z3, z4⟩ | ⟨z1, z2, z3⟩
              · rw [z4, hA.1]
              · exfalso; omega
            refine ⟨hoS, Qs_no hQ hoS hop (by decide) (by rw [hM1, st_at, if_neg (by decide), st_same]) (by rw [hM1, st_same]), fun z => ?_⟩
            rw [hop] at z
            exact absurd z (by decide : ¬ (2 : Int) = 0)
        · refine z_iload dX8_takeNumber_221 rfl ?_
          refine z_i2l dX8_takeNumber_223 ?_
          refine z_iload_n dX8_takeNumber_224 rfl ?_
          refine z_i2l dX8_takeNumber_225 ?_
          refine z_iload_n dX8_takeNumber_226 rfl ?_
          refine z_i2l dX8_takeNumber_227 ?_
          refine z_callSip (n2 := 93) (A_X8_in l g M1 vz lo hi) cb_X8_in cl_X8_130 (clr0 rfl rfl (by decide) (by decide)) rfl (by decide) rfl (Nat.le_of_ble_eq_true rfl) rfl dX8_takeNumber_228 (fun x9 bx9 hx9 => ?_)
          have i9 := if01 hx9
          refine z_if_eq (tgt := 238) dX8_takeNumber_231 (by decide) (fun c10 => ?_) (fun c10 => ?_)
          · refine z_iconst dX8_takeNumber_238 ⟨by decide, by decide⟩ ?_
            refine z_iconst dX8_takeNumber_239 ⟨by decide, by decide⟩ ?_
            refine z_iload dX8_takeNumber_240 rfl ?_
            refine z_callVi (n2 := 93) (A_X8_want l g M1 0 2 bgz (by omega) (by decide)) cb_X8_want cl_X8_226 (clr0 rfl rfl (by decide) (by decide)) rfl (by decide) ⟨_, rfl, rfl⟩ rfl (by decide) rfl (Nat.le_of_ble_eq_true rfl) rfl dX8_takeNumber_242 (fun x11 Mz11 bx11 kMz11 hc11 => ?_)
            have hwb := hc11
            refine z_istore (loc2 := [fr 60, fi lo, fi hi, fu, fu, fi bgz, fi blz, fi dgz, fi vz, fi x11]) dX8_takeNumber_245 (by decide) rfl ?_
            refine z_iload dX8_takeNumber_247 rfl ?_
            refine z_iret rfl (by decide) rfl (Nat.sub_self _) dX8_takeNumber_249 ?_
            have hoS : offS M Mz11 := by
              rcases hwb with ⟨z1, z2, z3, z4⟩ | ⟨z1, z2, z3⟩
              · rw [z4]; exact offS_st (offS_st h2.1 (by omega)) (by omega)
              · rw [z2]; exact h2.1
            by_cases hgd : cz ≤ 5 ∧ lo ≤ vz ∧ vz ≤ hi
            · have hF : opF t n (sk t n s.1.2.2) (sgn t n sg (sk t n s.1.2.2)) lo hi = ((0, 0, (sgn t n sg (sk t n s.1.2.2)) + cz), vz) := by
                unfold opF
                rw [if_neg (by omega), if_neg, hrun, hnv hgd.1]
                rintro (z | z)
                · omega
                · rw [hnv hgd.1] at z; omega
              have hop : (opN t n sg lo hi s) = ((0, 0, (sgn t n sg (sk t n s.1.2.2)) + cz), s.2.1 + 1, up s.2.2 s.2.1 vz) := by
                unfold opN
                rw [if_pos hf0, hF]
                rfl
              have hM1 : Mz11 = M1 := by
                rcases hwb with ⟨z1, z2, z3, z4⟩ | ⟨z1, z2, z3⟩
                · exfalso; omega
                · exact z2
              refine ⟨hoS, Qs_ok hQ hoS (by rw [hop]) (by rw [hM1]; exact e1) (by rw [hM1]; exact h2.2.2.1) (by rw [hM1]; exact h2.2.2.2), fun _ => ?_⟩
              rw [hop]; exact (up_s _ _ _).symm
            · have hF : opF t n (sk t n s.1.2.2) (sgn t n sg (sk t n s.1.2.2)) lo hi = ((2, (sk t n s.1.2.2), 0), 0) := by
                unfold opF
                rw [if_neg (by omega), if_pos]
                by_cases e : cz ≤ 5
                · right; rw [hnv e]; omega
                · left; omega
              have hop : (opN t n sg lo hi s).1 = (2, (sk t n s.1.2.2), 0) := by
                unfold opN
                rw [if_pos hf0, hF]
                rfl
              have hM1 : Mz11 = st (st M1 60 37 2) 60 38 (sk t n s.1.2.2) := by
                rcases hwb with ⟨z1, z2, z3, z4⟩ | ⟨z1, z2, z3⟩
                · rw [z4, hA.1]
                · exfalso; omega
              refine ⟨hoS, Qs_no hQ hoS hop (by decide) (by rw [hM1, st_at, if_neg (by decide), st_same]) (by rw [hM1, st_same]), fun z => ?_⟩
              rw [hop] at z
              exact absurd z (by decide : ¬ (2 : Int) = 0)
          · refine z_iconst dX8_takeNumber_234 ⟨by decide, by decide⟩ ?_
            refine z_goto (tgt := 239) dX8_takeNumber_235 (by decide) ?_
            refine z_iconst dX8_takeNumber_239 ⟨by decide, by decide⟩ ?_
            refine z_iload dX8_takeNumber_240 rfl ?_
            refine z_callVi (n2 := 93) (A_X8_want l g M1 1 2 bgz (by omega) (by decide)) cb_X8_want cl_X8_226 (clr0 rfl rfl (by decide) (by decide)) rfl (by decide) ⟨_, rfl, rfl⟩ rfl (by decide) rfl (Nat.le_of_ble_eq_true rfl) rfl dX8_takeNumber_242 (fun x12 Mz12 bx12 kMz12 hc12 => ?_)
            have hwb := hc12
            refine z_istore (loc2 := [fr 60, fi lo, fi hi, fu, fu, fi bgz, fi blz, fi dgz, fi vz, fi x12]) dX8_takeNumber_245 (by decide) rfl ?_
            refine z_iload dX8_takeNumber_247 rfl ?_
            refine z_iret rfl (by decide) rfl (Nat.sub_self _) dX8_takeNumber_249 ?_
            have hoS : offS M Mz12 := by
              rcases hwb with ⟨z1, z2, z3, z4⟩ | ⟨z1, z2, z3⟩
              · rw [z4]; exact offS_st (offS_st h2.1 (by omega)) (by omega)
              · rw [z2]; exact h2.1
            by_cases hgd : cz ≤ 5 ∧ lo ≤ vz ∧ vz ≤ hi
            · have hF : opF t n (sk t n s.1.2.2) (sgn t n sg (sk t n s.1.2.2)) lo hi = ((0, 0, (sgn t n sg (sk t n s.1.2.2)) + cz), vz) := by
                unfold opF
                rw [if_neg (by omega), if_neg, hrun, hnv hgd.1]
                rintro (z | z)
                · omega
                · rw [hnv hgd.1] at z; omega
              have hop : (opN t n sg lo hi s) = ((0, 0, (sgn t n sg (sk t n s.1.2.2)) + cz), s.2.1 + 1, up s.2.2 s.2.1 vz) := by
                unfold opN
                rw [if_pos hf0, hF]
                rfl
              have hM1 : Mz12 = M1 := by
                rcases hwb with ⟨z1, z2, z3, z4⟩ | ⟨z1, z2, z3⟩
                · exfalso; omega
                · exact z2
              refine ⟨hoS, Qs_ok hQ hoS (by rw [hop]) (by rw [hM1]; exact e1) (by rw [hM1]; exact h2.2.2.1) (by rw [hM1]; exact h2.2.2.2), fun _ => ?_⟩
              rw [hop]; exact (up_s _ _ _).symm
            · have hF : opF t n (sk t n s.1.2.2) (sgn t n sg (sk t n s.1.2.2)) lo hi = ((2, (sk t n s.1.2.2), 0), 0) := by
                unfold opF
                rw [if_neg (by omega), if_pos]
                by_cases e : cz ≤ 5
                · right; rw [hnv e]; omega
                · left; omega
              have hop : (opN t n sg lo hi s).1 = (2, (sk t n s.1.2.2), 0) := by
                unfold opN
                rw [if_pos hf0, hF]
                rfl
              have hM1 : Mz12 = st (st M1 60 37 2) 60 38 (sk t n s.1.2.2) := by
                rcases hwb with ⟨z1, z2, z3, z4⟩ | ⟨z1, z2, z3⟩
                · rw [z4, hA.1]
                · exfalso; omega
              refine ⟨hoS, Qs_no hQ hoS hop (by decide) (by rw [hM1, st_at, if_neg (by decide), st_same]) (by rw [hM1, st_same]), fun z => ?_⟩
              rw [hop] at z
              exact absurd z (by decide : ¬ (2 : Int) = 0)
      · refine z_iconst dX8_takeNumber_197 ⟨by decide, by decide⟩ ?_
        refine z_iload dX8_takeNumber_198 rfl ?_
        first | refine z_isubN dX8_takeNumber_200 (by omega) (fun x13 hx13 => ?_) | refine z_isub dX8_takeNumber_200 (fun x13 hx13 => ?_)
        refine z_goto (tgt := 206) dX8_takeNumber_201 (by decide) ?_
        refine z_istore (loc2 := [fr 60, fi lo, fi hi, fu, fu, fi bgz, fi blz, fi dgz, fi x13, fu]) dX8_takeNumber_206 (by decide) rfl ?_
        have hnv : cz ≤ 5 → nvl t n (sk t n s.1.2.2) (sgn t n sg (sk t n s.1.2.2)) = x13 := by
          intro e
          unfold nvl
          rw [hrun, show (sgn t n sg (sk t n s.1.2.2)) + cz - (sgn t n sg (sk t n s.1.2.2)) = cz by omega, ← h4.2.2 e]
          first
          | (rw [if_pos (by omega)]; omega)
          | (rw [if_neg (by omega)]; omega)
        have hL8 : -1000000 ≤ x13 ∧ x13 ≤ 1000000 := by omega
        refine z_aload_nr dX8_takeNumber_208 rfl ?_
        refine z_aload_nr dX8_takeNumber_209 rfl ?_
        refine z_geti (kz := 36) fl_X8_202 rfl (by decide) rfl dX8_takeNumber_210 (fun x14 hx14 bx14 => ?_)
        refine z_iload dX8_takeNumber_213 rfl ?_
        first | refine z_isubN dX8_takeNumber_215 (by omega) (fun x15 hx15 => ?_) | refine z_isub dX8_takeNumber_215 (fun x15 hx15 => ?_)
        refine z_bipush dX8_takeNumber_216 ⟨by decide, by decide⟩ (by decide) ?_
        refine z_icmp_ge (tgt := 238) dX8_takeNumber_218 (by decide) (fun c16 => ?_) (fun c16 => ?_)
        · refine z_iconst dX8_takeNumber_238 ⟨by decide, by decide⟩ ?_
          refine z_iconst dX8_takeNumber_239 ⟨by decide, by decide⟩ ?_
          refine z_iload dX8_takeNumber_240 rfl ?_
          refine z_callVi (n2 := 93) (A_X8_want l g M1 0 2 bgz (by omega) (by decide)) cb_X8_want cl_X8_226 (clr0 rfl rfl (by decide) (by decide)) rfl (by decide) ⟨_, rfl, rfl⟩ rfl (by decide) rfl (Nat.le_of_ble_eq_true rfl) rfl dX8_takeNumber_242 (fun x17 Mz17 bx17 kMz17 hc17 => ?_)
          have hwb := hc17
          refine z_istore (loc2 := [fr 60, fi lo, fi hi, fu, fu, fi bgz, fi blz, fi dgz, fi x13, fi x17]) dX8_takeNumber_245 (by decide) rfl ?_
          refine z_iload dX8_takeNumber_247 rfl ?_
          refine z_iret rfl (by decide) rfl (Nat.sub_self _) dX8_takeNumber_249 ?_
          have hoS : offS M Mz17 := by
            rcases hwb with ⟨z1, z2, z3, z4⟩ | ⟨z1, z2, z3⟩
            · rw [z4]; exact offS_st (offS_st h2.1 (by omega)) (by omega)
            · rw [z2]; exact h2.1
          by_cases hgd : cz ≤ 5 ∧ lo ≤ x13 ∧ x13 ≤ hi
          · have hF : opF t n (sk t n s.1.2.2) (sgn t n sg (sk t n s.1.2.2)) lo hi = ((0, 0, (sgn t n sg (sk t n s.1.2.2)) + cz), x13) := by
              unfold opF
              rw [if_neg (by omega), if_neg, hrun, hnv hgd.1]
              rintro (z | z)
              · omega
              · rw [hnv hgd.1] at z; omega
            have hop : (opN t n sg lo hi s) = ((0, 0, (sgn t n sg (sk t n s.1.2.2)) + cz), s.2.1 + 1, up s.2.2 s.2.1 x13) := by
              unfold opN
              rw [if_pos hf0, hF]
              rfl
            have hM1 : Mz17 = M1 := by
              rcases hwb with ⟨z1, z2, z3, z4⟩ | ⟨z1, z2, z3⟩
              · exfalso; omega
              · exact z2
            refine ⟨hoS, Qs_ok hQ hoS (by rw [hop]) (by rw [hM1]; exact e1) (by rw [hM1]; exact h2.2.2.1) (by rw [hM1]; exact h2.2.2.2), fun _ => ?_⟩
            rw [hop]; exact (up_s _ _ _).symm
          · have hF : opF t n (sk t n s.1.2.2) (sgn t n sg (sk t n s.1.2.2)) lo hi = ((2, (sk t n s.1.2.2), 0), 0) := by
              unfold opF
              rw [if_neg (by omega), if_pos]
              by_cases e : cz ≤ 5
              · right; rw [hnv e]; omega
              · left; omega
            have hop : (opN t n sg lo hi s).1 = (2, (sk t n s.1.2.2), 0) := by
              unfold opN
              rw [if_pos hf0, hF]
              rfl
            have hM1 : Mz17 = st (st M1 60 37 2) 60 38 (sk t n s.1.2.2) := by
              rcases hwb with ⟨z1, z2, z3, z4⟩ | ⟨z1, z2, z3⟩
              · rw [z4, hA.1]
              · exfalso; omega
            refine ⟨hoS, Qs_no hQ hoS hop (by decide) (by rw [hM1, st_at, if_neg (by decide), st_same]) (by rw [hM1, st_same]), fun z => ?_⟩
            rw [hop] at z
            exact absurd z (by decide : ¬ (2 : Int) = 0)
        · refine z_iload dX8_takeNumber_221 rfl ?_
          refine z_i2l dX8_takeNumber_223 ?_
          refine z_iload_n dX8_takeNumber_224 rfl ?_
          refine z_i2l dX8_takeNumber_225 ?_
          refine z_iload_n dX8_takeNumber_226 rfl ?_
          refine z_i2l dX8_takeNumber_227 ?_
          refine z_callSip (n2 := 93) (A_X8_in l g M1 x13 lo hi) cb_X8_in cl_X8_130 (clr0 rfl rfl (by decide) (by decide)) rfl (by decide) rfl (Nat.le_of_ble_eq_true rfl) rfl dX8_takeNumber_228 (fun x18 bx18 hx18 => ?_)
          have i18 := if01 hx18
          refine z_if_eq (tgt := 238) dX8_takeNumber_231 (by decide) (fun c19 => ?_) (fun c19 => ?_)
          · refine z_iconst dX8_takeNumber_238 ⟨by decide, by decide⟩ ?_
            refine z_iconst dX8_takeNumber_239 ⟨by decide, by decide⟩ ?_
            refine z_iload dX8_takeNumber_240 rfl ?_
            refine z_callVi (n2 := 93) (A_X8_want l g M1 0 2 bgz (by omega) (by decide)) cb_X8_want cl_X8_226 (clr0 rfl rfl (by decide) (by decide)) rfl (by decide) ⟨_, rfl, rfl⟩ rfl (by decide) rfl (Nat.le_of_ble_eq_true rfl) rfl dX8_takeNumber_242 (fun x20 Mz20 bx20 kMz20 hc20 => ?_)
            have hwb := hc20
            refine z_istore (loc2 := [fr 60, fi lo, fi hi, fu, fu, fi bgz, fi blz, fi dgz, fi x13, fi x20]) dX8_takeNumber_245 (by decide) rfl ?_
            refine z_iload dX8_takeNumber_247 rfl ?_
            refine z_iret rfl (by decide) rfl (Nat.sub_self _) dX8_takeNumber_249 ?_
            have hoS : offS M Mz20 := by
              rcases hwb with ⟨z1, z2, z3, z4⟩ | ⟨z1, z2, z3⟩
              · rw [z4]; exact offS_st (offS_st h2.1 (by omega)) (by omega)
              · rw [z2]; exact h2.1
            by_cases hgd : cz ≤ 5 ∧ lo ≤ x13 ∧ x13 ≤ hi
            · have hF : opF t n (sk t n s.1.2.2) (sgn t n sg (sk t n s.1.2.2)) lo hi = ((0, 0, (sgn t n sg (sk t n s.1.2.2)) + cz), x13) := by
                unfold opF
                rw [if_neg (by omega), if_neg, hrun, hnv hgd.1]
                rintro (z | z)
                · omega
                · rw [hnv hgd.1] at z; omega
              have hop : (opN t n sg lo hi s) = ((0, 0, (sgn t n sg (sk t n s.1.2.2)) + cz), s.2.1 + 1, up s.2.2 s.2.1 x13) := by
                unfold opN
                rw [if_pos hf0, hF]
                rfl
              have hM1 : Mz20 = M1 := by
                rcases hwb with ⟨z1, z2, z3, z4⟩ | ⟨z1, z2, z3⟩
                · exfalso; omega
                · exact z2
              refine ⟨hoS, Qs_ok hQ hoS (by rw [hop]) (by rw [hM1]; exact e1) (by rw [hM1]; exact h2.2.2.1) (by rw [hM1]; exact h2.2.2.2), fun _ => ?_⟩
              rw [hop]; exact (up_s _ _ _).symm
            · have hF : opF t n (sk t n s.1.2.2) (sgn t n sg (sk t n s.1.2.2)) lo hi = ((2, (sk t n s.1.2.2), 0), 0) := by
                unfold opF
                rw [if_neg (by omega), if_pos]
                by_cases e : cz ≤ 5
                · right; rw [hnv e]; omega
                · left; omega
              have hop : (opN t n sg lo hi s).1 = (2, (sk t n s.1.2.2), 0) := by
                unfold opN
                rw [if_pos hf0, hF]
                rfl
              have hM1 : Mz20 = st (st M1 60 37 2) 60 38 (sk t n s.1.2.2) := by
                rcases hwb with ⟨z1, z2, z3, z4⟩ | ⟨z1, z2, z3⟩
                · rw [z4, hA.1]
                · exfalso; omega
              refine ⟨hoS, Qs_no hQ hoS hop (by decide) (by rw [hM1, st_at, if_neg (by decide), st_same]) (by rw [hM1, st_same]), fun z => ?_⟩
              rw [hop] at z
              exact absurd z (by decide : ¬ (2 : Int) = 0)
          · refine z_iconst dX8_takeNumber_234 ⟨by decide, by decide⟩ ?_
            refine z_goto (tgt := 239) dX8_takeNumber_235 (by decide) ?_
            refine z_iconst dX8_takeNumber_239 ⟨by decide, by decide⟩ ?_
            refine z_iload dX8_takeNumber_240 rfl ?_
            refine z_callVi (n2 := 93) (A_X8_want l g M1 1 2 bgz (by omega) (by decide)) cb_X8_want cl_X8_226 (clr0 rfl rfl (by decide) (by decide)) rfl (by decide) ⟨_, rfl, rfl⟩ rfl (by decide) rfl (Nat.le_of_ble_eq_true rfl) rfl dX8_takeNumber_242 (fun x21 Mz21 bx21 kMz21 hc21 => ?_)
            have hwb := hc21
            refine z_istore (loc2 := [fr 60, fi lo, fi hi, fu, fu, fi bgz, fi blz, fi dgz, fi x13, fi x21]) dX8_takeNumber_245 (by decide) rfl ?_
            refine z_iload dX8_takeNumber_247 rfl ?_
            refine z_iret rfl (by decide) rfl (Nat.sub_self _) dX8_takeNumber_249 ?_
            have hoS : offS M Mz21 := by
              rcases hwb with ⟨z1, z2, z3, z4⟩ | ⟨z1, z2, z3⟩
              · rw [z4]; exact offS_st (offS_st h2.1 (by omega)) (by omega)
              · rw [z2]; exact h2.1
            by_cases hgd : cz ≤ 5 ∧ lo ≤ x13 ∧ x13 ≤ hi
            · have hF : opF t n (sk t n s.1.2.2) (sgn t n sg (sk t n s.1.2.2)) lo hi = ((0, 0, (sgn t n sg (sk t n s.1.2.2)) + cz), x13) := by
                unfold opF
                rw [if_neg (by omega), if_neg, hrun, hnv hgd.1]
                rintro (z | z)
                · omega
                · rw [hnv hgd.1] at z; omega
              have hop : (opN t n sg lo hi s) = ((0, 0, (sgn t n sg (sk t n s.1.2.2)) + cz), s.2.1 + 1, up s.2.2 s.2.1 x13) := by
                unfold opN
                rw [if_pos hf0, hF]
                rfl
              have hM1 : Mz21 = M1 := by
                rcases hwb with ⟨z1, z2, z3, z4⟩ | ⟨z1, z2, z3⟩
                · exfalso; omega
                · exact z2
              refine ⟨hoS, Qs_ok hQ hoS (by rw [hop]) (by rw [hM1]; exact e1) (by rw [hM1]; exact h2.2.2.1) (by rw [hM1]; exact h2.2.2.2), fun _ => ?_⟩
              rw [hop]; exact (up_s _ _ _).symm
            · have hF : opF t n (sk t n s.1.2.2) (sgn t n sg (sk t n s.1.2.2)) lo hi = ((2, (sk t n s.1.2.2), 0), 0) := by
                unfold opF
                rw [if_neg (by omega), if_pos]
                by_cases e : cz ≤ 5
                · right; rw [hnv e]; omega
                · left; omega
              have hop : (opN t n sg lo hi s).1 = (2, (sk t n s.1.2.2), 0) := by
                unfold opN
                rw [if_pos hf0, hF]
                rfl
              have hM1 : Mz21 = st (st M1 60 37 2) 60 38 (sk t n s.1.2.2) := by
                rcases hwb with ⟨z1, z2, z3, z4⟩ | ⟨z1, z2, z3⟩
                · rw [z4, hA.1]
                · exfalso; omega
              refine ⟨hoS, Qs_no hQ hoS hop (by decide) (by rw [hM1, st_at, if_neg (by decide), st_same]) (by rw [hM1, st_same]), fun z => ?_⟩
              rw [hop] at z
              exact absurd z (by decide : ¬ (2 : Int) = 0)
    · refine z_aload_nr dX8_takeNumber_125 rfl ?_
      refine z_getr (b := 85) fl_X8_83 rfl (by decide) rf_60_34 rfl dX8_takeNumber_126 ?_
      refine z_aload_nr dX8_takeNumber_129 rfl ?_
      refine z_geti (kz := 36) fl_X8_202 rfl (by decide) rfl dX8_takeNumber_130 (fun x22 hx22 bx22 => ?_)
      have ep : x22 = (sgn t n sg (sk t n s.1.2.2)) + cz := by omega
      refine z_iald rfl (by decide) (by omega) (by omega) dX8_takeNumber_133 (fun x23 hx23 bx23 => ?_)
      have hb133 : x23 = t ((sgn t n sg (sk t n s.1.2.2)) + cz) := by rw [hx23, ep, e3]
      refine z_i2l dX8_takeNumber_134 ?_
      refine z_ldc2 (c := 48) cn_X8_222 ⟨by decide, by decide⟩ dX8_takeNumber_135 ?_
      refine z_ldc2 (c := 57) cn_X8_224 ⟨by decide, by decide⟩ dX8_takeNumber_138 ?_
      refine z_callSip (n2 := 93) (A_X8_in l g M1 x23 48 57) cb_X8_in cl_X8_130 (clr0 rfl rfl (by decide) (by decide)) rfl (by decide) rfl (Nat.le_of_ble_eq_true rfl) rfl dX8_takeNumber_141 (fun x24 bx24 hx24 => ?_)
      have i24 := if01 hx24
      refine z_if_eq (tgt := 192) dX8_takeNumber_144 (by decide) (fun c25 => ?_) (fun c25 => ?_)
      · have hrun : rn (isD t) n (sgn t n sg (sk t n s.1.2.2)) = (sgn t n sg (sk t n s.1.2.2)) + cz := rn_uq (by omega) (fun jz a b => ⟨by omega, isD_i.mpr (h3 jz a b)⟩) (fun z => by have hq := isD_i.mp z.2; omega)
        have hcz : 1 ≤ cz := by omega
        refine z_iload dX8_takeNumber_192 rfl ?_
        refine z_if_eq (tgt := 204) dX8_takeNumber_194 (by decide) (fun c26 => ?_) (fun c26 => ?_)
        · refine z_iload dX8_takeNumber_204 rfl ?_
          refine z_istore (loc2 := [fr 60, fi lo, fi hi, fu, fu, fi bgz, fi blz, fi dgz, fi vz, fu]) dX8_takeNumber_206 (by decide) rfl ?_
          have hnv : cz ≤ 5 → nvl t n (sk t n s.1.2.2) (sgn t n sg (sk t n s.1.2.2)) = vz := by
            intro e
            unfold nvl
            rw [hrun, show (sgn t n sg (sk t n s.1.2.2)) + cz - (sgn t n sg (sk t n s.1.2.2)) = cz by omega, ← h4.2.2 e]
            first
            | (rw [if_pos (by omega)]; omega)
            | (rw [if_neg (by omega)]; omega)
          have hL8 : -1000000 ≤ vz ∧ vz ≤ 1000000 := by omega
          refine z_aload_nr dX8_takeNumber_208 rfl ?_
          refine z_aload_nr dX8_takeNumber_209 rfl ?_
          refine z_geti (kz := 36) fl_X8_202 rfl (by decide) rfl dX8_takeNumber_210 (fun x27 hx27 bx27 => ?_)
          refine z_iload dX8_takeNumber_213 rfl ?_
          first | refine z_isubN dX8_takeNumber_215 (by omega) (fun x28 hx28 => ?_) | refine z_isub dX8_takeNumber_215 (fun x28 hx28 => ?_)
          refine z_bipush dX8_takeNumber_216 ⟨by decide, by decide⟩ (by decide) ?_
          refine z_icmp_ge (tgt := 238) dX8_takeNumber_218 (by decide) (fun c29 => ?_) (fun c29 => ?_)
          · refine z_iconst dX8_takeNumber_238 ⟨by decide, by decide⟩ ?_
            refine z_iconst dX8_takeNumber_239 ⟨by decide, by decide⟩ ?_
            refine z_iload dX8_takeNumber_240 rfl ?_
            refine z_callVi (n2 := 93) (A_X8_want l g M1 0 2 bgz (by omega) (by decide)) cb_X8_want cl_X8_226 (clr0 rfl rfl (by decide) (by decide)) rfl (by decide) ⟨_, rfl, rfl⟩ rfl (by decide) rfl (Nat.le_of_ble_eq_true rfl) rfl dX8_takeNumber_242 (fun x30 Mz30 bx30 kMz30 hc30 => ?_)
            have hwb := hc30
            refine z_istore (loc2 := [fr 60, fi lo, fi hi, fu, fu, fi bgz, fi blz, fi dgz, fi vz, fi x30]) dX8_takeNumber_245 (by decide) rfl ?_
            refine z_iload dX8_takeNumber_247 rfl ?_
            refine z_iret rfl (by decide) rfl (Nat.sub_self _) dX8_takeNumber_249 ?_
            have hoS : offS M Mz30 := by
              rcases hwb with ⟨z1, z2, z3, z4⟩ | ⟨z1, z2, z3⟩
              · rw [z4]; exact offS_st (offS_st h2.1 (by omega)) (by omega)
              · rw [z2]; exact h2.1
            by_cases hgd : cz ≤ 5 ∧ lo ≤ vz ∧ vz ≤ hi
            · have hF : opF t n (sk t n s.1.2.2) (sgn t n sg (sk t n s.1.2.2)) lo hi = ((0, 0, (sgn t n sg (sk t n s.1.2.2)) + cz), vz) := by
                unfold opF
                rw [if_neg (by omega), if_neg, hrun, hnv hgd.1]
                rintro (z | z)
                · omega
                · rw [hnv hgd.1] at z; omega
              have hop : (opN t n sg lo hi s) = ((0, 0, (sgn t n sg (sk t n s.1.2.2)) + cz), s.2.1 + 1, up s.2.2 s.2.1 vz) := by
                unfold opN
                rw [if_pos hf0, hF]
                rfl
              have hM1 : Mz30 = M1 := by
                rcases hwb with ⟨z1, z2, z3, z4⟩ | ⟨z1, z2, z3⟩
                · exfalso; omega
                · exact z2
              refine ⟨hoS, Qs_ok hQ hoS (by rw [hop]) (by rw [hM1]; exact e1) (by rw [hM1]; exact h2.2.2.1) (by rw [hM1]; exact h2.2.2.2), fun _ => ?_⟩
              rw [hop]; exact (up_s _ _ _).symm
            · have hF : opF t n (sk t n s.1.2.2) (sgn t n sg (sk t n s.1.2.2)) lo hi = ((2, (sk t n s.1.2.2), 0), 0) := by
                unfold opF
                rw [if_neg (by omega), if_pos]
                by_cases e : cz ≤ 5
                · right; rw [hnv e]; omega
                · left; omega
              have hop : (opN t n sg lo hi s).1 = (2, (sk t n s.1.2.2), 0) := by
                unfold opN
                rw [if_pos hf0, hF]
                rfl
              have hM1 : Mz30 = st (st M1 60 37 2) 60 38 (sk t n s.1.2.2) := by
                rcases hwb with ⟨z1, z2, z3, z4⟩ | ⟨z1, z2, z3⟩
                · rw [z4, hA.1]
                · exfalso; omega
              refine ⟨hoS, Qs_no hQ hoS hop (by decide) (by rw [hM1, st_at, if_neg (by decide), st_same]) (by rw [hM1, st_same]), fun z => ?_⟩
              rw [hop] at z
              exact absurd z (by decide : ¬ (2 : Int) = 0)
          · refine z_iload dX8_takeNumber_221 rfl ?_
            refine z_i2l dX8_takeNumber_223 ?_
            refine z_iload_n dX8_takeNumber_224 rfl ?_
            refine z_i2l dX8_takeNumber_225 ?_
            refine z_iload_n dX8_takeNumber_226 rfl ?_
            refine z_i2l dX8_takeNumber_227 ?_
            refine z_callSip (n2 := 93) (A_X8_in l g M1 vz lo hi) cb_X8_in cl_X8_130 (clr0 rfl rfl (by decide) (by decide)) rfl (by decide) rfl (Nat.le_of_ble_eq_true rfl) rfl dX8_takeNumber_228 (fun x31 bx31 hx31 => ?_)
            have i31 := if01 hx31
            refine z_if_eq (tgt := 238) dX8_takeNumber_231 (by decide) (fun c32 => ?_) (fun c32 => ?_)
            · refine z_iconst dX8_takeNumber_238 ⟨by decide, by decide⟩ ?_
              refine z_iconst dX8_takeNumber_239 ⟨by decide, by decide⟩ ?_
              refine z_iload dX8_takeNumber_240 rfl ?_
              refine z_callVi (n2 := 93) (A_X8_want l g M1 0 2 bgz (by omega) (by decide)) cb_X8_want cl_X8_226 (clr0 rfl rfl (by decide) (by decide)) rfl (by decide) ⟨_, rfl, rfl⟩ rfl (by decide) rfl (Nat.le_of_ble_eq_true rfl) rfl dX8_takeNumber_242 (fun x33 Mz33 bx33 kMz33 hc33 => ?_)
              have hwb := hc33
              refine z_istore (loc2 := [fr 60, fi lo, fi hi, fu, fu, fi bgz, fi blz, fi dgz, fi vz, fi x33]) dX8_takeNumber_245 (by decide) rfl ?_
              refine z_iload dX8_takeNumber_247 rfl ?_
              refine z_iret rfl (by decide) rfl (Nat.sub_self _) dX8_takeNumber_249 ?_
              have hoS : offS M Mz33 := by
                rcases hwb with ⟨z1, z2, z3, z4⟩ | ⟨z1, z2, z3⟩
                · rw [z4]; exact offS_st (offS_st h2.1 (by omega)) (by omega)
                · rw [z2]; exact h2.1
              by_cases hgd : cz ≤ 5 ∧ lo ≤ vz ∧ vz ≤ hi
              · have hF : opF t n (sk t n s.1.2.2) (sgn t n sg (sk t n s.1.2.2)) lo hi = ((0, 0, (sgn t n sg (sk t n s.1.2.2)) + cz), vz) := by
                  unfold opF
                  rw [if_neg (by omega), if_neg, hrun, hnv hgd.1]
                  rintro (z | z)
                  · omega
                  · rw [hnv hgd.1] at z; omega
                have hop : (opN t n sg lo hi s) = ((0, 0, (sgn t n sg (sk t n s.1.2.2)) + cz), s.2.1 + 1, up s.2.2 s.2.1 vz) := by
                  unfold opN
                  rw [if_pos hf0, hF]
                  rfl
                have hM1 : Mz33 = M1 := by
                  rcases hwb with ⟨z1, z2, z3, z4⟩ | ⟨z1, z2, z3⟩
                  · exfalso; omega
                  · exact z2
                refine ⟨hoS, Qs_ok hQ hoS (by rw [hop]) (by rw [hM1]; exact e1) (by rw [hM1]; exact h2.2.2.1) (by rw [hM1]; exact h2.2.2.2), fun _ => ?_⟩
                rw [hop]; exact (up_s _ _ _).symm
              · have hF : opF t n (sk t n s.1.2.2) (sgn t n sg (sk t n s.1.2.2)) lo hi = ((2, (sk t n s.1.2.2), 0), 0) := by
                  unfold opF
                  rw [if_neg (by omega), if_pos]
                  by_cases e : cz ≤ 5
                  · right; rw [hnv e]; omega
                  · left; omega
                have hop : (opN t n sg lo hi s).1 = (2, (sk t n s.1.2.2), 0) := by
                  unfold opN
                  rw [if_pos hf0, hF]
                  rfl
                have hM1 : Mz33 = st (st M1 60 37 2) 60 38 (sk t n s.1.2.2) := by
                  rcases hwb with ⟨z1, z2, z3, z4⟩ | ⟨z1, z2, z3⟩
                  · rw [z4, hA.1]
                  · exfalso; omega
                refine ⟨hoS, Qs_no hQ hoS hop (by decide) (by rw [hM1, st_at, if_neg (by decide), st_same]) (by rw [hM1, st_same]), fun z => ?_⟩
                rw [hop] at z
                exact absurd z (by decide : ¬ (2 : Int) = 0)
            · refine z_iconst dX8_takeNumber_234 ⟨by decide, by decide⟩ ?_
              refine z_goto (tgt := 239) dX8_takeNumber_235 (by decide) ?_
              refine z_iconst dX8_takeNumber_239 ⟨by decide, by decide⟩ ?_
              refine z_iload dX8_takeNumber_240 rfl ?_
              refine z_callVi (n2 := 93) (A_X8_want l g M1 1 2 bgz (by omega) (by decide)) cb_X8_want cl_X8_226 (clr0 rfl rfl (by decide) (by decide)) rfl (by decide) ⟨_, rfl, rfl⟩ rfl (by decide) rfl (Nat.le_of_ble_eq_true rfl) rfl dX8_takeNumber_242 (fun x34 Mz34 bx34 kMz34 hc34 => ?_)
              have hwb := hc34
              refine z_istore (loc2 := [fr 60, fi lo, fi hi, fu, fu, fi bgz, fi blz, fi dgz, fi vz, fi x34]) dX8_takeNumber_245 (by decide) rfl ?_
              refine z_iload dX8_takeNumber_247 rfl ?_
              refine z_iret rfl (by decide) rfl (Nat.sub_self _) dX8_takeNumber_249 ?_
              have hoS : offS M Mz34 := by
                rcases hwb with ⟨z1, z2, z3, z4⟩ | ⟨z1, z2, z3⟩
                · rw [z4]; exact offS_st (offS_st h2.1 (by omega)) (by omega)
                · rw [z2]; exact h2.1
              by_cases hgd : cz ≤ 5 ∧ lo ≤ vz ∧ vz ≤ hi
              · have hF : opF t n (sk t n s.1.2.2) (sgn t n sg (sk t n s.1.2.2)) lo hi = ((0, 0, (sgn t n sg (sk t n s.1.2.2)) + cz), vz) := by
                  unfold opF
                  rw [if_neg (by omega), if_neg, hrun, hnv hgd.1]
                  rintro (z | z)
                  · omega
                  · rw [hnv hgd.1] at z; omega
                have hop : (opN t n sg lo hi s) = ((0, 0, (sgn t n sg (sk t n s.1.2.2)) + cz), s.2.1 + 1, up s.2.2 s.2.1 vz) := by
                  unfold opN
                  rw [if_pos hf0, hF]
                  rfl
                have hM1 : Mz34 = M1 := by
                  rcases hwb with ⟨z1, z2, z3, z4⟩ | ⟨z1, z2, z3⟩
                  · exfalso; omega
                  · exact z2
                refine ⟨hoS, Qs_ok hQ hoS (by rw [hop]) (by rw [hM1]; exact e1) (by rw [hM1]; exact h2.2.2.1) (by rw [hM1]; exact h2.2.2.2), fun _ => ?_⟩
                rw [hop]; exact (up_s _ _ _).symm
              · have hF : opF t n (sk t n s.1.2.2) (sgn t n sg (sk t n s.1.2.2)) lo hi = ((2, (sk t n s.1.2.2), 0), 0) := by
                  unfold opF
                  rw [if_neg (by omega), if_pos]
                  by_cases e : cz ≤ 5
                  · right; rw [hnv e]; omega
                  · left; omega
                have hop : (opN t n sg lo hi s).1 = (2, (sk t n s.1.2.2), 0) := by
                  unfold opN
                  rw [if_pos hf0, hF]
                  rfl
                have hM1 : Mz34 = st (st M1 60 37 2) 60 38 (sk t n s.1.2.2) := by
                  rcases hwb with ⟨z1, z2, z3, z4⟩ | ⟨z1, z2, z3⟩
                  · rw [z4, hA.1]
                  · exfalso; omega
                refine ⟨hoS, Qs_no hQ hoS hop (by decide) (by rw [hM1, st_at, if_neg (by decide), st_same]) (by rw [hM1, st_same]), fun z => ?_⟩
                rw [hop] at z
                exact absurd z (by decide : ¬ (2 : Int) = 0)
        · refine z_iconst dX8_takeNumber_197 ⟨by decide, by decide⟩ ?_
          refine z_iload dX8_takeNumber_198 rfl ?_
          first | refine z_isubN dX8_takeNumber_200 (by omega) (fun x35 hx35 => ?_) | refine z_isub dX8_takeNumber_200 (fun x35 hx35 => ?_)
          refine z_goto (tgt := 206) dX8_takeNumber_201 (by decide) ?_
          refine z_istore (loc2 := [fr 60, fi lo, fi hi, fu, fu, fi bgz, fi blz, fi dgz, fi x35, fu]) dX8_takeNumber_206 (by decide) rfl ?_
          have hnv : cz ≤ 5 → nvl t n (sk t n s.1.2.2) (sgn t n sg (sk t n s.1.2.2)) = x35 := by
            intro e
            unfold nvl
            rw [hrun, show (sgn t n sg (sk t n s.1.2.2)) + cz - (sgn t n sg (sk t n s.1.2.2)) = cz by omega, ← h4.2.2 e]
            first
            | (rw [if_pos (by omega)]; omega)
            | (rw [if_neg (by omega)]; omega)
          have hL8 : -1000000 ≤ x35 ∧ x35 ≤ 1000000 := by omega
          refine z_aload_nr dX8_takeNumber_208 rfl ?_
          refine z_aload_nr dX8_takeNumber_209 rfl ?_
          refine z_geti (kz := 36) fl_X8_202 rfl (by decide) rfl dX8_takeNumber_210 (fun x36 hx36 bx36 => ?_)
          refine z_iload dX8_takeNumber_213 rfl ?_
          first | refine z_isubN dX8_takeNumber_215 (by omega) (fun x37 hx37 => ?_) | refine z_isub dX8_takeNumber_215 (fun x37 hx37 => ?_)
          refine z_bipush dX8_takeNumber_216 ⟨by decide, by decide⟩ (by decide) ?_
          refine z_icmp_ge (tgt := 238) dX8_takeNumber_218 (by decide) (fun c38 => ?_) (fun c38 => ?_)
          · refine z_iconst dX8_takeNumber_238 ⟨by decide, by decide⟩ ?_
            refine z_iconst dX8_takeNumber_239 ⟨by decide, by decide⟩ ?_
            refine z_iload dX8_takeNumber_240 rfl ?_
            refine z_callVi (n2 := 93) (A_X8_want l g M1 0 2 bgz (by omega) (by decide)) cb_X8_want cl_X8_226 (clr0 rfl rfl (by decide) (by decide)) rfl (by decide) ⟨_, rfl, rfl⟩ rfl (by decide) rfl (Nat.le_of_ble_eq_true rfl) rfl dX8_takeNumber_242 (fun x39 Mz39 bx39 kMz39 hc39 => ?_)
            have hwb := hc39
            refine z_istore (loc2 := [fr 60, fi lo, fi hi, fu, fu, fi bgz, fi blz, fi dgz, fi x35, fi x39]) dX8_takeNumber_245 (by decide) rfl ?_
            refine z_iload dX8_takeNumber_247 rfl ?_
            refine z_iret rfl (by decide) rfl (Nat.sub_self _) dX8_takeNumber_249 ?_
            have hoS : offS M Mz39 := by
              rcases hwb with ⟨z1, z2, z3, z4⟩ | ⟨z1, z2, z3⟩
              · rw [z4]; exact offS_st (offS_st h2.1 (by omega)) (by omega)
              · rw [z2]; exact h2.1
            by_cases hgd : cz ≤ 5 ∧ lo ≤ x35 ∧ x35 ≤ hi
            · have hF : opF t n (sk t n s.1.2.2) (sgn t n sg (sk t n s.1.2.2)) lo hi = ((0, 0, (sgn t n sg (sk t n s.1.2.2)) + cz), x35) := by
                unfold opF
                rw [if_neg (by omega), if_neg, hrun, hnv hgd.1]
                rintro (z | z)
                · omega
                · rw [hnv hgd.1] at z; omega
              have hop : (opN t n sg lo hi s) = ((0, 0, (sgn t n sg (sk t n s.1.2.2)) + cz), s.2.1 + 1, up s.2.2 s.2.1 x35) := by
                unfold opN
                rw [if_pos hf0, hF]
                rfl
              have hM1 : Mz39 = M1 := by
                rcases hwb with ⟨z1, z2, z3, z4⟩ | ⟨z1, z2, z3⟩
                · exfalso; omega
                · exact z2
              refine ⟨hoS, Qs_ok hQ hoS (by rw [hop]) (by rw [hM1]; exact e1) (by rw [hM1]; exact h2.2.2.1) (by rw [hM1]; exact h2.2.2.2), fun _ => ?_⟩
              rw [hop]; exact (up_s _ _ _).symm
            · have hF : opF t n (sk t n s.1.2.2) (sgn t n sg (sk t n s.1.2.2)) lo hi = ((2, (sk t n s.1.2.2), 0), 0) := by
                unfold opF
                rw [if_neg (by omega), if_pos]
                by_cases e : cz ≤ 5
                · right; rw [hnv e]; omega
                · left; omega
              have hop : (opN t n sg lo hi s).1 = (2, (sk t n s.1.2.2), 0) := by
                unfold opN
                rw [if_pos hf0, hF]
                rfl
              have hM1 : Mz39 = st (st M1 60 37 2) 60 38 (sk t n s.1.2.2) := by
                rcases hwb with ⟨z1, z2, z3, z4⟩ | ⟨z1, z2, z3⟩
                · rw [z4, hA.1]
                · exfalso; omega
              refine ⟨hoS, Qs_no hQ hoS hop (by decide) (by rw [hM1, st_at, if_neg (by decide), st_same]) (by rw [hM1, st_same]), fun z => ?_⟩
              rw [hop] at z
              exact absurd z (by decide : ¬ (2 : Int) = 0)
          · refine z_iload dX8_takeNumber_221 rfl ?_
            refine z_i2l dX8_takeNumber_223 ?_
            refine z_iload_n dX8_takeNumber_224 rfl ?_
            refine z_i2l dX8_takeNumber_225 ?_
            refine z_iload_n dX8_takeNumber_226 rfl ?_
            refine z_i2l dX8_takeNumber_227 ?_
            refine z_callSip (n2 := 93) (A_X8_in l g M1 x35 lo hi) cb_X8_in cl_X8_130 (clr0 rfl rfl (by decide) (by decide)) rfl (by decide) rfl (Nat.le_of_ble_eq_true rfl) rfl dX8_takeNumber_228 (fun x40 bx40 hx40 => ?_)
            have i40 := if01 hx40
            refine z_if_eq (tgt := 238) dX8_takeNumber_231 (by decide) (fun c41 => ?_) (fun c41 => ?_)
            · refine z_iconst dX8_takeNumber_238 ⟨by decide, by decide⟩ ?_
              refine z_iconst dX8_takeNumber_239 ⟨by decide, by decide⟩ ?_
              refine z_iload dX8_takeNumber_240 rfl ?_
              refine z_callVi (n2 := 93) (A_X8_want l g M1 0 2 bgz (by omega) (by decide)) cb_X8_want cl_X8_226 (clr0 rfl rfl (by decide) (by decide)) rfl (by decide) ⟨_, rfl, rfl⟩ rfl (by decide) rfl (Nat.le_of_ble_eq_true rfl) rfl dX8_takeNumber_242 (fun x42 Mz42 bx42 kMz42 hc42 => ?_)
              have hwb := hc42
              refine z_istore (loc2 := [fr 60, fi lo, fi hi, fu, fu, fi bgz, fi blz, fi dgz, fi x35, fi x42]) dX8_takeNumber_245 (by decide) rfl ?_
              refine z_iload dX8_takeNumber_247 rfl ?_
              refine z_iret rfl (by decide) rfl (Nat.sub_self _) dX8_takeNumber_249 ?_
              have hoS : offS M Mz42 := by
                rcases hwb with ⟨z1, z2, z3, z4⟩ | ⟨z1, z2, z3⟩
                · rw [z4]; exact offS_st (offS_st h2.1 (by omega)) (by omega)
                · rw [z2]; exact h2.1
              by_cases hgd : cz ≤ 5 ∧ lo ≤ x35 ∧ x35 ≤ hi
              · have hF : opF t n (sk t n s.1.2.2) (sgn t n sg (sk t n s.1.2.2)) lo hi = ((0, 0, (sgn t n sg (sk t n s.1.2.2)) + cz), x35) := by
                  unfold opF
                  rw [if_neg (by omega), if_neg, hrun, hnv hgd.1]
                  rintro (z | z)
                  · omega
                  · rw [hnv hgd.1] at z; omega
                have hop : (opN t n sg lo hi s) = ((0, 0, (sgn t n sg (sk t n s.1.2.2)) + cz), s.2.1 + 1, up s.2.2 s.2.1 x35) := by
                  unfold opN
                  rw [if_pos hf0, hF]
                  rfl
                have hM1 : Mz42 = M1 := by
                  rcases hwb with ⟨z1, z2, z3, z4⟩ | ⟨z1, z2, z3⟩
                  · exfalso; omega
                  · exact z2
                refine ⟨hoS, Qs_ok hQ hoS (by rw [hop]) (by rw [hM1]; exact e1) (by rw [hM1]; exact h2.2.2.1) (by rw [hM1]; exact h2.2.2.2), fun _ => ?_⟩
                rw [hop]; exact (up_s _ _ _).symm
              · have hF : opF t n (sk t n s.1.2.2) (sgn t n sg (sk t n s.1.2.2)) lo hi = ((2, (sk t n s.1.2.2), 0), 0) := by
                  unfold opF
                  rw [if_neg (by omega), if_pos]
                  by_cases e : cz ≤ 5
                  · right; rw [hnv e]; omega
                  · left; omega
                have hop : (opN t n sg lo hi s).1 = (2, (sk t n s.1.2.2), 0) := by
                  unfold opN
                  rw [if_pos hf0, hF]
                  rfl
                have hM1 : Mz42 = st (st M1 60 37 2) 60 38 (sk t n s.1.2.2) := by
                  rcases hwb with ⟨z1, z2, z3, z4⟩ | ⟨z1, z2, z3⟩
                  · rw [z4, hA.1]
                  · exfalso; omega
                refine ⟨hoS, Qs_no hQ hoS hop (by decide) (by rw [hM1, st_at, if_neg (by decide), st_same]) (by rw [hM1, st_same]), fun z => ?_⟩
                rw [hop] at z
                exact absurd z (by decide : ¬ (2 : Int) = 0)
            · refine z_iconst dX8_takeNumber_234 ⟨by decide, by decide⟩ ?_
              refine z_goto (tgt := 239) dX8_takeNumber_235 (by decide) ?_
              refine z_iconst dX8_takeNumber_239 ⟨by decide, by decide⟩ ?_
              refine z_iload dX8_takeNumber_240 rfl ?_
              refine z_callVi (n2 := 93) (A_X8_want l g M1 1 2 bgz (by omega) (by decide)) cb_X8_want cl_X8_226 (clr0 rfl rfl (by decide) (by decide)) rfl (by decide) ⟨_, rfl, rfl⟩ rfl (by decide) rfl (Nat.le_of_ble_eq_true rfl) rfl dX8_takeNumber_242 (fun x43 Mz43 bx43 kMz43 hc43 => ?_)
              have hwb := hc43
              refine z_istore (loc2 := [fr 60, fi lo, fi hi, fu, fu, fi bgz, fi blz, fi dgz, fi x35, fi x43]) dX8_takeNumber_245 (by decide) rfl ?_
              refine z_iload dX8_takeNumber_247 rfl ?_
              refine z_iret rfl (by decide) rfl (Nat.sub_self _) dX8_takeNumber_249 ?_
              have hoS : offS M Mz43 := by
                rcases hwb with ⟨z1, z2, z3, z4⟩ | ⟨z1, z2, z3⟩
                · rw [z4]; exact offS_st (offS_st h2.1 (by omega)) (by omega)
                · rw [z2]; exact h2.1
              by_cases hgd : cz ≤ 5 ∧ lo ≤ x35 ∧ x35 ≤ hi
              · have hF : opF t n (sk t n s.1.2.2) (sgn t n sg (sk t n s.1.2.2)) lo hi = ((0, 0, (sgn t n sg (sk t n s.1.2.2)) + cz), x35) := by
                  unfold opF
                  rw [if_neg (by omega), if_neg, hrun, hnv hgd.1]
                  rintro (z | z)
                  · omega
                  · rw [hnv hgd.1] at z; omega
                have hop : (opN t n sg lo hi s) = ((0, 0, (sgn t n sg (sk t n s.1.2.2)) + cz), s.2.1 + 1, up s.2.2 s.2.1 x35) := by
                  unfold opN
                  rw [if_pos hf0, hF]
                  rfl
                have hM1 : Mz43 = M1 := by
                  rcases hwb with ⟨z1, z2, z3, z4⟩ | ⟨z1, z2, z3⟩
                  · exfalso; omega
                  · exact z2
                refine ⟨hoS, Qs_ok hQ hoS (by rw [hop]) (by rw [hM1]; exact e1) (by rw [hM1]; exact h2.2.2.1) (by rw [hM1]; exact h2.2.2.2), fun _ => ?_⟩
                rw [hop]; exact (up_s _ _ _).symm
              · have hF : opF t n (sk t n s.1.2.2) (sgn t n sg (sk t n s.1.2.2)) lo hi = ((2, (sk t n s.1.2.2), 0), 0) := by
                  unfold opF
                  rw [if_neg (by omega), if_pos]
                  by_cases e : cz ≤ 5
                  · right; rw [hnv e]; omega
                  · left; omega
                have hop : (opN t n sg lo hi s).1 = (2, (sk t n s.1.2.2), 0) := by
                  unfold opN
                  rw [if_pos hf0, hF]
                  rfl
                have hM1 : Mz43 = st (st M1 60 37 2) 60 38 (sk t n s.1.2.2) := by
                  rcases hwb with ⟨z1, z2, z3, z4⟩ | ⟨z1, z2, z3⟩
                  · rw [z4, hA.1]
                  · exfalso; omega
                refine ⟨hoS, Qs_no hQ hoS hop (by decide) (by rw [hM1, st_at, if_neg (by decide), st_same]) (by rw [hM1, st_same]), fun z => ?_⟩
                rw [hop] at z
                exact absurd z (by decide : ¬ (2 : Int) = 0)
      · refine z_iload dX8_takeNumber_147 rfl ?_
        refine z_ldc (c := 99999) cn_X8_230 ⟨by decide, by decide⟩ dX8_takeNumber_149 ?_
        refine z_icmp_le (tgt := 159) dX8_takeNumber_151 (by decide) (fun c44 => ?_) (fun c44 => ?_)
        · refine z_bipush dX8_takeNumber_159 ⟨by decide, by decide⟩ (by decide) ?_
          refine z_iload dX8_takeNumber_161 rfl ?_
          first | refine z_imulN dX8_takeNumber_163 (by omega) (fun x45 hx45 => ?_) | refine z_imul dX8_takeNumber_163 (fun x45 hx45 => ?_)
          refine z_aload_nr dX8_takeNumber_164 rfl ?_
          refine z_getr (b := 85) fl_X8_83 rfl (by decide) rf_60_34 rfl dX8_takeNumber_165 ?_
          refine z_aload_nr dX8_takeNumber_168 rfl ?_
          refine z_geti (kz := 36) fl_X8_202 rfl (by decide) rfl dX8_takeNumber_169 (fun x46 hx46 bx46 => ?_)
          have ep2 : x46 = (sgn t n sg (sk t n s.1.2.2)) + cz := by omega
          refine z_iald rfl (by decide) (by omega) (by omega) dX8_takeNumber_172 (fun x47 hx47 bx47 => ?_)
          have hb172 : x47 = t ((sgn t n sg (sk t n s.1.2.2)) + cz) := by rw [hx47, ep2, e3]
          first | refine z_iaddN dX8_takeNumber_173 (by omega) (fun x48 hx48 => ?_) | refine z_iadd dX8_takeNumber_173 (fun x48 hx48 => ?_)
          refine z_bipush dX8_takeNumber_174 ⟨by decide, by decide⟩ (by decide) ?_
          first | refine z_isubN dX8_takeNumber_176 (by omega) (fun x49 hx49 => ?_) | refine z_isub dX8_takeNumber_176 (fun x49 hx49 => ?_)
          refine z_istore (loc2 := [fr 60, fi lo, fi hi, fu, fu, fi bgz, fi blz, fi dgz, fi x49, fu]) dX8_takeNumber_177 (by decide) rfl ?_
          refine z_aload_nr dX8_takeNumber_179 rfl ?_
          refine z_dup rfl dX8_takeNumber_180 ?_
          refine z_geti (kz := 36) fl_X8_202 rfl (by decide) rfl dX8_takeNumber_181 (fun x50 hx50 bx50 => ?_)
          refine z_iconst dX8_takeNumber_184 ⟨by decide, by decide⟩ ?_
          first | refine z_iaddN dX8_takeNumber_185 (by omega) (fun x51 hx51 => ?_) | refine z_iadd dX8_takeNumber_185 (fun x51 hx51 => ?_)
          refine z_puti (kz := 36) fl_X8_202 rfl (by decide) rfl nr_60_36 dX8_takeNumber_186 (fun Mz52 hMz52 => ?_)
          refine z_goto (tgt := 114) dX8_takeNumber_189 (by decide) ?_
          have g3 : ∀ j, (sgn t n sg (sk t n s.1.2.2)) ≤ j → j < (sgn t n sg (sk t n s.1.2.2)) + (cz + 1) → 48 ≤ t j ∧ t j ≤ 57 := by
            intro jz a b
            by_cases e : jz = (sgn t n sg (sk t n s.1.2.2)) + cz
            · rw [e]; omega
            · exact h3 jz a (by omega)
          have g4 : 0 ≤ x49 ∧ x49 ≤ 1000000 ∧ (cz + 1 ≤ 5 → x49 = dv t (sgn t n sg (sk t n s.1.2.2)) (cz + 1).toNat) := by
            by_cases e : cz + 1 ≤ 5
            · have hq := h4.2.2 (by omega)
              have hd : dv t (sgn t n sg (sk t n s.1.2.2)) (cz + 1).toNat = 10 * dv t (sgn t n sg (sk t n s.1.2.2)) cz.toNat + (t ((sgn t n sg (sk t n s.1.2.2)) + cz) - 48) := by
                rw [show (cz + 1).toNat = cz.toNat + 1 by omega]
                show 10 * dv t (sgn t n sg (sk t n s.1.2.2)) cz.toNat + (t ((sgn t n sg (sk t n s.1.2.2)) + (cz.toNat : Int)) - 48) = _
                rw [Int.toNat_of_nonneg h1.1]
              have h5a := dv_5 (t := t) (p := (sgn t n sg (sk t n s.1.2.2))) (k := cz.toNat) (by omega) (fun j a b => g3 j a (by omega))
              have h5b := dv_5 (t := t) (p := (sgn t n sg (sk t n s.1.2.2))) (k := (cz + 1).toNat) (by omega) (fun j a b => g3 j a (by omega))
              rw [hd] at h5b ⊢
              refine ⟨by omega, by omega, fun _ => by omega⟩
            · exact ⟨by omega, by omega, fun z => absurd z e⟩
          have g2 : offS M Mz52 ∧ Mz52 60 36 = (sgn t n sg (sk t n s.1.2.2)) + (cz + 1) ∧ Mz52 60 37 = 0 ∧ Mz52 60 38 = -1 := by
            rw [hMz52]
            refine ⟨offS_st h2.1 (by omega), by rw [st_same]; omega, ?_, ?_⟩
            · rw [st_at, if_neg (by decide)]; exact h2.2.2.1
            · rw [st_at, if_neg (by decide)]; exact h2.2.2.2
          exact ih114 _ (by omega) bgz blz dgz x49 (cz + 1) Mz52 rfl (hf0) (hA) (by omega) (g2) (g3) (g4)
        · refine z_iload dX8_takeNumber_154 rfl ?_
          refine z_goto (tgt := 177) dX8_takeNumber_156 (by decide) ?_
          refine z_istore (loc2 := [fr 60, fi lo, fi hi, fu, fu, fi bgz, fi blz, fi dgz, fi vz, fu]) dX8_takeNumber_177 (by decide) rfl ?_
          refine z_aload_nr dX8_takeNumber_179 rfl ?_
          refine z_dup rfl dX8_takeNumber_180 ?_
          refine z_geti (kz := 36) fl_X8_202 rfl (by decide) rfl dX8_takeNumber_181 (fun x53 hx53 bx53 => ?_)
          refine z_iconst dX8_takeNumber_184 ⟨by decide, by decide⟩ ?_
          first | refine z_iaddN dX8_takeNumber_185 (by omega) (fun x54 hx54 => ?_) | refine z_iadd dX8_takeNumber_185 (fun x54 hx54 => ?_)
          refine z_puti (kz := 36) fl_X8_202 rfl (by decide) rfl nr_60_36 dX8_takeNumber_186 (fun Mz55 hMz55 => ?_)
          refine z_goto (tgt := 114) dX8_takeNumber_189 (by decide) ?_
          have g3 : ∀ j, (sgn t n sg (sk t n s.1.2.2)) ≤ j → j < (sgn t n sg (sk t n s.1.2.2)) + (cz + 1) → 48 ≤ t j ∧ t j ≤ 57 := by
            intro jz a b
            by_cases e : jz = (sgn t n sg (sk t n s.1.2.2)) + cz
            · rw [e]; omega
            · exact h3 jz a (by omega)
          have g4 : 0 ≤ vz ∧ vz ≤ 1000000 ∧ (cz + 1 ≤ 5 → vz = dv t (sgn t n sg (sk t n s.1.2.2)) (cz + 1).toNat) := by
            by_cases e : cz + 1 ≤ 5
            · have hq := h4.2.2 (by omega)
              have hd : dv t (sgn t n sg (sk t n s.1.2.2)) (cz + 1).toNat = 10 * dv t (sgn t n sg (sk t n s.1.2.2)) cz.toNat + (t ((sgn t n sg (sk t n s.1.2.2)) + cz) - 48) := by
                rw [show (cz + 1).toNat = cz.toNat + 1 by omega]
                show 10 * dv t (sgn t n sg (sk t n s.1.2.2)) cz.toNat + (t ((sgn t n sg (sk t n s.1.2.2)) + (cz.toNat : Int)) - 48) = _
                rw [Int.toNat_of_nonneg h1.1]
              have h5a := dv_5 (t := t) (p := (sgn t n sg (sk t n s.1.2.2))) (k := cz.toNat) (by omega) (fun j a b => g3 j a (by omega))
              have h5b := dv_5 (t := t) (p := (sgn t n sg (sk t n s.1.2.2))) (k := (cz + 1).toNat) (by omega) (fun j a b => g3 j a (by omega))
              rw [hd] at h5b ⊢
              refine ⟨by omega, by omega, fun _ => by omega⟩
            · exact ⟨by omega, by omega, fun z => absurd z e⟩
          have g2 : offS M Mz55 ∧ Mz55 60 36 = (sgn t n sg (sk t n s.1.2.2)) + (cz + 1) ∧ Mz55 60 37 = 0 ∧ Mz55 60 38 = -1 := by
            rw [hMz55]
            refine ⟨offS_st h2.1 (by omega), by rw [st_same]; omega, ?_, ?_⟩
            · rw [st_at, if_neg (by decide)]; exact h2.2.2.1
            · rw [st_at, if_neg (by decide)]; exact h2.2.2.2
          exact ih114 _ (by omega) bgz blz dgz vz (cz + 1) Mz55 rfl (hf0) (hA) (by omega) (g2) (g3) (g4)
  refine z_aload_nr dX8_takeNumber_0 rfl ?_
  refine z_geti (kz := 37) fl_X8_205 rfl (by decide) rfl dX8_takeNumber_1 (fun x56 hx56 bx56 => ?_)
  refine z_if_le (tgt := 9) dX8_takeNumber_4 (by decide) (fun c57 => ?_) (fun c57 => ?_)
  · have hf0 : s.1.1 = 0 := by omega
    have hR1 := hQ.2.2.2.1 hf0
    have hsp := hS hf0
    have hsb := sk_b (t := t) hsp.1 hsp.2
    have hsgb := sgn_b (t := t) (sg := sg) hsb.1 hsb.2
    refine z_aload_nr dX8_takeNumber_9 rfl ?_
    refine z_callVi (n2 := 93) (A_X8_here l g M (by omega) (by omega)) cb_X8_here cl_X8_208 (clr0 rfl rfl (by decide) (by decide)) rfl (by decide) ⟨_, rfl, rfl⟩ rfl (by decide) rfl (Nat.le_of_ble_eq_true rfl) rfl dX8_takeNumber_10 (fun x58 Mz58 bx58 kMz58 hc58 => ?_)
    have hhr := hc58.2
    have hMh := hc58.1
    rw [hq1, hq2, hR1.1] at hhr hMh
    have htx : M 85 (sk t n s.1.2.2) = t (sk t n s.1.2.2) := congrFun hq1 (sk t n s.1.2.2)
    have hat : Mz58 60 36 = (sk t n s.1.2.2) := by rw [hMh]; exact st_same _ _ _ _
    have hHn : Mz58 60 35 = n := by rw [hMh, st_at, if_neg (by decide)]; exact hq2
    have hHt : ∀ i, Mz58 85 i = t i := fun i => by rw [hMh, st_cell (by decide)]; exact congrFun hq1 i
    refine z_istore (loc2 := [fr 60, fi lo, fi hi, fi sg, fi x58, fu, fu, fu, fu, fu]) dX8_takeNumber_13 (by decide) rfl ?_
    refine z_aload_nr dX8_takeNumber_15 rfl ?_
    refine z_geti (kz := 36) fl_X8_202 rfl (by decide) rfl dX8_takeNumber_16 (fun x59 hx59 bx59 => ?_)
    refine z_istore (loc2 := [fr 60, fi lo, fi hi, fi sg, fi x58, fi x59, fu, fu, fu, fu]) dX8_takeNumber_19 (by decide) rfl ?_
    refine z_iload_n dX8_takeNumber_21 rfl ?_
    refine z_if_eq (tgt := 36) dX8_takeNumber_22 (by decide) (fun c60 => ?_) (fun c60 => ?_)
    · refine z_iconst dX8_takeNumber_36 ⟨by decide, by decide⟩ ?_
      refine z_istore (loc2 := [fr 60, fi lo, fi hi, fi sg, fi x58, fi x59, fi 0, fu, fu, fu]) dX8_takeNumber_37 (by decide) rfl ?_
      have hbe : ((0 : Int) = 1 ∧ (sgn t n sg (sk t n s.1.2.2)) = (sk t n s.1.2.2) + 1) ∨ ((0 : Int) = 0 ∧ (sgn t n sg (sk t n s.1.2.2)) = (sk t n s.1.2.2)) := by
        unfold sgn
        first
        | (refine Or.inl ⟨rfl, if_pos ⟨by omega, ?_⟩⟩
           split at hhr
           · rename_i z; exact ⟨z, by show t (sk t n s.1.2.2) = 45; rw [← htx]; omega⟩
           · exfalso; omega)
        | (refine Or.inr ⟨rfl, if_neg (fun z => ?_)⟩
           rw [if_pos z.2.1] at hhr
           have hz : t (sk t n s.1.2.2) = 45 := z.2.2
           rw [← htx] at hz
           omega)
      refine z_aload_nr dX8_takeNumber_39 rfl ?_
      refine z_dup rfl dX8_takeNumber_40 ?_
      refine z_geti (kz := 36) fl_X8_202 rfl (by decide) rfl dX8_takeNumber_41 (fun x61 hx61 bx61 => ?_)
      refine z_iload dX8_takeNumber_44 rfl ?_
      refine z_callSip (n2 := 93) (A_X8_one l g Mz58 0 (by omega)) cb_X8_one cl_X8_184 (clr0 rfl rfl (by decide) (by decide)) rfl (by decide) rfl (Nat.le_of_ble_eq_true rfl) rfl dX8_takeNumber_46 (fun x62 bx62 hx62 => ?_)
      first | refine z_iaddN dX8_takeNumber_49 (by omega) (fun x63 hx63 => ?_) | refine z_iadd dX8_takeNumber_49 (fun x63 hx63 => ?_)
      refine z_puti (kz := 36) fl_X8_202 rfl (by decide) rfl nr_60_36 dX8_takeNumber_50 (fun Mz64 hMz64 => ?_)
      have hB : offS M Mz64 ∧ Mz64 60 36 = (sgn t n sg (sk t n s.1.2.2)) ∧ Mz64 60 37 = 0 ∧ Mz64 60 38 = -1 := by
        refine ⟨by rw [hMz64, hMh]; exact offS_st (offS_st (offS_rfl M) (by omega)) (by omega), ?_, ?_, ?_⟩
        · rw [hMz64, st_same]; omega
        · rw [hMz64, st_at, if_neg (by decide), hMh, st_at, if_neg (by decide)]; exact hR1.2.1
        · rw [hMz64, st_at, if_neg (by decide), hMh, st_at, if_neg (by decide)]; exact hR1.2.2
      have hBx := offS_tx hB.1
      have hBn : Mz64 60 35 = n := hBx.2.trans hq2
      have hBt : ∀ i, Mz64 85 i = t i := fun i => congrFun (hBx.1.trans hq1) i
      obtain ⟨Mb, hMb⟩ : ∃ z, z = Mz64 := ⟨_, rfl⟩
      refine z_aload_nr dX8_takeNumber_53 rfl ?_
      refine z_aload_nr dX8_takeNumber_54 rfl ?_
      refine z_geti (kz := 36) fl_X8_202 rfl (by decide) rfl dX8_takeNumber_55 (fun x65 hx65 bx65 => ?_)
      rw [hMz64, st_same] at hx65
      refine z_aload_nr dX8_takeNumber_58 rfl ?_
      refine z_geti (kz := 35) fl_X8_197 rfl (by decide) rfl dX8_takeNumber_59 (fun x66 hx66 bx66 => ?_)
      rw [hMz64, st_at, if_neg (by decide)] at hx66
      refine z_icmp_ge (tgt := 91) dX8_takeNumber_62 (by decide) (fun c67 => ?_) (fun c67 => ?_)
      · refine z_iconst dX8_takeNumber_91 ⟨by decide, by decide⟩ ?_
        refine z_iconst dX8_takeNumber_92 ⟨by decide, by decide⟩ ?_
        refine z_aload_nr dX8_takeNumber_93 rfl ?_
        refine z_geti (kz := 36) fl_X8_202 rfl (by decide) rfl dX8_takeNumber_94 (fun x68 hx68 bx68 => ?_)
        rw [hMz64, st_same] at hx68
        have e97 : x68 = (sgn t n sg (sk t n s.1.2.2)) := by omega
        refine z_callVi (n2 := 93) (A_X8_want l g Mz64 0 1 x68 (by omega) (by decide)) cb_X8_want cl_X8_226 (clr0 rfl rfl (by decide) (by decide)) rfl (by decide) ⟨_, rfl, rfl⟩ rfl (by decide) rfl (Nat.le_of_ble_eq_true rfl) rfl dX8_takeNumber_97 (fun x69 Mz69 bx69 kMz69 hc69 => ?_)
        have hwa := hc69
        refine z_if_ne (tgt := 105) dX8_takeNumber_100 (by decide) (fun c70 => ?_) (fun c70 => ?_)
        · have hdg : (sgn t n sg (sk t n s.1.2.2)) < n ∧ 48 ≤ t (sgn t n sg (sk t n s.1.2.2)) ∧ t (sgn t n sg (sk t n s.1.2.2)) ≤ 57 ∧ Mz69 = Mb := by
            rw [hMb]
            rcases hwa with ⟨z1, z2, z3, z4⟩ | ⟨z1, z2, z3⟩
            · exfalso; omega
            · exact ⟨by omega, by omega, by omega, z2⟩
          refine z_aload_nr dX8_takeNumber_105 rfl ?_
          refine z_geti (kz := 36) fl_X8_202 rfl (by decide) rfl dX8_takeNumber_106 (fun x71 hx71 bx71 => ?_)
          have hd105 : x71 = (sgn t n sg (sk t n s.1.2.2)) := by
            have hq := hx71
            rw [hdg.2.2.2, hMb] at hq
            omega
          refine z_istore (loc2 := [fr 60, fi lo, fi hi, fi sg, fi x58, fi x59, fi 0, fi x71, fu, fu]) dX8_takeNumber_109 (by decide) rfl ?_
          refine z_iconst dX8_takeNumber_111 ⟨by decide, by decide⟩ ?_
          refine z_istore (loc2 := [fr 60, fi lo, fi hi, fi sg, fi x58, fi x59, fi 0, fi x71, fi 0, fu]) dX8_takeNumber_112 (by decide) rfl ?_
          refine z_few [fr 60, fi lo, fi hi, fu, fu, fi x59, fi 0, fi x71, fi 0, fu] (by simp [fle, kn]) ?_
          exact lp114 _ x59 0 x71 0 0 Mz69 rfl (hf0) (by refine ⟨by omega, ?_, hbe, hsb.1, ⟨hdg.1, hdg.2.1, hdg.2.2.1⟩⟩; have hq := hd105; omega) (by omega) (by rw [hdg.2.2.2, hMb, Int.add_zero]; exact hB) (fun j a b => by omega) (⟨by omega, by omega, fun _ => rfl⟩)
        · refine z_iconst dX8_takeNumber_103 ⟨by decide, by decide⟩ ?_
          refine z_iret rfl (by decide) rfl (Nat.sub_self _) dX8_takeNumber_104 ?_
          have hnd : ¬ ((sgn t n sg (sk t n s.1.2.2)) < n ∧ 48 ≤ t (sgn t n sg (sk t n s.1.2.2)) ∧ t (sgn t n sg (sk t n s.1.2.2)) ≤ 57) := by
            rcases hwa with ⟨z1, z2, z3, z4⟩ | ⟨z1, z2, z3⟩
            · omega
            · exfalso; omega
          have hw2 : Mz69 = st (st Mb 60 37 1) 60 38 (sgn t n sg (sk t n s.1.2.2)) := by
            rw [hMb]
            rcases hwa with ⟨z1, z2, z3, z4⟩ | ⟨z1, z2, z3⟩
            · rw [z4, e97]
            · exfalso; omega
          have hop : (opN t n sg lo hi s).1 = (1, (sgn t n sg (sk t n s.1.2.2)), 0) := by
            unfold opN
            rw [if_pos hf0]
            unfold opK opF
            rw [if_pos (rn_no (fun z => hnd ⟨z.1, isD_i.mp z.2⟩))]
          have hoS : offS M Mz69 := by rw [hw2, hMb]; exact offS_st (offS_st hB.1 (by omega)) (by omega)
          refine ⟨hoS, Qs_no hQ hoS hop (by decide) (by rw [hw2, st_at, if_neg (by decide), st_same]) (by rw [hw2, st_same]), fun z => ?_⟩
          rw [hop] at z
          exact absurd z (by decide : ¬ (1 : Int) = 0)
      · refine z_aload_nr dX8_takeNumber_65 rfl ?_
        refine z_getr (b := 85) fl_X8_83 rfl (by decide) rf_60_34 rfl dX8_takeNumber_66 ?_
        refine z_aload_nr dX8_takeNumber_69 rfl ?_
        refine z_geti (kz := 36) fl_X8_202 rfl (by decide) rfl dX8_takeNumber_70 (fun x72 hx72 bx72 => ?_)
        rw [hMz64, st_same] at hx72
        have e73 : x72 = (sgn t n sg (sk t n s.1.2.2)) := by omega
        refine z_iald rfl (by decide) (by omega) (by omega) dX8_takeNumber_73 (fun x73 hx73 bx73 => ?_)
        rw [hMz64, st_cell (by decide)] at hx73
        have v73 : x73 = t (sgn t n sg (sk t n s.1.2.2)) := by rw [hx73, e73]; exact hHt _
        refine z_i2l dX8_takeNumber_74 ?_
        refine z_ldc2 (c := 48) cn_X8_222 ⟨by decide, by decide⟩ dX8_takeNumber_75 ?_
        refine z_ldc2 (c := 57) cn_X8_224 ⟨by decide, by decide⟩ dX8_takeNumber_78 ?_
        refine z_callSip (n2 := 93) (A_X8_in l g Mz64 x73 48 57) cb_X8_in cl_X8_130 (clr0 rfl rfl (by decide) (by decide)) rfl (by decide) rfl (Nat.le_of_ble_eq_true rfl) rfl dX8_takeNumber_81 (fun x74 bx74 hx74 => ?_)
        have i74 := if01 hx74
        refine z_if_eq (tgt := 91) dX8_takeNumber_84 (by decide) (fun c75 => ?_) (fun c75 => ?_)
        · refine z_iconst dX8_takeNumber_91 ⟨by decide, by decide⟩ ?_
          refine z_iconst dX8_takeNumber_92 ⟨by decide, by decide⟩ ?_
          refine z_aload_nr dX8_takeNumber_93 rfl ?_
          refine z_geti (kz := 36) fl_X8_202 rfl (by decide) rfl dX8_takeNumber_94 (fun x76 hx76 bx76 => ?_)
          rw [hMz64, st_same] at hx76
          have e97 : x76 = (sgn t n sg (sk t n s.1.2.2)) := by omega
          refine z_callVi (n2 := 93) (A_X8_want l g Mz64 0 1 x76 (by omega) (by decide)) cb_X8_want cl_X8_226 (clr0 rfl rfl (by decide) (by decide)) rfl (by decide) ⟨_, rfl, rfl⟩ rfl (by decide) rfl (Nat.le_of_ble_eq_true rfl) rfl dX8_takeNumber_97 (fun x77 Mz77 bx77 kMz77 hc77 => ?_)
          have hwa := hc77
          refine z_if_ne (tgt := 105) dX8_takeNumber_100 (by decide) (fun c78 => ?_) (fun c78 => ?_)
          · have hdg : (sgn t n sg (sk t n s.1.2.2)) < n ∧ 48 ≤ t (sgn t n sg (sk t n s.1.2.2)) ∧ t (sgn t n sg (sk t n s.1.2.2)) ≤ 57 ∧ Mz77 = Mb := by
              rw [hMb]
              rcases hwa with ⟨z1, z2, z3, z4⟩ | ⟨z1, z2, z3⟩
              · exfalso; omega
              · exact ⟨by omega, by omega, by omega, z2⟩
            refine z_aload_nr dX8_takeNumber_105 rfl ?_
            refine z_geti (kz := 36) fl_X8_202 rfl (by decide) rfl dX8_takeNumber_106 (fun x79 hx79 bx79 => ?_)
            have hd105 : x79 = (sgn t n sg (sk t n s.1.2.2)) := by
              have hq := hx79
              rw [hdg.2.2.2, hMb] at hq
              omega
            refine z_istore (loc2 := [fr 60, fi lo, fi hi, fi sg, fi x58, fi x59, fi 0, fi x79, fu, fu]) dX8_takeNumber_109 (by decide) rfl ?_
            refine z_iconst dX8_takeNumber_111 ⟨by decide, by decide⟩ ?_
            refine z_istore (loc2 := [fr 60, fi lo, fi hi, fi sg, fi x58, fi x59, fi 0, fi x79, fi 0, fu]) dX8_takeNumber_112 (by decide) rfl ?_
            refine z_few [fr 60, fi lo, fi hi, fu, fu, fi x59, fi 0, fi x79, fi 0, fu] (by simp [fle, kn]) ?_
            exact lp114 _ x59 0 x79 0 0 Mz77 rfl (hf0) (by refine ⟨by omega, ?_, hbe, hsb.1, ⟨hdg.1, hdg.2.1, hdg.2.2.1⟩⟩; have hq := hd105; omega) (by omega) (by rw [hdg.2.2.2, hMb, Int.add_zero]; exact hB) (fun j a b => by omega) (⟨by omega, by omega, fun _ => rfl⟩)
          · refine z_iconst dX8_takeNumber_103 ⟨by decide, by decide⟩ ?_
            refine z_iret rfl (by decide) rfl (Nat.sub_self _) dX8_takeNumber_104 ?_
            have hnd : ¬ ((sgn t n sg (sk t n s.1.2.2)) < n ∧ 48 ≤ t (sgn t n sg (sk t n s.1.2.2)) ∧ t (sgn t n sg (sk t n s.1.2.2)) ≤ 57) := by
              rcases hwa with ⟨z1, z2, z3, z4⟩ | ⟨z1, z2, z3⟩
              · omega
              · exfalso; omega
            have hw2 : Mz77 = st (st Mb 60 37 1) 60 38 (sgn t n sg (sk t n s.1.2.2)) := by
              rw [hMb]
              rcases hwa with ⟨z1, z2, z3, z4⟩ | ⟨z1, z2, z3⟩
              · rw [z4, e97]
              · exfalso; omega
            have hop : (opN t n sg lo hi s).1 = (1, (sgn t n sg (sk t n s.1.2.2)), 0) := by
              unfold opN
              rw [if_pos hf0]
              unfold opK opF
              rw [if_pos (rn_no (fun z => hnd ⟨z.1, isD_i.mp z.2⟩))]
            have hoS : offS M Mz77 := by rw [hw2, hMb]; exact offS_st (offS_st hB.1 (by omega)) (by omega)
            refine ⟨hoS, Qs_no hQ hoS hop (by decide) (by rw [hw2, st_at, if_neg (by decide), st_same]) (by rw [hw2, st_same]), fun z => ?_⟩
            rw [hop] at z
            exact absurd z (by decide : ¬ (1 : Int) = 0)
        · refine z_iconst dX8_takeNumber_87 ⟨by decide, by decide⟩ ?_
          refine z_goto (tgt := 92) dX8_takeNumber_88 (by decide) ?_
          refine z_iconst dX8_takeNumber_92 ⟨by decide, by decide⟩ ?_
          refine z_aload_nr dX8_takeNumber_93 rfl ?_
          refine z_geti (kz := 36) fl_X8_202 rfl (by decide) rfl dX8_takeNumber_94 (fun x80 hx80 bx80 => ?_)
          rw [hMz64, st_same] at hx80
          have e97 : x80 = (sgn t n sg (sk t n s.1.2.2)) := by omega
          refine z_callVi (n2 := 93) (A_X8_want l g Mz64 1 1 x80 (by omega) (by decide)) cb_X8_want cl_X8_226 (clr0 rfl rfl (by decide) (by decide)) rfl (by decide) ⟨_, rfl, rfl⟩ rfl (by decide) rfl (Nat.le_of_ble_eq_true rfl) rfl dX8_takeNumber_97 (fun x81 Mz81 bx81 kMz81 hc81 => ?_)
          have hwa := hc81
          refine z_if_ne (tgt := 105) dX8_takeNumber_100 (by decide) (fun c82 => ?_) (fun c82 => ?_)
          · have hdg : (sgn t n sg (sk t n s.1.2.2)) < n ∧ 48 ≤ t (sgn t n sg (sk t n s.1.2.2)) ∧ t (sgn t n sg (sk t n s.1.2.2)) ≤ 57 ∧ Mz81 = Mb := by
              rw [hMb]
              rcases hwa with ⟨z1, z2, z3, z4⟩ | ⟨z1, z2, z3⟩
              · exfalso; omega
              · exact ⟨by omega, by omega, by omega, z2⟩
            refine z_aload_nr dX8_takeNumber_105 rfl ?_
            refine z_geti (kz := 36) fl_X8_202 rfl (by decide) rfl dX8_takeNumber_106 (fun x83 hx83 bx83 => ?_)
            have hd105 : x83 = (sgn t n sg (sk t n s.1.2.2)) := by
              have hq := hx83
              rw [hdg.2.2.2, hMb] at hq
              omega
            refine z_istore (loc2 := [fr 60, fi lo, fi hi, fi sg, fi x58, fi x59, fi 0, fi x83, fu, fu]) dX8_takeNumber_109 (by decide) rfl ?_
            refine z_iconst dX8_takeNumber_111 ⟨by decide, by decide⟩ ?_
            refine z_istore (loc2 := [fr 60, fi lo, fi hi, fi sg, fi x58, fi x59, fi 0, fi x83, fi 0, fu]) dX8_takeNumber_112 (by decide) rfl ?_
            refine z_few [fr 60, fi lo, fi hi, fu, fu, fi x59, fi 0, fi x83, fi 0, fu] (by simp [fle, kn]) ?_
            exact lp114 _ x59 0 x83 0 0 Mz81 rfl (hf0) (by refine ⟨by omega, ?_, hbe, hsb.1, ⟨hdg.1, hdg.2.1, hdg.2.2.1⟩⟩; have hq := hd105; omega) (by omega) (by rw [hdg.2.2.2, hMb, Int.add_zero]; exact hB) (fun j a b => by omega) (⟨by omega, by omega, fun _ => rfl⟩)
          · refine z_iconst dX8_takeNumber_103 ⟨by decide, by decide⟩ ?_
            refine z_iret rfl (by decide) rfl (Nat.sub_self _) dX8_takeNumber_104 ?_
            have hnd : ¬ ((sgn t n sg (sk t n s.1.2.2)) < n ∧ 48 ≤ t (sgn t n sg (sk t n s.1.2.2)) ∧ t (sgn t n sg (sk t n s.1.2.2)) ≤ 57) := by
              rcases hwa with ⟨z1, z2, z3, z4⟩ | ⟨z1, z2, z3⟩
              · omega
              · exfalso; omega
            have hw2 : Mz81 = st (st Mb 60 37 1) 60 38 (sgn t n sg (sk t n s.1.2.2)) := by
              rw [hMb]
              rcases hwa with ⟨z1, z2, z3, z4⟩ | ⟨z1, z2, z3⟩
              · rw [z4, e97]
              · exfalso; omega
            have hop : (opN t n sg lo hi s).1 = (1, (sgn t n sg (sk t n s.1.2.2)), 0) := by
              unfold opN
              rw [if_pos hf0]
              unfold opK opF
              rw [if_pos (rn_no (fun z => hnd ⟨z.1, isD_i.mp z.2⟩))]
            have hoS : offS M Mz81 := by rw [hw2, hMb]; exact offS_st (offS_st hB.1 (by omega)) (by omega)
            refine ⟨hoS, Qs_no hQ hoS hop (by decide) (by rw [hw2, st_at, if_neg (by decide), st_same]) (by rw [hw2, st_same]), fun z => ?_⟩
            rw [hop] at z
            exact absurd z (by decide : ¬ (1 : Int) = 0)
    · refine z_iload dX8_takeNumber_25 rfl ?_
      refine z_bipush dX8_takeNumber_27 ⟨by decide, by decide⟩ (by decide) ?_
      refine z_icmp_ne (tgt := 36) dX8_takeNumber_29 (by decide) (fun c84 => ?_) (fun c84 => ?_)
      · refine z_iconst dX8_takeNumber_36 ⟨by decide, by decide⟩ ?_
        refine z_istore (loc2 := [fr 60, fi lo, fi hi, fi sg, fi x58, fi x59, fi 0, fu, fu, fu]) dX8_takeNumber_37 (by decide) rfl ?_
        have hbe : ((0 : Int) = 1 ∧ (sgn t n sg (sk t n s.1.2.2)) = (sk t n s.1.2.2) + 1) ∨ ((0 : Int) = 0 ∧ (sgn t n sg (sk t n s.1.2.2)) = (sk t n s.1.2.2)) := by
          unfold sgn
          first
          | (refine Or.inl ⟨rfl, if_pos ⟨by omega, ?_⟩⟩
             split at hhr
             · rename_i z; exact ⟨z, by show t (sk t n s.1.2.2) = 45; rw [← htx]; omega⟩
             · exfalso; omega)
          | (refine Or.inr ⟨rfl, if_neg (fun z => ?_)⟩
             rw [if_pos z.2.1] at hhr
             have hz : t (sk t n s.1.2.2) = 45 := z.2.2
             rw [← htx] at hz
             omega)
        refine z_aload_nr dX8_takeNumber_39 rfl ?_
        refine z_dup rfl dX8_takeNumber_40 ?_
        refine z_geti (kz := 36) fl_X8_202 rfl (by decide) rfl dX8_takeNumber_41 (fun x85 hx85 bx85 => ?_)
        refine z_iload dX8_takeNumber_44 rfl ?_
        refine z_callSip (n2 := 93) (A_X8_one l g Mz58 0 (by omega)) cb_X8_one cl_X8_184 (clr0 rfl rfl (by decide) (by decide)) rfl (by decide) rfl (Nat.le_of_ble_eq_true rfl) rfl dX8_takeNumber_46 (fun x86 bx86 hx86 => ?_)
        first | refine z_iaddN dX8_takeNumber_49 (by omega) (fun x87 hx87 => ?_) | refine z_iadd dX8_takeNumber_49 (fun x87 hx87 => ?_)
        refine z_puti (kz := 36) fl_X8_202 rfl (by decide) rfl nr_60_36 dX8_takeNumber_50 (fun Mz88 hMz88 => ?_)
        have hB : offS M Mz88 ∧ Mz88 60 36 = (sgn t n sg (sk t n s.1.2.2)) ∧ Mz88 60 37 = 0 ∧ Mz88 60 38 = -1 := by
          refine ⟨by rw [hMz88, hMh]; exact offS_st (offS_st (offS_rfl M) (by omega)) (by omega), ?_, ?_, ?_⟩
          · rw [hMz88, st_same]; omega
          · rw [hMz88, st_at, if_neg (by decide), hMh, st_at, if_neg (by decide)]; exact hR1.2.1
          · rw [hMz88, st_at, if_neg (by decide), hMh, st_at, if_neg (by decide)]; exact hR1.2.2
        have hBx := offS_tx hB.1
        have hBn : Mz88 60 35 = n := hBx.2.trans hq2
        have hBt : ∀ i, Mz88 85 i = t i := fun i => congrFun (hBx.1.trans hq1) i
        obtain ⟨Mb, hMb⟩ : ∃ z, z = Mz88 := ⟨_, rfl⟩
        refine z_aload_nr dX8_takeNumber_53 rfl ?_
        refine z_aload_nr dX8_takeNumber_54 rfl ?_
        refine z_geti (kz := 36) fl_X8_202 rfl (by decide) rfl dX8_takeNumber_55 (fun x89 hx89 bx89 => ?_)
        rw [hMz88, st_same] at hx89
        refine z_aload_nr dX8_takeNumber_58 rfl ?_
        refine z_geti (kz := 35) fl_X8_197 rfl (by decide) rfl dX8_takeNumber_59 (fun x90 hx90 bx90 => ?_)
        rw [hMz88, st_at, if_neg (by decide)] at hx90
        refine z_icmp_ge (tgt := 91) dX8_takeNumber_62 (by decide) (fun c91 => ?_) (fun c91 => ?_)
        · refine z_iconst dX8_takeNumber_91 ⟨by decide, by decide⟩ ?_
          refine z_iconst dX8_takeNumber_92 ⟨by decide, by decide⟩ ?_
          refine z_aload_nr dX8_takeNumber_93 rfl ?_
          refine z_geti (kz := 36) fl_X8_202 rfl (by decide) rfl dX8_takeNumber_94 (fun x92 hx92 bx92 => ?_)
          rw [hMz88, st_same] at hx92
          have e97 : x92 = (sgn t n sg (sk t n s.1.2.2)) := by omega
          refine z_callVi (n2 := 93) (A_X8_want l g Mz88 0 1 x92 (by omega) (by decide)) cb_X8_want cl_X8_226 (clr0 rfl rfl (by decide) (by decide)) rfl (by decide) ⟨_, rfl, rfl⟩ rfl (by decide) rfl (Nat.le_of_ble_eq_true rfl) rfl dX8_takeNumber_97 (fun x93 Mz93 bx93 kMz93 hc93 => ?_)
          have hwa := hc93
          refine z_if_ne (tgt := 105) dX8_takeNumber_100 (by decide) (fun c94 => ?_) (fun c94 => ?_)
          · have hdg : (sgn t n sg (sk t n s.1.2.2)) < n ∧ 48 ≤ t (sgn t n sg (sk t n s.1.2.2)) ∧ t (sgn t n sg (sk t n s.1.2.2)) ≤ 57 ∧ Mz93 = Mb := by
              rw [hMb]
              rcases hwa with ⟨z1, z2, z3, z4⟩ | ⟨z1, z2, z3⟩
              · exfalso; omega
              · exact ⟨by omega, by omega, by omega, z2⟩
            refine z_aload_nr dX8_takeNumber_105 rfl ?_
            refine z_geti (kz := 36) fl_X8_202 rfl (by decide) rfl dX8_takeNumber_106 (fun x95 hx95 bx95 => ?_)
            have hd105 : x95 = (sgn t n sg (sk t n s.1.2.2)) := by
              have hq := hx95
              rw [hdg.2.2.2, hMb] at hq
              omega
            refine z_istore (loc2 := [fr 60, fi lo, fi hi, fi sg, fi x58, fi x59, fi 0, fi x95, fu, fu]) dX8_takeNumber_109 (by decide) rfl ?_
            refine z_iconst dX8_takeNumber_111 ⟨by decide, by decide⟩ ?_
            refine z_istore (loc2 := [fr 60, fi lo, fi hi, fi sg, fi x58, fi x59, fi 0, fi x95, fi 0, fu]) dX8_takeNumber_112 (by decide) rfl ?_
            refine z_few [fr 60, fi lo, fi hi, fu, fu, fi x59, fi 0, fi x95, fi 0, fu] (by simp [fle, kn]) ?_
            exact lp114 _ x59 0 x95 0 0 Mz93 rfl (hf0) (by refine ⟨by omega, ?_, hbe, hsb.1, ⟨hdg.1, hdg.2.1, hdg.2.2.1⟩⟩; have hq := hd105; omega) (by omega) (by rw [hdg.2.2.2, hMb, Int.add_zero]; exact hB) (fun j a b => by omega) (⟨by omega, by omega, fun _ => rfl⟩)
          · refine z_iconst dX8_takeNumber_103 ⟨by decide, by decide⟩ ?_
            refine z_iret rfl (by decide) rfl (Nat.sub_self _) dX8_takeNumber_104 ?_
            have hnd : ¬ ((sgn t n sg (sk t n s.1.2.2)) < n ∧ 48 ≤ t (sgn t n sg (sk t n s.1.2.2)) ∧ t (sgn t n sg (sk t n s.1.2.2)) ≤ 57) := by
              rcases hwa with ⟨z1, z2, z3, z4⟩ | ⟨z1, z2, z3⟩
              · omega
              · exfalso; omega
            have hw2 : Mz93 = st (st Mb 60 37 1) 60 38 (sgn t n sg (sk t n s.1.2.2)) := by
              rw [hMb]
              rcases hwa with ⟨z1, z2, z3, z4⟩ | ⟨z1, z2, z3⟩
              · rw [z4, e97]
              · exfalso; omega
            have hop : (opN t n sg lo hi s).1 = (1, (sgn t n sg (sk t n s.1.2.2)), 0) := by
              unfold opN
              rw [if_pos hf0]
              unfold opK opF
              rw [if_pos (rn_no (fun z => hnd ⟨z.1, isD_i.mp z.2⟩))]
            have hoS : offS M Mz93 := by rw [hw2, hMb]; exact offS_st (offS_st hB.1 (by omega)) (by omega)
            refine ⟨hoS, Qs_no hQ hoS hop (by decide) (by rw [hw2, st_at, if_neg (by decide), st_same]) (by rw [hw2, st_same]), fun z => ?_⟩
            rw [hop] at z
            exact absurd z (by decide : ¬ (1 : Int) = 0)
        · refine z_aload_nr dX8_takeNumber_65 rfl ?_
          refine z_getr (b := 85) fl_X8_83 rfl (by decide) rf_60_34 rfl dX8_takeNumber_66 ?_
          refine z_aload_nr dX8_takeNumber_69 rfl ?_
          refine z_geti (kz := 36) fl_X8_202 rfl (by decide) rfl dX8_takeNumber_70 (fun x96 hx96 bx96 => ?_)
          rw [hMz88, st_same] at hx96
          have e73 : x96 = (sgn t n sg (sk t n s.1.2.2)) := by omega
          refine z_iald rfl (by decide) (by omega) (by omega) dX8_takeNumber_73 (fun x97 hx97 bx97 => ?_)
          rw [hMz88, st_cell (by decide)] at hx97
          have v73 : x97 = t (sgn t n sg (sk t n s.1.2.2)) := by rw [hx97, e73]; exact hHt _
          refine z_i2l dX8_takeNumber_74 ?_
          refine z_ldc2 (c := 48) cn_X8_222 ⟨by decide, by decide⟩ dX8_takeNumber_75 ?_
          refine z_ldc2 (c := 57) cn_X8_224 ⟨by decide, by decide⟩ dX8_takeNumber_78 ?_
          refine z_callSip (n2 := 93) (A_X8_in l g Mz88 x97 48 57) cb_X8_in cl_X8_130 (clr0 rfl rfl (by decide) (by decide)) rfl (by decide) rfl (Nat.le_of_ble_eq_true rfl) rfl dX8_takeNumber_81 (fun x98 bx98 hx98 => ?_)
          have i98 := if01 hx98
          refine z_if_eq (tgt := 91) dX8_takeNumber_84 (by decide) (fun c99 => ?_) (fun c99 => ?_)
          · refine z_iconst dX8_takeNumber_91 ⟨by decide, by decide⟩ ?_
            refine z_iconst dX8_takeNumber_92 ⟨by decide, by decide⟩ ?_
            refine z_aload_nr dX8_takeNumber_93 rfl ?_
            refine z_geti (kz := 36) fl_X8_202 rfl (by decide) rfl dX8_takeNumber_94 (fun x100 hx100 bx100 => ?_)
            rw [hMz88, st_same] at hx100
            have e97 : x100 = (sgn t n sg (sk t n s.1.2.2)) := by omega
            refine z_callVi (n2 := 93) (A_X8_want l g Mz88 0 1 x100 (by omega) (by decide)) cb_X8_want cl_X8_226 (clr0 rfl rfl (by decide) (by decide)) rfl (by decide) ⟨_, rfl, rfl⟩ rfl (by decide) rfl (Nat.le_of_ble_eq_true rfl) rfl dX8_takeNumber_97 (fun x101 Mz101 bx101 kMz101 hc101 => ?_)
            have hwa := hc101
            refine z_if_ne (tgt := 105) dX8_takeNumber_100 (by decide) (fun c102 => ?_) (fun c102 => ?_)
            · have hdg : (sgn t n sg (sk t n s.1.2.2)) < n ∧ 48 ≤ t (sgn t n sg (sk t n s.1.2.2)) ∧ t (sgn t n sg (sk t n s.1.2.2)) ≤ 57 ∧ Mz101 = Mb := by
                rw [hMb]
                rcases hwa with ⟨z1, z2, z3, z4⟩ | ⟨z1, z2, z3⟩
                · exfalso; omega
                · exact ⟨by omega, by omega, by omega, z2⟩
              refine z_aload_nr dX8_takeNumber_105 rfl ?_
              refine z_geti (kz := 36) fl_X8_202 rfl (by decide) rfl dX8_takeNumber_106 (fun x103 hx103 bx103 => ?_)
              have hd105 : x103 = (sgn t n sg (sk t n s.1.2.2)) := by
                have hq := hx103
                rw [hdg.2.2.2, hMb] at hq
                omega
              refine z_istore (loc2 := [fr 60, fi lo, fi hi, fi sg, fi x58, fi x59, fi 0, fi x103, fu, fu]) dX8_takeNumber_109 (by decide) rfl ?_
              refine z_iconst dX8_takeNumber_111 ⟨by decide, by decide⟩ ?_
              refine z_istore (loc2 := [fr 60, fi lo, fi hi, fi sg, fi x58, fi x59, fi 0, fi x103, fi 0, fu]) dX8_takeNumber_112 (by decide) rfl ?_
              refine z_few [fr 60, fi lo, fi hi, fu, fu, fi x59, fi 0, fi x103, fi 0, fu] (by simp [fle, kn]) ?_
              exact lp114 _ x59 0 x103 0 0 Mz101 rfl (hf0) (by refine ⟨by omega, ?_, hbe, hsb.1, ⟨hdg.1, hdg.2.1, hdg.2.2.1⟩⟩; have hq := hd105; omega) (by omega) (by rw [hdg.2.2.2, hMb, Int.add_zero]; exact hB) (fun j a b => by omega) (⟨by omega, by omega, fun _ => rfl⟩)
            · refine z_iconst dX8_takeNumber_103 ⟨by decide, by decide⟩ ?_
              refine z_iret rfl (by decide) rfl (Nat.sub_self _) dX8_takeNumber_104 ?_
              have hnd : ¬ ((sgn t n sg (sk t n s.1.2.2)) < n ∧ 48 ≤ t (sgn t n sg (sk t n s.1.2.2)) ∧ t (sgn t n sg (sk t n s.1.2.2)) ≤ 57) := by
                rcases hwa with ⟨z1, z2, z3, z4⟩ | ⟨z1, z2, z3⟩
                · omega
                · exfalso; omega
              have hw2 : Mz101 = st (st Mb 60 37 1) 60 38 (sgn t n sg (sk t n s.1.2.2)) := by
                rw [hMb]
                rcases hwa with ⟨z1, z2, z3, z4⟩ | ⟨z1, z2, z3⟩
                · rw [z4, e97]
                · exfalso; omega
              have hop : (opN t n sg lo hi s).1 = (1, (sgn t n sg (sk t n s.1.2.2)), 0) := by
                unfold opN
                rw [if_pos hf0]
                unfold opK opF
                rw [if_pos (rn_no (fun z => hnd ⟨z.1, isD_i.mp z.2⟩))]
              have hoS : offS M Mz101 := by rw [hw2, hMb]; exact offS_st (offS_st hB.1 (by omega)) (by omega)
              refine ⟨hoS, Qs_no hQ hoS hop (by decide) (by rw [hw2, st_at, if_neg (by decide), st_same]) (by rw [hw2, st_same]), fun z => ?_⟩
              rw [hop] at z
              exact absurd z (by decide : ¬ (1 : Int) = 0)
          · refine z_iconst dX8_takeNumber_87 ⟨by decide, by decide⟩ ?_
            refine z_goto (tgt := 92) dX8_takeNumber_88 (by decide) ?_
            refine z_iconst dX8_takeNumber_92 ⟨by decide, by decide⟩ ?_
            refine z_aload_nr dX8_takeNumber_93 rfl ?_
            refine z_geti (kz := 36) fl_X8_202 rfl (by decide) rfl dX8_takeNumber_94 (fun x104 hx104 bx104 => ?_)
            rw [hMz88, st_same] at hx104
            have e97 : x104 = (sgn t n sg (sk t n s.1.2.2)) := by omega
            refine z_callVi (n2 := 93) (A_X8_want l g Mz88 1 1 x104 (by omega) (by decide)) cb_X8_want cl_X8_226 (clr0 rfl rfl (by decide) (by decide)) rfl (by decide) ⟨_, rfl, rfl⟩ rfl (by decide) rfl (Nat.le_of_ble_eq_true rfl) rfl dX8_takeNumber_97 (fun x105 Mz105 bx105 kMz105 hc105 => ?_)
            have hwa := hc105
            refine z_if_ne (tgt := 105) dX8_takeNumber_100 (by decide) (fun c106 => ?_) (fun c106 => ?_)
            · have hdg : (sgn t n sg (sk t n s.1.2.2)) < n ∧ 48 ≤ t (sgn t n sg (sk t n s.1.2.2)) ∧ t (sgn t n sg (sk t n s.1.2.2)) ≤ 57 ∧ Mz105 = Mb := by
                rw [hMb]
                rcases hwa with ⟨z1, z2, z3, z4⟩ | ⟨z1, z2, z3⟩
                · exfalso; omega
                · exact ⟨by omega, by omega, by omega, z2⟩
              refine z_aload_nr dX8_takeNumber_105 rfl ?_
              refine z_geti (kz := 36) fl_X8_202 rfl (by decide) rfl dX8_takeNumber_106 (fun x107 hx107 bx107 => ?_)
              have hd105 : x107 = (sgn t n sg (sk t n s.1.2.2)) := by
                have hq := hx107
                rw [hdg.2.2.2, hMb] at hq
                omega
              refine z_istore (loc2 := [fr 60, fi lo, fi hi, fi sg, fi x58, fi x59, fi 0, fi x107, fu, fu]) dX8_takeNumber_109 (by decide) rfl ?_
              refine z_iconst dX8_takeNumber_111 ⟨by decide, by decide⟩ ?_
              refine z_istore (loc2 := [fr 60, fi lo, fi hi, fi sg, fi x58, fi x59, fi 0, fi x107, fi 0, fu]) dX8_takeNumber_112 (by decide) rfl ?_
              refine z_few [fr 60, fi lo, fi hi, fu, fu, fi x59, fi 0, fi x107, fi 0, fu] (by simp [fle, kn]) ?_
              exact lp114 _ x59 0 x107 0 0 Mz105 rfl (hf0) (by refine ⟨by omega, ?_, hbe, hsb.1, ⟨hdg.1, hdg.2.1, hdg.2.2.1⟩⟩; have hq := hd105; omega) (by omega) (by rw [hdg.2.2.2, hMb, Int.add_zero]; exact hB) (fun j a b => by omega) (⟨by omega, by omega, fun _ => rfl⟩)
            · refine z_iconst dX8_takeNumber_103 ⟨by decide, by decide⟩ ?_
              refine z_iret rfl (by decide) rfl (Nat.sub_self _) dX8_takeNumber_104 ?_
              have hnd : ¬ ((sgn t n sg (sk t n s.1.2.2)) < n ∧ 48 ≤ t (sgn t n sg (sk t n s.1.2.2)) ∧ t (sgn t n sg (sk t n s.1.2.2)) ≤ 57) := by
                rcases hwa with ⟨z1, z2, z3, z4⟩ | ⟨z1, z2, z3⟩
                · omega
                · exfalso; omega
              have hw2 : Mz105 = st (st Mb 60 37 1) 60 38 (sgn t n sg (sk t n s.1.2.2)) := by
                rw [hMb]
                rcases hwa with ⟨z1, z2, z3, z4⟩ | ⟨z1, z2, z3⟩
                · rw [z4, e97]
                · exfalso; omega
              have hop : (opN t n sg lo hi s).1 = (1, (sgn t n sg (sk t n s.1.2.2)), 0) := by
                unfold opN
                rw [if_pos hf0]
                unfold opK opF
                rw [if_pos (rn_no (fun z => hnd ⟨z.1, isD_i.mp z.2⟩))]
              have hoS : offS M Mz105 := by rw [hw2, hMb]; exact offS_st (offS_st hB.1 (by omega)) (by omega)
              refine ⟨hoS, Qs_no hQ hoS hop (by decide) (by rw [hw2, st_at, if_neg (by decide), st_same]) (by rw [hw2, st_same]), fun z => ?_⟩
              rw [hop] at z
              exact absurd z (by decide : ¬ (1 : Int) = 0)
      · refine z_iconst dX8_takeNumber_32 ⟨by decide, by decide⟩ ?_
        refine z_goto (tgt := 37) dX8_takeNumber_33 (by decide) ?_
        refine z_istore (loc2 := [fr 60, fi lo, fi hi, fi sg, fi x58, fi x59, fi 1, fu, fu, fu]) dX8_takeNumber_37 (by decide) rfl ?_
        have hbe : ((1 : Int) = 1 ∧ (sgn t n sg (sk t n s.1.2.2)) = (sk t n s.1.2.2) + 1) ∨ ((1 : Int) = 0 ∧ (sgn t n sg (sk t n s.1.2.2)) = (sk t n s.1.2.2)) := by
          unfold sgn
          first
          | (refine Or.inl ⟨rfl, if_pos ⟨by omega, ?_⟩⟩
             split at hhr
             · rename_i z; exact ⟨z, by show t (sk t n s.1.2.2) = 45; rw [← htx]; omega⟩
             · exfalso; omega)
          | (refine Or.inr ⟨rfl, if_neg (fun z => ?_)⟩
             rw [if_pos z.2.1] at hhr
             have hz : t (sk t n s.1.2.2) = 45 := z.2.2
             rw [← htx] at hz
             omega)
        refine z_aload_nr dX8_takeNumber_39 rfl ?_
        refine z_dup rfl dX8_takeNumber_40 ?_
        refine z_geti (kz := 36) fl_X8_202 rfl (by decide) rfl dX8_takeNumber_41 (fun x108 hx108 bx108 => ?_)
        refine z_iload dX8_takeNumber_44 rfl ?_
        refine z_callSip (n2 := 93) (A_X8_one l g Mz58 1 (by omega)) cb_X8_one cl_X8_184 (clr0 rfl rfl (by decide) (by decide)) rfl (by decide) rfl (Nat.le_of_ble_eq_true rfl) rfl dX8_takeNumber_46 (fun x109 bx109 hx109 => ?_)
        first | refine z_iaddN dX8_takeNumber_49 (by omega) (fun x110 hx110 => ?_) | refine z_iadd dX8_takeNumber_49 (fun x110 hx110 => ?_)
        refine z_puti (kz := 36) fl_X8_202 rfl (by decide) rfl nr_60_36 dX8_takeNumber_50 (fun Mz111 hMz111 => ?_)
        have hB : offS M Mz111 ∧ Mz111 60 36 = (sgn t n sg (sk t n s.1.2.2)) ∧ Mz111 60 37 = 0 ∧ Mz111 60 38 = -1 := by
          refine ⟨by rw [hMz111, hMh]; exact offS_st (offS_st (offS_rfl M) (by omega)) (by omega), ?_, ?_, ?_⟩
          · rw [hMz111, st_same]; omega
          · rw [hMz111, st_at, if_neg (by decide), hMh, st_at, if_neg (by decide)]; exact hR1.2.1
          · rw [hMz111, st_at, if_neg (by decide), hMh, st_at, if_neg (by decide)]; exact hR1.2.2
        have hBx := offS_tx hB.1
        have hBn : Mz111 60 35 = n := hBx.2.trans hq2
        have hBt : ∀ i, Mz111 85 i = t i := fun i => congrFun (hBx.1.trans hq1) i
        obtain ⟨Mb, hMb⟩ : ∃ z, z = Mz111 := ⟨_, rfl⟩
        refine z_aload_nr dX8_takeNumber_53 rfl ?_
        refine z_aload_nr dX8_takeNumber_54 rfl ?_
        refine z_geti (kz := 36) fl_X8_202 rfl (by decide) rfl dX8_takeNumber_55 (fun x112 hx112 bx112 => ?_)
        rw [hMz111, st_same] at hx112
        refine z_aload_nr dX8_takeNumber_58 rfl ?_
        refine z_geti (kz := 35) fl_X8_197 rfl (by decide) rfl dX8_takeNumber_59 (fun x113 hx113 bx113 => ?_)
        rw [hMz111, st_at, if_neg (by decide)] at hx113
        refine z_icmp_ge (tgt := 91) dX8_takeNumber_62 (by decide) (fun c114 => ?_) (fun c114 => ?_)
        · refine z_iconst dX8_takeNumber_91 ⟨by decide, by decide⟩ ?_
          refine z_iconst dX8_takeNumber_92 ⟨by decide, by decide⟩ ?_
          refine z_aload_nr dX8_takeNumber_93 rfl ?_
          refine z_geti (kz := 36) fl_X8_202 rfl (by decide) rfl dX8_takeNumber_94 (fun x115 hx115 bx115 => ?_)
          rw [hMz111, st_same] at hx115
          have e97 : x115 = (sgn t n sg (sk t n s.1.2.2)) := by omega
          refine z_callVi (n2 := 93) (A_X8_want l g Mz111 0 1 x115 (by omega) (by decide)) cb_X8_want cl_X8_226 (clr0 rfl rfl (by decide) (by decide)) rfl (by decide) ⟨_, rfl, rfl⟩ rfl (by decide) rfl (Nat.le_of_ble_eq_true rfl) rfl dX8_takeNumber_97 (fun x116 Mz116 bx116 kMz116 hc116 => ?_)
          have hwa := hc116
          refine z_if_ne (tgt := 105) dX8_takeNumber_100 (by decide) (fun c117 => ?_) (fun c117 => ?_)
          · have hdg : (sgn t n sg (sk t n s.1.2.2)) < n ∧ 48 ≤ t (sgn t n sg (sk t n s.1.2.2)) ∧ t (sgn t n sg (sk t n s.1.2.2)) ≤ 57 ∧ Mz116 = Mb := by
              rw [hMb]
              rcases hwa with ⟨z1, z2, z3, z4⟩ | ⟨z1, z2, z3⟩
              · exfalso; omega
              · exact ⟨by omega, by omega, by omega, z2⟩
            refine z_aload_nr dX8_takeNumber_105 rfl ?_
            refine z_geti (kz := 36) fl_X8_202 rfl (by decide) rfl dX8_takeNumber_106 (fun x118 hx118 bx118 => ?_)
            have hd105 : x118 = (sgn t n sg (sk t n s.1.2.2)) := by
              have hq := hx118
              rw [hdg.2.2.2, hMb] at hq
              omega
            refine z_istore (loc2 := [fr 60, fi lo, fi hi, fi sg, fi x58, fi x59, fi 1, fi x118, fu, fu]) dX8_takeNumber_109 (by decide) rfl ?_
            refine z_iconst dX8_takeNumber_111 ⟨by decide, by decide⟩ ?_
            refine z_istore (loc2 := [fr 60, fi lo, fi hi, fi sg, fi x58, fi x59, fi 1, fi x118, fi 0, fu]) dX8_takeNumber_112 (by decide) rfl ?_
            refine z_few [fr 60, fi lo, fi hi, fu, fu, fi x59, fi 1, fi x118, fi 0, fu] (by simp [fle, kn]) ?_
            exact lp114 _ x59 1 x118 0 0 Mz116 rfl (hf0) (by refine ⟨by omega, ?_, hbe, hsb.1, ⟨hdg.1, hdg.2.1, hdg.2.2.1⟩⟩; have hq := hd105; omega) (by omega) (by rw [hdg.2.2.2, hMb, Int.add_zero]; exact hB) (fun j a b => by omega) (⟨by omega, by omega, fun _ => rfl⟩)
          · refine z_iconst dX8_takeNumber_103 ⟨by decide, by decide⟩ ?_
            refine z_iret rfl (by decide) rfl (Nat.sub_self _) dX8_takeNumber_104 ?_
            have hnd : ¬ ((sgn t n sg (sk t n s.1.2.2)) < n ∧ 48 ≤ t (sgn t n sg (sk t n s.1.2.2)) ∧ t (sgn t n sg (sk t n s.1.2.2)) ≤ 57) := by
              rcases hwa with ⟨z1, z2, z3, z4⟩ | ⟨z1, z2, z3⟩
              · omega
              · exfalso; omega
            have hw2 : Mz116 = st (st Mb 60 37 1) 60 38 (sgn t n sg (sk t n s.1.2.2)) := by
              rw [hMb]
              rcases hwa with ⟨z1, z2, z3, z4⟩ | ⟨z1, z2, z3⟩
              · rw [z4, e97]
              · exfalso; omega
            have hop : (opN t n sg lo hi s).1 = (1, (sgn t n sg (sk t n s.1.2.2)), 0) := by
              unfold opN
              rw [if_pos hf0]
              unfold opK opF
              rw [if_pos (rn_no (fun z => hnd ⟨z.1, isD_i.mp z.2⟩))]
            have hoS : offS M Mz116 := by rw [hw2, hMb]; exact offS_st (offS_st hB.1 (by omega)) (by omega)
            refine ⟨hoS, Qs_no hQ hoS hop (by decide) (by rw [hw2, st_at, if_neg (by decide), st_same]) (by rw [hw2, st_same]), fun z => ?_⟩
            rw [hop] at z
            exact absurd z (by decide : ¬ (1 : Int) = 0)
        · refine z_aload_nr dX8_takeNumber_65 rfl ?_
          refine z_getr (b := 85) fl_X8_83 rfl (by decide) rf_60_34 rfl dX8_takeNumber_66 ?_
          refine z_aload_nr dX8_takeNumber_69 rfl ?_
          refine z_geti (kz := 36) fl_X8_202 rfl (by decide) rfl dX8_takeNumber_70 (fun x119 hx119 bx119 => ?_)
          rw [hMz111, st_same] at hx119
          have e73 : x119 = (sgn t n sg (sk t n s.1.2.2)) := by omega
          refine z_iald rfl (by decide) (by omega) (by omega) dX8_takeNumber_73 (fun x120 hx120 bx120 => ?_)
          rw [hMz111, st_cell (by decide)] at hx120
          have v73 : x120 = t (sgn t n sg (sk t n s.1.2.2)) := by rw [hx120, e73]; exact hHt _
          refine z_i2l dX8_takeNumber_74 ?_
          refine z_ldc2 (c := 48) cn_X8_222 ⟨by decide, by decide⟩ dX8_takeNumber_75 ?_
          refine z_ldc2 (c := 57) cn_X8_224 ⟨by decide, by decide⟩ dX8_takeNumber_78 ?_
          refine z_callSip (n2 := 93) (A_X8_in l g Mz111 x120 48 57) cb_X8_in cl_X8_130 (clr0 rfl rfl (by decide) (by decide)) rfl (by decide) rfl (Nat.le_of_ble_eq_true rfl) rfl dX8_takeNumber_81 (fun x121 bx121 hx121 => ?_)
          have i121 := if01 hx121
          refine z_if_eq (tgt := 91) dX8_takeNumber_84 (by decide) (fun c122 => ?_) (fun c122 => ?_)
          · refine z_iconst dX8_takeNumber_91 ⟨by decide, by decide⟩ ?_
            refine z_iconst dX8_takeNumber_92 ⟨by decide, by decide⟩ ?_
            refine z_aload_nr dX8_takeNumber_93 rfl ?_
            refine z_geti (kz := 36) fl_X8_202 rfl (by decide) rfl dX8_takeNumber_94 (fun x123 hx123 bx123 => ?_)
            rw [hMz111, st_same] at hx123
            have e97 : x123 = (sgn t n sg (sk t n s.1.2.2)) := by omega
            refine z_callVi (n2 := 93) (A_X8_want l g Mz111 0 1 x123 (by omega) (by decide)) cb_X8_want cl_X8_226 (clr0 rfl rfl (by decide) (by decide)) rfl (by decide) ⟨_, rfl, rfl⟩ rfl (by decide) rfl (Nat.le_of_ble_eq_true rfl) rfl dX8_takeNumber_97 (fun x124 Mz124 bx124 kMz124 hc124 => ?_)
            have hwa := hc124
            refine z_if_ne (tgt := 105) dX8_takeNumber_100 (by decide) (fun c125 => ?_) (fun c125 => ?_)
            · have hdg : (sgn t n sg (sk t n s.1.2.2)) < n ∧ 48 ≤ t (sgn t n sg (sk t n s.1.2.2)) ∧ t (sgn t n sg (sk t n s.1.2.2)) ≤ 57 ∧ Mz124 = Mb := by
                rw [hMb]
                rcases hwa with ⟨z1, z2, z3, z4⟩ | ⟨z1, z2, z3⟩
                · exfalso; omega
                · exact ⟨by omega, by omega, by omega, z2⟩
              refine z_aload_nr dX8_takeNumber_105 rfl ?_
              refine z_geti (kz := 36) fl_X8_202 rfl (by decide) rfl dX8_takeNumber_106 (fun x126 hx126 bx126 => ?_)
              have hd105 : x126 = (sgn t n sg (sk t n s.1.2.2)) := by
                have hq := hx126
                rw [hdg.2.2.2, hMb] at hq
                omega
              refine z_istore (loc2 := [fr 60, fi lo, fi hi, fi sg, fi x58, fi x59, fi 1, fi x126, fu, fu]) dX8_takeNumber_109 (by decide) rfl ?_
              refine z_iconst dX8_takeNumber_111 ⟨by decide, by decide⟩ ?_
              refine z_istore (loc2 := [fr 60, fi lo, fi hi, fi sg, fi x58, fi x59, fi 1, fi x126, fi 0, fu]) dX8_takeNumber_112 (by decide) rfl ?_
              refine z_few [fr 60, fi lo, fi hi, fu, fu, fi x59, fi 1, fi x126, fi 0, fu] (by simp [fle, kn]) ?_
              exact lp114 _ x59 1 x126 0 0 Mz124 rfl (hf0) (by refine ⟨by omega, ?_, hbe, hsb.1, ⟨hdg.1, hdg.2.1, hdg.2.2.1⟩⟩; have hq := hd105; omega) (by omega) (by rw [hdg.2.2.2, hMb, Int.add_zero]; exact hB) (fun j a b => by omega) (⟨by omega, by omega, fun _ => rfl⟩)
            · refine z_iconst dX8_takeNumber_103 ⟨by decide, by decide⟩ ?_
              refine z_iret rfl (by decide) rfl (Nat.sub_self _) dX8_takeNumber_104 ?_
              have hnd : ¬ ((sgn t n sg (sk t n s.1.2.2)) < n ∧ 48 ≤ t (sgn t n sg (sk t n s.1.2.2)) ∧ t (sgn t n sg (sk t n s.1.2.2)) ≤ 57) := by
                rcases hwa with ⟨z1, z2, z3, z4⟩ | ⟨z1, z2, z3⟩
                · omega
                · exfalso; omega
              have hw2 : Mz124 = st (st Mb 60 37 1) 60 38 (sgn t n sg (sk t n s.1.2.2)) := by
                rw [hMb]
                rcases hwa with ⟨z1, z2, z3, z4⟩ | ⟨z1, z2, z3⟩
                · rw [z4, e97]
                · exfalso; omega
              have hop : (opN t n sg lo hi s).1 = (1, (sgn t n sg (sk t n s.1.2.2)), 0) := by
                unfold opN
                rw [if_pos hf0]
                unfold opK opF
                rw [if_pos (rn_no (fun z => hnd ⟨z.1, isD_i.mp z.2⟩))]
              have hoS : offS M Mz124 := by rw [hw2, hMb]; exact offS_st (offS_st hB.1 (by omega)) (by omega)
              refine ⟨hoS, Qs_no hQ hoS hop (by decide) (by rw [hw2, st_at, if_neg (by decide), st_same]) (by rw [hw2, st_same]), fun z => ?_⟩
              rw [hop] at z
              exact absurd z (by decide : ¬ (1 : Int) = 0)
          · refine z_iconst dX8_takeNumber_87 ⟨by decide, by decide⟩ ?_
            refine z_goto (tgt := 92) dX8_takeNumber_88 (by decide) ?_
            refine z_iconst dX8_takeNumber_92 ⟨by decide, by decide⟩ ?_
            refine z_aload_nr dX8_takeNumber_93 rfl ?_
            refine z_geti (kz := 36) fl_X8_202 rfl (by decide) rfl dX8_takeNumber_94 (fun x127 hx127 bx127 => ?_)
            rw [hMz111, st_same] at hx127
            have e97 : x127 = (sgn t n sg (sk t n s.1.2.2)) := by omega
            refine z_callVi (n2 := 93) (A_X8_want l g Mz111 1 1 x127 (by omega) (by decide)) cb_X8_want cl_X8_226 (clr0 rfl rfl (by decide) (by decide)) rfl (by decide) ⟨_, rfl, rfl⟩ rfl (by decide) rfl (Nat.le_of_ble_eq_true rfl) rfl dX8_takeNumber_97 (fun x128 Mz128 bx128 kMz128 hc128 => ?_)
            have hwa := hc128
            refine z_if_ne (tgt := 105) dX8_takeNumber_100 (by decide) (fun c129 => ?_) (fun c129 => ?_)
            · have hdg : (sgn t n sg (sk t n s.1.2.2)) < n ∧ 48 ≤ t (sgn t n sg (sk t n s.1.2.2)) ∧ t (sgn t n sg (sk t n s.1.2.2)) ≤ 57 ∧ Mz128 = Mb := by
                rw [hMb]
                rcases hwa with ⟨z1, z2, z3, z4⟩ | ⟨z1, z2, z3⟩
                · exfalso; omega
                · exact ⟨by omega, by omega, by omega, z2⟩
              refine z_aload_nr dX8_takeNumber_105 rfl ?_
              refine z_geti (kz := 36) fl_X8_202 rfl (by decide) rfl dX8_takeNumber_106 (fun x130 hx130 bx130 => ?_)
              have hd105 : x130 = (sgn t n sg (sk t n s.1.2.2)) := by
                have hq := hx130
                rw [hdg.2.2.2, hMb] at hq
                omega
              refine z_istore (loc2 := [fr 60, fi lo, fi hi, fi sg, fi x58, fi x59, fi 1, fi x130, fu, fu]) dX8_takeNumber_109 (by decide) rfl ?_
              refine z_iconst dX8_takeNumber_111 ⟨by decide, by decide⟩ ?_
              refine z_istore (loc2 := [fr 60, fi lo, fi hi, fi sg, fi x58, fi x59, fi 1, fi x130, fi 0, fu]) dX8_takeNumber_112 (by decide) rfl ?_
              refine z_few [fr 60, fi lo, fi hi, fu, fu, fi x59, fi 1, fi x130, fi 0, fu] (by simp [fle, kn]) ?_
              exact lp114 _ x59 1 x130 0 0 Mz128 rfl (hf0) (by refine ⟨by omega, ?_, hbe, hsb.1, ⟨hdg.1, hdg.2.1, hdg.2.2.1⟩⟩; have hq := hd105; omega) (by omega) (by rw [hdg.2.2.2, hMb, Int.add_zero]; exact hB) (fun j a b => by omega) (⟨by omega, by omega, fun _ => rfl⟩)
            · refine z_iconst dX8_takeNumber_103 ⟨by decide, by decide⟩ ?_
              refine z_iret rfl (by decide) rfl (Nat.sub_self _) dX8_takeNumber_104 ?_
              have hnd : ¬ ((sgn t n sg (sk t n s.1.2.2)) < n ∧ 48 ≤ t (sgn t n sg (sk t n s.1.2.2)) ∧ t (sgn t n sg (sk t n s.1.2.2)) ≤ 57) := by
                rcases hwa with ⟨z1, z2, z3, z4⟩ | ⟨z1, z2, z3⟩
                · omega
                · exfalso; omega
              have hw2 : Mz128 = st (st Mb 60 37 1) 60 38 (sgn t n sg (sk t n s.1.2.2)) := by
                rw [hMb]
                rcases hwa with ⟨z1, z2, z3, z4⟩ | ⟨z1, z2, z3⟩
                · rw [z4, e97]
                · exfalso; omega
              have hop : (opN t n sg lo hi s).1 = (1, (sgn t n sg (sk t n s.1.2.2)), 0) := by
                unfold opN
                rw [if_pos hf0]
                unfold opK opF
                rw [if_pos (rn_no (fun z => hnd ⟨z.1, isD_i.mp z.2⟩))]
              have hoS : offS M Mz128 := by rw [hw2, hMb]; exact offS_st (offS_st hB.1 (by omega)) (by omega)
              refine ⟨hoS, Qs_no hQ hoS hop (by decide) (by rw [hw2, st_at, if_neg (by decide), st_same]) (by rw [hw2, st_same]), fun z => ?_⟩
              rw [hop] at z
              exact absurd z (by decide : ¬ (1 : Int) = 0)
  · refine z_iconst dX8_takeNumber_7 ⟨by decide, by decide⟩ ?_
    refine z_iret rfl (by decide) rfl (Nat.sub_self _) dX8_takeNumber_8 ?_
    refine ⟨offS_rfl M, by rw [opN_f (by omega)]; exact hQ, fun z => ?_⟩
    rw [opN_f (by omega)] at z
    omega
