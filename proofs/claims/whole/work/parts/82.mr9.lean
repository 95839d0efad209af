/-! ===== the reference's reader: read ===== -/
def sx (x : PR) : PS := (x, 0, fun _ => 0)
def zrR (M : FMem) (a b : Int) : FMem := fun x j => if x = 80 ∧ 0 ≤ j ∧ j < a then 0 else if x = 81 ∧ 0 ≤ j ∧ j < b then 0 else M x j
theorem zrR_0 (M : FMem) : zrR M 0 0 = M := by
  funext x j
  unfold zrR
  rw [if_neg (by omega), if_neg (by omega)]
theorem zrR_a {M : FMem} {a : Int} (ha : 0 ≤ a) : st (zrR M a 0) 80 a 0 = zrR M (a + 1) 0 := by
  funext x j
  unfold st
  by_cases e : x = 80 ∧ j = a
  · rw [if_pos e]
    unfold zrR
    rw [if_pos (by omega)]
  · rw [if_neg e]
    unfold zrR
    by_cases z : x = 80 ∧ 0 ≤ j ∧ j < a
    · rw [if_pos z, if_pos (show x = 80 ∧ 0 ≤ j ∧ j < a + 1 by omega)]
    · rw [if_neg z, if_neg (show ¬ (x = 80 ∧ 0 ≤ j ∧ j < a + 1) by omega)]
theorem zrR_b {M : FMem} {b : Int} (hb : 0 ≤ b) : st (zrR M 24 b) 81 b 0 = zrR M 24 (b + 1) := by
  funext x j
  unfold st
  by_cases e : x = 81 ∧ j = b
  · rw [if_pos e]
    unfold zrR
    rw [if_neg (by omega), if_pos (by omega)]
  · rw [if_neg e]
    unfold zrR
    by_cases y : x = 80 ∧ 0 ≤ j ∧ j < 24
    · rw [if_pos y, if_pos y]
    · rw [if_neg y, if_neg y]
      by_cases z : x = 81 ∧ 0 ≤ j ∧ j < b
      · rw [if_pos z, if_pos (show x = 81 ∧ 0 ≤ j ∧ j < b + 1 by omega)]
      · rw [if_neg z, if_neg (show ¬ (x = 81 ∧ 0 ≤ j ∧ j < b + 1) by omega)]
theorem zrR_r {M : FMem} {a b : Int} {x : Nat} {j : Int} (h : x ≠ 80) (h2 : x ≠ 81) : zrR M a b x j = M x j := by
  unfold zrR
  rw [if_neg (by omega), if_neg (by omega)]
/-- the state of reading a text, before its next clause -/
def RdI (M : FMem) (kz fz : Int) (xz : PR) (M1 Rz : FMem) : Prop := (0 ≤ kz ∧ kz ≤ 20) ∧ Qs (tm M) (M 60 35) (sx xz) M1 ∧ (xz.1 = 0 → fz = 1 ∧ (0 ≤ xz.2.2 ∧ xz.2.2 ≤ M 60 35) ∧ (rdl (tm M) (M 60 35) 21 0 0 R0) = rdl (tm M) (M 60 35) (21 - kz).toNat xz.2.2 kz Rz ∧ DrP (dm M1) Rz) ∧ (xz.1 ≠ 0 → fz = 0 ∧ (rdl (tm M) (M 60 35) 21 0 0 R0).1 = xz.1 ∧ (rdl (tm M) (M 60 35) 21 0 0 R0).2.1 = xz.2.1) ∧ offK M M1 ∧ (0 ≤ Rz 0 11 ∧ Rz 0 11 ≤ 8)
theorem rd_init {M : FMem} (hn : 0 ≤ M 60 35) : RdI M 0 1 (0, 0, 0) (st (st (st (st (zrR (st (st (st M 60 36 0) 60 37 0) 60 38 (-1)) 24 6) 60 27 31) 60 28 31) 60 29 0) 60 30 0) R0 := by
  have h60 : ∀ j, ¬ (27 ≤ j ∧ j ≤ 30) → (st (st (st (st (zrR (st (st (st M 60 36 0) 60 37 0) 60 38 (-1)) 24 6) 60 27 31) 60 28 31) 60 29 0) 60 30 0) 60 j = (st (st (st M 60 36 0) 60 37 0) 60 38 (-1)) 60 j := fun j hj => by
    rw [st_at, if_neg (by omega), st_at, if_neg (by omega), st_at, if_neg (by omega), st_at, if_neg (by omega), zrR_r (by decide) (by decide)]
  have hot : ∀ x j, x ≠ 60 → (st (st (st (st (zrR (st (st (st M 60 36 0) 60 37 0) 60 38 (-1)) 24 6) 60 27 31) 60 28 31) 60 29 0) 60 30 0) x j = zrR M 24 6 x j := fun x j hx => by
    rw [st_cell hx, st_cell hx, st_cell hx, st_cell hx]
    unfold zrR
    rw [st_cell hx, st_cell hx, st_cell hx]
  refine ⟨by omega, ⟨?_, ?_, ?_, fun _ => ⟨?_, ?_, ?_⟩, fun z => absurd rfl z⟩, fun _ => ⟨rfl, ⟨Int.le_refl 0, hn⟩, rfl, ?_⟩, fun z => absurd rfl z, fun b j p q => ?_, by simp [R0]⟩
  · funext i
    exact (hot 85 i (by decide)).trans (zrR_r (by decide) (by decide))
  · rw [h60 35 (by decide), st_at, if_neg (by decide), st_at, if_neg (by decide), st_at, if_neg (by decide)]
  · exact Int.le_refl 0
  · rw [h60 36 (by decide), st_at, if_neg (by decide), st_at, if_neg (by decide), st_same]; rfl
  · rw [h60 37 (by decide), st_at, if_neg (by decide), st_same]
  · rw [h60 38 (by decide), st_same]
  · refine ⟨fun c i c1 c2 i1 i2 => ?_, ⟨?_, ?_, ?_, ?_⟩, fun c i c1 c2 i1 i2 => ?_⟩
    · have hr : R0 c i = 0 := by unfold R0; rw [if_neg (by omega)]
      rw [hr]
      have hc : c = 1 ∨ c = 2 ∨ c = 3 ∨ c = 4 ∨ c = 5 := by omega
      rcases hc with rfl | rfl | rfl | rfl | rfl
      · exact (hot 80 _ (by decide)).trans (if_pos (by omega))
      · exact (hot 80 _ (by decide)).trans (if_pos (by omega))
      · exact (hot 80 _ (by decide)).trans (if_pos (by omega))
      · exact (hot 80 _ (by decide)).trans (if_pos (by omega))
      · exact (hot 81 _ (by decide)).trans ((if_neg (by omega)).trans (if_pos (by omega)))
    · rw [show ∀ Mx : FMem, dm Mx 0 5 = Mx 60 27 from fun _ => rfl, show R0 0 5 = 31 by simp [R0]]
      rw [st_at, if_neg (by decide), st_at, if_neg (by decide), st_at, if_neg (by decide), st_same]
    · rw [show ∀ Mx : FMem, dm Mx 0 6 = Mx 60 28 from fun _ => rfl, show R0 0 6 = 31 by simp [R0]]
      rw [st_at, if_neg (by decide), st_at, if_neg (by decide), st_same]
    · rw [show ∀ Mx : FMem, dm Mx 0 7 = Mx 60 29 from fun _ => rfl, show R0 0 7 = 0 by simp [R0]]
      rw [st_at, if_neg (by decide), st_same]
    · rw [show ∀ Mx : FMem, dm Mx 0 11 = Mx 60 30 from fun _ => rfl, show R0 0 11 = 0 by simp [R0]]
      rw [st_same]
    · have : R0 0 11 = 0 := by simp [R0]
      omega
  · by_cases hb : b = 60
    · subst hb
      rw [h60 j (by omega), st_at, if_neg (by omega), st_at, if_neg (by omega), st_at, if_neg (by omega)]
    · rw [hot b j hb]
      exact zrR_r (by omega) (by omega)
theorem rd_fault {M Mw M3 Rz : FMem} {kz f q w : Int} {s : PS} (hk : 0 ≤ kz ∧ kz ≤ 20) (hQ : Qs (tm M) (M 60 35) s Mw) (ho : offK M Mw) (hR : 0 ≤ Rz 0 11 ∧ Rz 0 11 ≤ 8) (hf : 0 < f) (h3 : M3 = st (st Mw 60 37 f) 60 38 w) (hw : w = q) (hD : (rdl (tm M) (M 60 35) 21 0 0 R0).1 = f ∧ (rdl (tm M) (M 60 35) 21 0 0 R0).2.1 = q) : RdI M kz 0 (f, q, 0) M3 Rz := by
  have h0 : offS Mw M3 := by rw [h3]; exact offS_st (offS_st (offS_rfl Mw) (by omega)) (by omega)
  refine ⟨hk, Qs_no hQ h0 (f := f) (q := q) (r := 0) rfl hf (by rw [h3, st_at, if_neg (by decide), st_same]) (by rw [h3, st_same, hw]), fun z => ?_, fun _ => ⟨rfl, hD⟩, offK_tr ho (offK_S h0), hR⟩
  have : f = 0 := z
  omega
theorem clM_R {t : Int → Int} {n p : Int} (h : kdW t n p ≠ -1) : clM t n (kdW t n p) (s0 (rn (isL t) n p)) = clR t n p (kdW t n p) := by
  unfold clM clR
  rcases kd_i t n p with ⟨e, w⟩ | ⟨e, w⟩ | ⟨e, w⟩ | ⟨e, w⟩ | ⟨e, w⟩ | e
  · rw [isW_run (by decide) w, if_pos e, if_pos e]
  · rw [isW_run (by decide) w, e]; rfl
  · rw [isW_run (by decide) w, e]; rfl
  · rw [isW_run (by decide) w, e]; rfl
  · rw [isW_run (by decide) w, e]; rfl
  · exact absurd e h
theorem eff_R {t : Int → Int} {n p : Int} {v : Int → Int} {R : FMem} (h : kdW t n p ≠ -1) : eff (kdW t n p) v (abv t n (opN t n 0 0 9 (s0 (rn (isL t) n p)))) R = eff (kdW t n p) v (clV t n p (kdW t n p)) R := by
  rcases kd_i t n p with ⟨e, w⟩ | ⟨e, w⟩ | ⟨e, w⟩ | ⟨e, w⟩ | ⟨e, w⟩ | e
  · rw [e]; rfl
  · rw [e]; rfl
  · rw [e]; rfl
  · rw [e]; rfl
  · rw [isW_run (by decide) w]; rfl
  · exact absurd e h
theorem eff_11 {kd ab : Int} {v : Int → Int} {R : FMem} (hk : 0 ≤ kd ∧ kd ≤ 4) (h : 0 ≤ R 0 11 ∧ R 0 11 ≤ 8) (h2 : ¬ (kd = 4 ∧ 8 ≤ R 0 11)) : 0 ≤ eff kd v ab R 0 11 ∧ eff kd v ab R 0 11 ≤ 8 := by
  unfold eff
  repeat' split
  · simpa [st] using h
  · simpa [st] using h
  · simpa [st] using h
  · simpa [st] using h
  · rw [st_same]; omega
theorem rd_clause {M Mw M2 Rz : FMem} {kz : Int} {xz : PR} (hk : 0 ≤ kz ∧ kz < 20) (h2 : 0 ≤ xz.2.2 ∧ xz.2.2 ≤ M 60 35) (hl : (sk (tm M) (M 60 35) xz.2.2) < M 60 35) (hD : (rdl (tm M) (M 60 35) 21 0 0 R0) = rdl (tm M) (M 60 35) (21 - kz).toNat xz.2.2 kz Rz) (g1 : (kdW (tm M) (M 60 35) (sk (tm M) (M 60 35) xz.2.2)) ≠ -1) (g2 : ¬ ((kdW (tm M) (M 60 35) (sk (tm M) (M 60 35) xz.2.2)) = 4 ∧ 8 ≤ Rz 0 11)) (hd : DrP (dm Mw) Rz) (ho : offK M Mw) (hR : 0 ≤ Rz 0 11 ∧ Rz 0 11 ≤ 8)
    (P : offK Mw M2 ∧ Qs (tm M) (M 60 35) (clM (tm M) (M 60 35) (kdW (tm M) (M 60 35) (sk (tm M) (M 60 35) xz.2.2)) (s0 (rn (isL (tm M)) (M 60 35) (sk (tm M) (M 60 35) xz.2.2)))) M2 ∧ ((clM (tm M) (M 60 35) (kdW (tm M) (M 60 35) (sk (tm M) (M 60 35) xz.2.2)) (s0 (rn (isL (tm M)) (M 60 35) (sk (tm M) (M 60 35) xz.2.2)))).1.1 = 0 → DrP (dm M2) (eff (kdW (tm M) (M 60 35) (sk (tm M) (M 60 35) xz.2.2)) (clM (tm M) (M 60 35) (kdW (tm M) (M 60 35) (sk (tm M) (M 60 35) xz.2.2)) (s0 (rn (isL (tm M)) (M 60 35) (sk (tm M) (M 60 35) xz.2.2)))).2.2 (abv (tm M) (M 60 35) (opN (tm M) (M 60 35) 0 0 9 (s0 (rn (isL (tm M)) (M 60 35) (sk (tm M) (M 60 35) xz.2.2))))) (dm Mw)))) :
    ∃ (f2 : Int) (x2 : PR) (R2 : FMem), RdI M (kz + 1) f2 x2 M2 R2 ∧ 0 ≤ f2 ∧ f2 ≤ 1 := by
  obtain ⟨p1, p2, p3⟩ := P
  rw [clM_R g1] at p2 p3
  have hsb := sk_b (t := tm M) h2.1 h2.2
  have hun := hD
  rw [show (21 - kz).toNat = (20 - kz).toNat + 1 by omega] at hun
  have hun := hun.trans (rdl_s (tm M) (M 60 35) (20 - kz).toNat xz.2.2 kz Rz)
  rw [if_neg (by omega), if_neg g1, if_neg g2, if_neg (by omega)] at hun
  have hkr := kdW_r (tm M) (M 60 35) (sk (tm M) (M 60 35) xz.2.2)
  generalize hC : clR (tm M) (M 60 35) (sk (tm M) (M 60 35) xz.2.2) (kdW (tm M) (M 60 35) (sk (tm M) (M 60 35) xz.2.2)) = C at *
  by_cases e : C.1.1 = 0
  · rw [if_neg (fun z => z e)] at hun
    have k5 := clR_ok (R := Rz) (ab := clV (tm M) (M 60 35) (sk (tm M) (M 60 35) xz.2.2) (kdW (tm M) (M 60 35) (sk (tm M) (M 60 35) xz.2.2))) hsb.1 g1 (by rw [hC]; exact e)
    rw [hC] at k5
    refine ⟨1, C.1, eff (kdW (tm M) (M 60 35) (sk (tm M) (M 60 35) xz.2.2)) C.2.2 (clV (tm M) (M 60 35) (sk (tm M) (M 60 35) xz.2.2) (kdW (tm M) (M 60 35) (sk (tm M) (M 60 35) xz.2.2))) Rz, ⟨by omega, p2, fun _ => ⟨rfl, k5.1, ?_, ?_⟩, fun z => absurd e z, offK_tr ho p1, ?_⟩, by decide, by decide⟩
    · rw [show (21 - (kz + 1)).toNat = (20 - kz).toNat by omega]; exact hun
    · have q := p3 e
      rw [eff_R g1] at q
      exact DrP_tr q (DrP_eff hd)
    · exact eff_11 (by omega) hR g2
  · rw [if_pos e] at hun
    refine ⟨0, C.1, Rz, ⟨by omega, p2, fun z => absurd z e, fun _ => ⟨rfl, ?_, ?_⟩, offK_tr ho p1, hR⟩, by decide, by decide⟩
    · rw [hun]
    · rw [hun]
set_option maxHeartbeats 3200000 in
theorem A_X8_read (l : Launch) (g : Cx) (M : FMem) (hl : 0 ≤ M 60 35 ∧ M 60 35 ≤ 240) (hb : ∀ i, 0 ≤ i → i < M 60 35 → 0 ≤ M 85 i) : AMi l g true fi_X8_read [fr 60] 93 M (fun q M2 => M2 60 38 = (rdl (tm M) (M 60 35) 21 0 0 R0).2.1 ∧ M2 60 35 = 0 ∧ (∀ b j, ¬ (75 ≤ b ∧ b ≤ 84) → ¬ (b = 60 ∧ (j = 17 ∨ j = 18 ∨ j = 20 ∨ j = 21 ∨ (27 ≤ j ∧ j ≤ 30) ∨ (35 ≤ j ∧ j ≤ 40))) → M2 b j = M b j) ∧ (((rdl (tm M) (M 60 35) 21 0 0 R0).1 ≠ 0 ∧ q = -10 - (rdl (tm M) (M 60 35) 21 0 0 R0).1 ∧ (∀ b j, ((75 ≤ b ∧ b ≤ 79) ∨ (b = 60 ∧ (j = 17 ∨ j = 18 ∨ j = 20 ∨ j = 21))) → M2 b j = M b j)) ∨ ((rdl (tm M) (M 60 35) 21 0 0 R0).1 = 0 ∧ q = (rdl (tm M) (M 60 35) 21 0 0 R0).2.2.1 ∧ DrP (rm M2) (rdl (tm M) (M 60 35) 21 0 0 R0).2.2.2))) := by
  refine AMi_intro [fr 60, fu, fu] (by decide) (knall rfl) (Nat.le_of_ble_eq_true rfl) rfl ?_
  intro hNV hM0 μ
  have lp81 : ∀ (kq : Nat) (kz fz : Int) (xz : PR) (M1 Rz : FMem), (2 * (20 - kz) + fz).toNat = kq → (RdI M kz fz xz M1 Rz) → Wa l g true fi_X8_read 93 μ (Zi g true fi_X8_read 93 μ (fun q M2 => M2 60 38 = (rdl (tm M) (M 60 35) 21 0 0 R0).2.1 ∧ M2 60 35 = 0 ∧ (∀ b j, ¬ (75 ≤ b ∧ b ≤ 84) → ¬ (b = 60 ∧ (j = 17 ∨ j = 18 ∨ j = 20 ∨ j = 21 ∨ (27 ≤ j ∧ j ≤ 30) ∨ (35 ≤ j ∧ j ≤ 40))) → M2 b j = M b j) ∧ (((rdl (tm M) (M 60 35) 21 0 0 R0).1 ≠ 0 ∧ q = -10 - (rdl (tm M) (M 60 35) 21 0 0 R0).1 ∧ (∀ b j, ((75 ≤ b ∧ b ≤ 79) ∨ (b = 60 ∧ (j = 17 ∨ j = 18 ∨ j = 20 ∨ j = 21))) → M2 b j = M b j)) ∨ ((rdl (tm M) (M 60 35) 21 0 0 R0).1 = 0 ∧ q = (rdl (tm M) (M 60 35) 21 0 0 R0).2.2.1 ∧ DrP (rm M2) (rdl (tm M) (M 60 35) 21 0 0 R0).2.2.2)))) 81 [] [fr 60, fi kz, fu] 93 M1 := by
    intro kq
    induction kq using Nat.strongRecOn with
    | _ kq ih81 =>
    intro kz fz xz M1 Rz hk81 hI
    obtain ⟨h1, hQ, h2, h3, h4, h5⟩ := hI
    have hfo : M1 60 37 = xz.1 := Qs_f hQ
    have hq0 : 0 ≤ xz.1 := hQ.2.2.1
    refine z_aload_nr dX8_read_81 rfl ?_
    refine z_geti (kz := 37) fl_X8_205 rfl (by decide) rfl dX8_read_82 (fun x1 hx1 bx1 => ?_)
    refine z_if_ne (tgt := 190) dX8_read_85 (by decide) (fun c2 => ?_) (fun c2 => ?_)
    · refine z_aload_nr dX8_read_190 rfl ?_
      refine z_iconst dX8_read_191 ⟨by decide, by decide⟩ ?_
      refine z_puti (kz := 35) fl_X8_197 rfl (by decide) rfl nr_60_35 dX8_read_192 (fun Mz3 hMz3 => ?_)
      refine z_aload_nr dX8_read_195 rfl ?_
      refine z_geti (kz := 37) fl_X8_205 rfl (by decide) rfl dX8_read_196 (fun x4 hx4 bx4 => ?_)
      rw [hMz3, st_at, if_neg (by decide)] at hx4
      refine z_if_le (tgt := 210) dX8_read_199 (by decide) (fun c5 => ?_) (fun c5 => ?_)
      · exfalso; omega
      · have hz0 := h3 (by omega)
        have hDb := rdl_f (tm M) (M 60 35) 21 0 0 R0
        refine z_bipush dX8_read_202 ⟨by decide, by decide⟩ (by decide) ?_
        refine z_aload_nr dX8_read_204 rfl ?_
        refine z_geti (kz := 37) fl_X8_205 rfl (by decide) rfl dX8_read_205 (fun x6 hx6 bx6 => ?_)
        rw [hMz3, st_at, if_neg (by decide)] at hx6
        first | refine z_isubN dX8_read_208 (by omega) (fun x7 hx7 => ?_) | refine z_isub dX8_read_208 (fun x7 hx7 => ?_)
        refine z_iret rfl (by decide) rfl (Nat.sub_self _) dX8_read_209 ?_
        have hf0 : xz.1 ≠ 0 := by omega
        obtain ⟨z1, z2, z3⟩ := h3 hf0
        refine ⟨?_, ?_, fun b j p q => ?_, Or.inl ⟨by omega, by omega, fun b j p => ?_⟩⟩
        · rw [hMz3, st_at, if_neg (by decide), z3]; exact (hQ.2.2.2.2 hf0).2
        · rw [hMz3, st_same]
        · rw [hMz3]; unfold st; rw [if_neg (by omega)]; exact h4 b j (by omega) (by omega)
        · rw [hMz3]; unfold st; rw [if_neg (by omega)]; exact h4 b j (by omega) (by omega)
    · have hx0 : xz.1 = 0 := by omega
      obtain ⟨k1, k2, k3, k4⟩ := h2 hx0
      have hat1 : M1 60 36 = xz.2.2 := (hQ.2.2.2.1 hx0).1
      have hsb := sk_b (t := tm M) k2.1 k2.2
      have hn1 : M1 60 35 = M 60 35 := hQ.2.1
      have hun := k3
      rw [show (21 - kz).toNat = (20 - kz).toNat + 1 by omega] at hun
      have hun := hun.trans (rdl_s (tm M) (M 60 35) (20 - kz).toNat xz.2.2 kz Rz)
      refine z_aload_nr dX8_read_88 rfl ?_
      refine z_callVi (n2 := 93) (A_X8_here l g M1 (by omega) (by omega)) cb_X8_here cl_X8_208 (clr0 rfl rfl (by decide) (by decide)) rfl (by decide) ⟨_, rfl, rfl⟩ rfl (by decide) rfl (Nat.le_of_ble_eq_true rfl) rfl dX8_read_89 (fun x8 Mz8 bx8 kMz8 hc8 => ?_)
      have hhe := hc8.1
      have hhr := hc8.2
      rw [hQ.1, hn1, hat1] at hhe hhr
      rw [show M1 85 (sk (tm M) (M 60 35) xz.2.2) = tm M (sk (tm M) (M 60 35) xz.2.2) from congrFun hQ.1 _] at hhr
      have hby : ((sk (tm M) (M 60 35) xz.2.2) < M 60 35 ∧ 0 ≤ x8) ∨ (¬ (sk (tm M) (M 60 35) xz.2.2) < M 60 35 ∧ x8 = -1) := by
        split at hhr
        · rename_i z
          exact Or.inl ⟨z, by rw [hhr]; exact hb _ hsb.1 z⟩
        · rename_i z
          exact Or.inr ⟨z, hhr⟩
      have oS : offS M1 Mz8 := by rw [hhe]; exact offS_st (offS_rfl M1) (by omega)
      have at2 : Mz8 60 36 = (sk (tm M) (M 60 35) xz.2.2) := by rw [hhe]; exact st_same _ _ _ _
      have n2 : Mz8 60 35 = M 60 35 := by rw [hhe, st_at, if_neg (by decide)]; exact hn1
      have f2z : Mz8 60 37 = 0 := by rw [hhe, st_at, if_neg (by decide)]; omega
      have p2z : Mz8 60 38 = -1 := by rw [hhe, st_at, if_neg (by decide)]; exact (hQ.2.2.2.1 hx0).2.2
      have q1 : Qs (tm M) (M 60 35) (s0 (sk (tm M) (M 60 35) xz.2.2)) Mz8 := Qs_ok hQ oS rfl at2 f2z p2z
      have ok1 : SOk (M 60 35) (s0 (sk (tm M) (M 60 35) xz.2.2)) := fun _ => hsb
      have oK1 : offK M Mz8 := offK_tr h4 (offK_S oS)
      have dm1 : dm Mz8 = dm M1 := dm_S oS
      have k30 : Mz8 60 30 = Rz 0 11 := by
        have := k4.2.1.2.2.2
        rw [← dm1] at this
        exact this
      refine z_if_lt (tgt := 190) dX8_read_92 (by decide) (fun c9 => ?_) (fun c9 => ?_)
      · refine z_aload_nr dX8_read_190 rfl ?_
        refine z_iconst dX8_read_191 ⟨by decide, by decide⟩ ?_
        refine z_puti (kz := 35) fl_X8_197 rfl (by decide) rfl nr_60_35 dX8_read_192 (fun Mz10 hMz10 => ?_)
        refine z_aload_nr dX8_read_195 rfl ?_
        refine z_geti (kz := 37) fl_X8_205 rfl (by decide) rfl dX8_read_196 (fun x11 hx11 bx11 => ?_)
        rw [hMz10, st_at, if_neg (by decide)] at hx11
        refine z_if_le (tgt := 210) dX8_read_199 (by decide) (fun c12 => ?_) (fun c12 => ?_)
        · have hnc : 0 ≤ Mz10 60 30 ∧ Mz10 60 30 ≤ 8 := by rw [hMz10, st_at, if_neg (by decide)]; omega
          obtain ⟨Mt, hMt⟩ : ∃ z, z = Mz10 := ⟨_, rfl⟩
          have hMt2 := hMz10
          refine z_aload_nr dX8_read_210 rfl ?_
          refine z_callVv (n2 := 93) (A_X8_takeRules l g Mz10 (hnc)) cb_X8_takeRules cl_X8_285 (clr0 rfl rfl (by decide) (by decide)) rfl (by decide) ⟨_, rfl, rfl⟩ rfl (by decide) rfl (Nat.le_of_ble_eq_true rfl) rfl dX8_read_211 (fun Mz13 kMz13 hc13 => ?_)
          have htk := hc13
          refine z_iload_n dX8_read_214 rfl ?_
          refine z_iret rfl (by decide) rfl (Nat.sub_self _) dX8_read_215 ?_
          have hD : (rdl (tm M) (M 60 35) 21 0 0 R0) = (0, -1, kz, Rz) := by rw [hun, if_pos (by omega)]
          rw [hD, htk, hMt2]
          refine ⟨?_, ?_, fun b j p q => ?_, Or.inr ⟨rfl, rfl, ?_⟩⟩
          · rw [tkR_r (by omega) (by omega), st_at, if_neg (by decide)]; exact p2z
          · rw [tkR_r (by omega) (by omega), st_same]
          · rw [tkR_r (by omega) (by omega)]; unfold st; rw [if_neg (by omega)]; exact oK1 b j (by omega) (by omega)
          · refine DrP_tr (tkR_rm _) ?_
            have hq : ∀ Mx : FMem, dm (st Mx 60 35 0) = dm Mx := fun Mx => by
              funext c i
              simp [dm, st]
            rw [hq, dm1]
            exact k4
        · exfalso; omega
      · refine z_aload_nr dX8_read_95 rfl ?_
        refine z_callVv (n2 := 93) (A_X8_takeWord l g Mz8 (by omega) (by omega)) cb_X8_takeWord cl_X8_231 (clr0 rfl rfl (by decide) (by decide)) rfl (by decide) ⟨_, rfl, rfl⟩ rfl (by decide) rfl (Nat.le_of_ble_eq_true rfl) rfl dX8_read_96 (fun Mz14 kMz14 hc14 => ?_)
        have tw := hc14
        have wp := word_pre q1 rfl ok1 hl tw
        have hss : sk (tm M) (M 60 35) (s0 (sk (tm M) (M 60 35) xz.2.2)).1.2.2 = (sk (tm M) (M 60 35) xz.2.2) := sk_sk _ _ _
        have tx0 := TW_x q1 rfl ok1 tw
        rw [hss] at tx0
        obtain ⟨y1, y2, y3, y4, y5, y6, y7, y8, y9⟩ := tx0
        have hlt : (sk (tm M) (M 60 35) xz.2.2) < M 60 35 := by omega
        have q2 : Qs (tm M) (M 60 35) (s0 (rn (isL (tm M)) (M 60 35) (sk (tm M) (M 60 35) xz.2.2))) Mz14 := Qs_ok q1 y1 rfl y7 y4 y5
        have ok2 : SOk (M 60 35) (s0 (rn (isL (tm M)) (M 60 35) (sk (tm M) (M 60 35) xz.2.2))) := fun _ => ⟨by show 0 ≤ (rn (isL (tm M)) (M 60 35) (sk (tm M) (M 60 35) xz.2.2)); omega, by show (rn (isL (tm M)) (M 60 35) (sk (tm M) (M 60 35) xz.2.2)) ≤ M 60 35; omega⟩
        have dmw : dm Mz14 = dm M1 := (dm_S y1).trans dm1
        have oK : offK M Mz14 := offK_tr oK1 (offK_S y1)
        have k30w : Mz14 60 30 = Rz 0 11 := by rw [y1 60 30 (by omega)]; exact k30
        obtain ⟨Mw, hMw⟩ : ∃ z, z = Mz14 := ⟨_, rfl⟩
        have q2w : Qs (tm M) (M 60 35) (s0 (rn (isL (tm M)) (M 60 35) (sk (tm M) (M 60 35) xz.2.2))) Mw := by rw [hMw]; exact q2
        have f0w : Mw 60 37 = 0 := by rw [hMw]; exact y4
        have k30v : Mw 60 30 = Rz 0 11 := by rw [hMw]; exact k30w
        have frw : Mw 60 39 = (sk (tm M) (M 60 35) xz.2.2) := by rw [hMw]; exact y6
        refine z_aload_nr dX8_read_99 rfl ?_
        refine z_callVip (n2 := 93) (A_X8_clauseOf l g Mz14 (wp.1) (wp.2.1) (wp.2.2.1) (wp.2.2.2)) cb_X8_clauseOf cl_X8_279 (clr0 rfl rfl (by decide) (by decide)) rfl (by decide) ⟨_, rfl, rfl⟩ rfl (by decide) rfl (Nat.le_of_ble_eq_true rfl) rfl dX8_read_100 (fun x15 bx15 hx15 => ?_)
        have hkd := hx15
        rw [y2, y3, y6] at hkd
        have hkr := kdW_r (tm M) (M 60 35) (sk (tm M) (M 60 35) xz.2.2)
        obtain ⟨kw, hkw⟩ : ∃ z, z = x15 := ⟨_, rfl⟩
        refine z_istore_n (loc2 := [fr 60, fi kz, fi x15]) dX8_read_103 (by decide) rfl ?_
        refine z_aload_nr dX8_read_104 rfl ?_
        refine z_iload_n dX8_read_105 rfl ?_
        refine z_if_lt (tgt := 113) dX8_read_106 (by decide) (fun c16 => ?_) (fun c16 => ?_)
        · refine z_iconst dX8_read_113 ⟨by decide, by decide⟩ ?_
          refine z_iconst dX8_read_114 ⟨by decide, by decide⟩ ?_
          refine z_aload_nr dX8_read_115 rfl ?_
          refine z_geti (kz := 39) fl_X8_212 rfl (by decide) rfl dX8_read_116 (fun x17 hx17 bx17 => ?_)
          obtain ⟨wA0, hwA0⟩ : ∃ z, z = x17 := ⟨_, rfl⟩
          have hwA : wA0 = (sk (tm M) (M 60 35) xz.2.2) := by omega
          have hgA : ((0 : Int) = 1 ∧ (kdW (tm M) (M 60 35) (sk (tm M) (M 60 35) xz.2.2)) ≠ -1) ∨ ((0 : Int) = 0 ∧ (kdW (tm M) (M 60 35) (sk (tm M) (M 60 35) xz.2.2)) = -1) := by omega
          refine z_callVi (n2 := 93) (A_X8_want l g Mz14 0 1 x17 (by omega) (by decide)) cb_X8_want cl_X8_226 (clr0 rfl rfl (by decide) (by decide)) rfl (by decide) ⟨_, rfl, rfl⟩ rfl (by decide) rfl (Nat.le_of_ble_eq_true rfl) rfl dX8_read_119 (fun x18 Mz18 bx18 kMz18 hc18 => ?_)
          have wA := hc18
          refine z_if_eq (tgt := 187) dX8_read_122 (by decide) (fun c19 => ?_) (fun c19 => ?_)
          · refine z_goto (tgt := 81) dX8_read_187 (by decide) ?_
            have hbk : ∃ (f2 : Int) (x2 : PR) (R2 : FMem), RdI M kz f2 x2 Mz18 R2 ∧ (0 ≤ f2 ∧ 0 ≤ (kz : Int) ∧ (kz : Int) ≤ 20) ∧ 2 * (20 - (kz : Int)) + f2 < 2 * (20 - kz) + fz := by
              first
              | (obtain ⟨f2, x2, R2, r1, r2, r3⟩ := rd_clause (M2 := Mz18) (kz := kz) (xz := xz) (by omega) k2 hlt k3 gA gB (by rw [hMw, dmw]; exact k4) (by rw [hMw]; exact oK) h5 pC
                 rw [hkz]
                 exact ⟨f2, x2, R2, r1, by omega, by omega⟩)
              | (have zC : Mz18 = st (st Mw 60 37 4) 60 38 wC0 ∧ 20 ≤ kz := by
                   rcases wC with y | y
                   · exact ⟨by rw [y.2.2.2, mB, hwC0], by omega⟩
                   · exfalso; omega
                 refine ⟨0, (4, (sk (tm M) (M 60 35) xz.2.2), 0), Rz, rd_fault h1 q2w (by rw [hMw]; exact oK) h5 (by decide) zC.1 hwC ?_, by omega, by omega⟩
                 rw [hun, if_neg (by omega), if_neg gA, if_neg gB, if_pos zC.2]
                 exact ⟨rfl, rfl⟩)
              | (have zB : Mz18 = st (st Mw 60 37 3) 60 38 wB0 ∧ ((kdW (tm M) (M 60 35) (sk (tm M) (M 60 35) xz.2.2)) = 4 ∧ 8 ≤ Rz 0 11) := by
                   rcases wB with y | y
                   · exact ⟨by rw [y.2.2.2, mA, hwB0], by omega⟩
                   · exfalso; omega
                 refine ⟨0, (3, (sk (tm M) (M 60 35) xz.2.2), 0), Rz, rd_fault h1 q2w (by rw [hMw]; exact oK) h5 (by decide) zB.1 hwB ?_, by omega, by omega⟩
                 rw [hun, if_neg (by omega), if_neg gA, if_pos zB.2]
                 exact ⟨rfl, rfl⟩)
              | (have zA : Mz18 = st (st Mw 60 37 1) 60 38 wA0 ∧ (kdW (tm M) (M 60 35) (sk (tm M) (M 60 35) xz.2.2)) = -1 := by
                   rcases wA with y | y
                   · exact ⟨by rw [y.2.2.2, hMw, hwA0], by omega⟩
                   · exfalso; omega
                 refine ⟨0, (1, (sk (tm M) (M 60 35) xz.2.2), 0), Rz, rd_fault h1 q2w (by rw [hMw]; exact oK) h5 (by decide) zA.1 hwA ?_, by omega, by omega⟩
                 rw [hun, if_neg (by omega), if_pos zA.2]
                 exact ⟨rfl, rfl⟩)
            obtain ⟨f2, x2, R2, r1, r2, r3⟩ := hbk
            refine z_few [fr 60, fi kz, fu] (by simp [fle, kn]) ?_
            exact ih81 _ (by omega) kz f2 x2 Mz18 R2 rfl (r1)
          · have mA : Mz18 = Mw := by
              rcases wA with y | y
              · exfalso; omega
              · rw [y.2.1]; exact hMw.symm
            have gA : (kdW (tm M) (M 60 35) (sk (tm M) (M 60 35) xz.2.2)) ≠ -1 := by
              rcases wA with y | y
              · exfalso; omega
              · omega
            have k30A : Mz18 60 30 = Rz 0 11 := by rw [mA]; exact k30v
            have frA : Mz18 60 39 = (sk (tm M) (M 60 35) xz.2.2) := by rw [mA]; exact frw
            have f0A : Mz18 60 37 = 0 := by rw [mA]; exact f0w
            refine z_aload_nr dX8_read_125 rfl ?_
            refine z_iload_n dX8_read_126 rfl ?_
            refine z_iconst dX8_read_127 ⟨by decide, by decide⟩ ?_
            refine z_icmp_lt (tgt := 140) dX8_read_128 (by decide) (fun c20 => ?_) (fun c20 => ?_)
            · refine z_iconst dX8_read_140 ⟨by decide, by decide⟩ ?_
              refine z_goto (tgt := 145) dX8_read_141 (by decide) ?_
              refine z_iconst dX8_read_145 ⟨by decide, by decide⟩ ?_
              refine z_aload_nr dX8_read_146 rfl ?_
              refine z_geti (kz := 39) fl_X8_212 rfl (by decide) rfl dX8_read_147 (fun x21 hx21 bx21 => ?_)
              obtain ⟨wB0, hwB0⟩ : ∃ z, z = x21 := ⟨_, rfl⟩
              have hwB : wB0 = (sk (tm M) (M 60 35) xz.2.2) := by omega
              have hgB : ((1 : Int) = 1 ∧ ¬ ((kdW (tm M) (M 60 35) (sk (tm M) (M 60 35) xz.2.2)) = 4 ∧ 8 ≤ Rz 0 11)) ∨ ((1 : Int) = 0 ∧ ((kdW (tm M) (M 60 35) (sk (tm M) (M 60 35) xz.2.2)) = 4 ∧ 8 ≤ Rz 0 11)) := by omega
              refine z_callVi (n2 := 93) (A_X8_want l g Mz18 1 3 x21 (by omega) (by decide)) cb_X8_want cl_X8_226 (clr0 rfl rfl (by decide) (by decide)) rfl (by decide) ⟨_, rfl, rfl⟩ rfl (by decide) rfl (Nat.le_of_ble_eq_true rfl) rfl dX8_read_150 (fun x22 Mz22 bx22 kMz22 hc22 => ?_)
              have wB := hc22
              refine z_if_eq (tgt := 187) dX8_read_153 (by decide) (fun c23 => ?_) (fun c23 => ?_)
              · refine z_goto (tgt := 81) dX8_read_187 (by decide) ?_
                have hbk : ∃ (f2 : Int) (x2 : PR) (R2 : FMem), RdI M kz f2 x2 Mz22 R2 ∧ (0 ≤ f2 ∧ 0 ≤ (kz : Int) ∧ (kz : Int) ≤ 20) ∧ 2 * (20 - (kz : Int)) + f2 < 2 * (20 - kz) + fz := by
                  first
                  | (obtain ⟨f2, x2, R2, r1, r2, r3⟩ := rd_clause (M2 := Mz22) (kz := kz) (xz := xz) (by omega) k2 hlt k3 gA gB (by rw [hMw, dmw]; exact k4) (by rw [hMw]; exact oK) h5 pC
                     rw [hkz]
                     exact ⟨f2, x2, R2, r1, by omega, by omega⟩)
                  | (have zC : Mz22 = st (st Mw 60 37 4) 60 38 wC0 ∧ 20 ≤ kz := by
                       rcases wC with y | y
                       · exact ⟨by rw [y.2.2.2, mB, hwC0], by omega⟩
                       · exfalso; omega
                     refine ⟨0, (4, (sk (tm M) (M 60 35) xz.2.2), 0), Rz, rd_fault h1 q2w (by rw [hMw]; exact oK) h5 (by decide) zC.1 hwC ?_, by omega, by omega⟩
                     rw [hun, if_neg (by omega), if_neg gA, if_neg gB, if_pos zC.2]
                     exact ⟨rfl, rfl⟩)
                  | (have zB : Mz22 = st (st Mw 60 37 3) 60 38 wB0 ∧ ((kdW (tm M) (M 60 35) (sk (tm M) (M 60 35) xz.2.2)) = 4 ∧ 8 ≤ Rz 0 11) := by
                       rcases wB with y | y
                       · exact ⟨by rw [y.2.2.2, mA, hwB0], by omega⟩
                       · exfalso; omega
                     refine ⟨0, (3, (sk (tm M) (M 60 35) xz.2.2), 0), Rz, rd_fault h1 q2w (by rw [hMw]; exact oK) h5 (by decide) zB.1 hwB ?_, by omega, by omega⟩
                     rw [hun, if_neg (by omega), if_neg gA, if_pos zB.2]
                     exact ⟨rfl, rfl⟩)
                  | (have zA : Mz22 = st (st Mw 60 37 1) 60 38 wA0 ∧ (kdW (tm M) (M 60 35) (sk (tm M) (M 60 35) xz.2.2)) = -1 := by
                       rcases wA with y | y
                       · exact ⟨by rw [y.2.2.2, hMw, hwA0], by omega⟩
                       · exfalso; omega
                     refine ⟨0, (1, (sk (tm M) (M 60 35) xz.2.2), 0), Rz, rd_fault h1 q2w (by rw [hMw]; exact oK) h5 (by decide) zA.1 hwA ?_, by omega, by omega⟩
                     rw [hun, if_neg (by omega), if_pos zA.2]
                     exact ⟨rfl, rfl⟩)
                obtain ⟨f2, x2, R2, r1, r2, r3⟩ := hbk
                refine z_few [fr 60, fi kz, fu] (by simp [fle, kn]) ?_
                exact ih81 _ (by omega) kz f2 x2 Mz22 R2 rfl (r1)
              · have mB : Mz22 = Mw := by
                  rcases wB with y | y
                  · exfalso; omega
                  · rw [y.2.1]; exact mA
                have gB : ¬ ((kdW (tm M) (M 60 35) (sk (tm M) (M 60 35) xz.2.2)) = 4 ∧ 8 ≤ Rz 0 11) := by
                  rcases wB with y | y
                  · exfalso; omega
                  · omega
                have frB : Mz22 60 39 = (sk (tm M) (M 60 35) xz.2.2) := by rw [mB]; exact frw
                have f0B : Mz22 60 37 = 0 := by rw [mB]; exact f0w
                refine z_aload_nr dX8_read_156 rfl ?_
                refine z_iload_n dX8_read_157 rfl ?_
                refine z_bipush dX8_read_158 ⟨by decide, by decide⟩ (by decide) ?_
                refine z_icmp_ge (tgt := 167) dX8_read_160 (by decide) (fun c24 => ?_) (fun c24 => ?_)
                · refine z_iconst dX8_read_167 ⟨by decide, by decide⟩ ?_
                  refine z_iconst dX8_read_168 ⟨by decide, by decide⟩ ?_
                  refine z_aload_nr dX8_read_169 rfl ?_
                  refine z_geti (kz := 39) fl_X8_212 rfl (by decide) rfl dX8_read_170 (fun x25 hx25 bx25 => ?_)
                  obtain ⟨wC0, hwC0⟩ : ∃ z, z = x25 := ⟨_, rfl⟩
                  have hwC : wC0 = (sk (tm M) (M 60 35) xz.2.2) := by omega
                  have hgC : ((0 : Int) = 1 ∧ kz < 20) ∨ ((0 : Int) = 0 ∧ 20 ≤ kz) := by omega
                  refine z_callVi (n2 := 93) (A_X8_want l g Mz22 0 4 x25 (by omega) (by decide)) cb_X8_want cl_X8_226 (clr0 rfl rfl (by decide) (by decide)) rfl (by decide) ⟨_, rfl, rfl⟩ rfl (by decide) rfl (Nat.le_of_ble_eq_true rfl) rfl dX8_read_173 (fun x26 Mz26 bx26 kMz26 hc26 => ?_)
                  have wC := hc26
                  refine z_if_eq (tgt := 187) dX8_read_176 (by decide) (fun c27 => ?_) (fun c27 => ?_)
                  · refine z_goto (tgt := 81) dX8_read_187 (by decide) ?_
                    have hbk : ∃ (f2 : Int) (x2 : PR) (R2 : FMem), RdI M kz f2 x2 Mz26 R2 ∧ (0 ≤ f2 ∧ 0 ≤ (kz : Int) ∧ (kz : Int) ≤ 20) ∧ 2 * (20 - (kz : Int)) + f2 < 2 * (20 - kz) + fz := by
                      first
                      | (obtain ⟨f2, x2, R2, r1, r2, r3⟩ := rd_clause (M2 := Mz26) (kz := kz) (xz := xz) (by omega) k2 hlt k3 gA gB (by rw [hMw, dmw]; exact k4) (by rw [hMw]; exact oK) h5 pC
                         rw [hkz]
                         exact ⟨f2, x2, R2, r1, by omega, by omega⟩)
                      | (have zC : Mz26 = st (st Mw 60 37 4) 60 38 wC0 ∧ 20 ≤ kz := by
                           rcases wC with y | y
                           · exact ⟨by rw [y.2.2.2, mB, hwC0], by omega⟩
                           · exfalso; omega
                         refine ⟨0, (4, (sk (tm M) (M 60 35) xz.2.2), 0), Rz, rd_fault h1 q2w (by rw [hMw]; exact oK) h5 (by decide) zC.1 hwC ?_, by omega, by omega⟩
                         rw [hun, if_neg (by omega), if_neg gA, if_neg gB, if_pos zC.2]
                         exact ⟨rfl, rfl⟩)
                      | (have zB : Mz26 = st (st Mw 60 37 3) 60 38 wB0 ∧ ((kdW (tm M) (M 60 35) (sk (tm M) (M 60 35) xz.2.2)) = 4 ∧ 8 ≤ Rz 0 11) := by
                           rcases wB with y | y
                           · exact ⟨by rw [y.2.2.2, mA, hwB0], by omega⟩
                           · exfalso; omega
                         refine ⟨0, (3, (sk (tm M) (M 60 35) xz.2.2), 0), Rz, rd_fault h1 q2w (by rw [hMw]; exact oK) h5 (by decide) zB.1 hwB ?_, by omega, by omega⟩
                         rw [hun, if_neg (by omega), if_neg gA, if_pos zB.2]
                         exact ⟨rfl, rfl⟩)
                      | (have zA : Mz26 = st (st Mw 60 37 1) 60 38 wA0 ∧ (kdW (tm M) (M 60 35) (sk (tm M) (M 60 35) xz.2.2)) = -1 := by
                           rcases wA with y | y
                           · exact ⟨by rw [y.2.2.2, hMw, hwA0], by omega⟩
                           · exfalso; omega
                         refine ⟨0, (1, (sk (tm M) (M 60 35) xz.2.2), 0), Rz, rd_fault h1 q2w (by rw [hMw]; exact oK) h5 (by decide) zA.1 hwA ?_, by omega, by omega⟩
                         rw [hun, if_neg (by omega), if_pos zA.2]
                         exact ⟨rfl, rfl⟩)
                    obtain ⟨f2, x2, R2, r1, r2, r3⟩ := hbk
                    refine z_few [fr 60, fi kz, fu] (by simp [fle, kn]) ?_
                    exact ih81 _ (by omega) kz f2 x2 Mz26 R2 rfl (r1)
                  · have mC : Mz26 = Mw := by
                      rcases wC with y | y
                      · exfalso; omega
                      · rw [y.2.1]; exact mB
                    have gC : kz < 20 := by
                      rcases wC with y | y
                      · exfalso; omega
                      · omega
                    refine z_aload_nr dX8_read_179 rfl ?_
                    refine z_iload_n dX8_read_180 rfl ?_
                    refine z_callVv (n2 := 93) (A_X8_readClause l g Mz26 x15 _ _ ((s0 (rn (isL (tm M)) (M 60 35) (sk (tm M) (M 60 35) xz.2.2)))) (by rw [mC]; exact q2w) (ok2) (hl) (by omega) (rfl) (by rw [mC]; omega)) cb_X8_readClause cl_X8_282 (clr0 rfl rfl (by decide) (by decide)) rfl (by decide) ⟨_, rfl, rfl⟩ rfl (by decide) rfl (Nat.le_of_ble_eq_true rfl) rfl dX8_read_181 (fun Mz28 kMz28 hc28 => ?_)
                    have pC := hc28
                    rw [mC, hkd] at pC
                    refine z_iinc (loc2 := fun vq => [fr 60, fi vq, fi x15]) dX8_read_184 rfl (by decide) (by omega) (fun _ => rfl) (fun x29 hx29 => ?_)
                    refine z_goto (tgt := 81) dX8_read_187 (by decide) ?_
                    have hbk : ∃ (f2 : Int) (x2 : PR) (R2 : FMem), RdI M x29 f2 x2 Mz28 R2 ∧ (0 ≤ f2 ∧ 0 ≤ (x29 : Int) ∧ (x29 : Int) ≤ 20) ∧ 2 * (20 - (x29 : Int)) + f2 < 2 * (20 - kz) + fz := by
                      first
                      | (obtain ⟨f2, x2, R2, r1, r2, r3⟩ := rd_clause (M2 := Mz28) (kz := kz) (xz := xz) (by omega) k2 hlt k3 gA gB (by rw [hMw, dmw]; exact k4) (by rw [hMw]; exact oK) h5 pC
                         rw [hx29]
                         exact ⟨f2, x2, R2, r1, by omega, by omega⟩)
                      | (have zC : Mz28 = st (st Mw 60 37 4) 60 38 wC0 ∧ 20 ≤ kz := by
                           rcases wC with y | y
                           · exact ⟨by rw [y.2.2.2, mB, hwC0], by omega⟩
                           · exfalso; omega
                         refine ⟨0, (4, (sk (tm M) (M 60 35) xz.2.2), 0), Rz, rd_fault h1 q2w (by rw [hMw]; exact oK) h5 (by decide) zC.1 hwC ?_, by omega, by omega⟩
                         rw [hun, if_neg (by omega), if_neg gA, if_neg gB, if_pos zC.2]
                         exact ⟨rfl, rfl⟩)
                      | (have zB : Mz28 = st (st Mw 60 37 3) 60 38 wB0 ∧ ((kdW (tm M) (M 60 35) (sk (tm M) (M 60 35) xz.2.2)) = 4 ∧ 8 ≤ Rz 0 11) := by
                           rcases wB with y | y
                           · exact ⟨by rw [y.2.2.2, mA, hwB0], by omega⟩
                           · exfalso; omega
                         refine ⟨0, (3, (sk (tm M) (M 60 35) xz.2.2), 0), Rz, rd_fault h1 q2w (by rw [hMw]; exact oK) h5 (by decide) zB.1 hwB ?_, by omega, by omega⟩
                         rw [hun, if_neg (by omega), if_neg gA, if_pos zB.2]
                         exact ⟨rfl, rfl⟩)
                      | (have zA : Mz28 = st (st Mw 60 37 1) 60 38 wA0 ∧ (kdW (tm M) (M 60 35) (sk (tm M) (M 60 35) xz.2.2)) = -1 := by
                           rcases wA with y | y
                           · exact ⟨by rw [y.2.2.2, hMw, hwA0], by omega⟩
                           · exfalso; omega
                         refine ⟨0, (1, (sk (tm M) (M 60 35) xz.2.2), 0), Rz, rd_fault h1 q2w (by rw [hMw]; exact oK) h5 (by decide) zA.1 hwA ?_, by omega, by omega⟩
                         rw [hun, if_neg (by omega), if_pos zA.2]
                         exact ⟨rfl, rfl⟩)
                    obtain ⟨f2, x2, R2, r1, r2, r3⟩ := hbk
                    refine z_few [fr 60, fi x29, fu] (by simp [fle, kn]) ?_
                    exact ih81 _ (by omega) x29 f2 x2 Mz28 R2 rfl (r1)
                · refine z_iconst dX8_read_163 ⟨by decide, by decide⟩ ?_
                  refine z_goto (tgt := 168) dX8_read_164 (by decide) ?_
                  refine z_iconst dX8_read_168 ⟨by decide, by decide⟩ ?_
                  refine z_aload_nr dX8_read_169 rfl ?_
                  refine z_geti (kz := 39) fl_X8_212 rfl (by decide) rfl dX8_read_170 (fun x30 hx30 bx30 => ?_)
                  obtain ⟨wC0, hwC0⟩ : ∃ z, z = x30 := ⟨_, rfl⟩
                  have hwC : wC0 = (sk (tm M) (M 60 35) xz.2.2) := by omega
                  have hgC : ((1 : Int) = 1 ∧ kz < 20) ∨ ((1 : Int) = 0 ∧ 20 ≤ kz) := by omega
                  refine z_callVi (n2 := 93) (A_X8_want l g Mz22 1 4 x30 (by omega) (by decide)) cb_X8_want cl_X8_226 (clr0 rfl rfl (by decide) (by decide)) rfl (by decide) ⟨_, rfl, rfl⟩ rfl (by decide) rfl (Nat.le_of_ble_eq_true rfl) rfl dX8_read_173 (fun x31 Mz31 bx31 kMz31 hc31 => ?_)
                  have wC := hc31
                  refine z_if_eq (tgt := 187) dX8_read_176 (by decide) (fun c32 => ?_) (fun c32 => ?_)
                  · refine z_goto (tgt := 81) dX8_read_187 (by decide) ?_
                    have hbk : ∃ (f2 : Int) (x2 : PR) (R2 : FMem), RdI M kz f2 x2 Mz31 R2 ∧ (0 ≤ f2 ∧ 0 ≤ (kz : Int) ∧ (kz : Int) ≤ 20) ∧ 2 * (20 - (kz : Int)) + f2 < 2 * (20 - kz) + fz := by
                      first
                      | (obtain ⟨f2, x2, R2, r1, r2, r3⟩ := rd_clause (M2 := Mz31) (kz := kz) (xz := xz) (by omega) k2 hlt k3 gA gB (by rw [hMw, dmw]; exact k4) (by rw [hMw]; exact oK) h5 pC
                         rw [hkz]
                         exact ⟨f2, x2, R2, r1, by omega, by omega⟩)
                      | (have zC : Mz31 = st (st Mw 60 37 4) 60 38 wC0 ∧ 20 ≤ kz := by
                           rcases wC with y | y
                           · exact ⟨by rw [y.2.2.2, mB, hwC0], by omega⟩
                           · exfalso; omega
                         refine ⟨0, (4, (sk (tm M) (M 60 35) xz.2.2), 0), Rz, rd_fault h1 q2w (by rw [hMw]; exact oK) h5 (by decide) zC.1 hwC ?_, by omega, by omega⟩
                         rw [hun, if_neg (by omega), if_neg gA, if_neg gB, if_pos zC.2]
                         exact ⟨rfl, rfl⟩)
                      | (have zB : Mz31 = st (st Mw 60 37 3) 60 38 wB0 ∧ ((kdW (tm M) (M 60 35) (sk (tm M) (M 60 35) xz.2.2)) = 4 ∧ 8 ≤ Rz 0 11) := by
                           rcases wB with y | y
                           · exact ⟨by rw [y.2.2.2, mA, hwB0], by omega⟩
                           · exfalso; omega
                         refine ⟨0, (3, (sk (tm M) (M 60 35) xz.2.2), 0), Rz, rd_fault h1 q2w (by rw [hMw]; exact oK) h5 (by decide) zB.1 hwB ?_, by omega, by omega⟩
                         rw [hun, if_neg (by omega), if_neg gA, if_pos zB.2]
                         exact ⟨rfl, rfl⟩)
                      | (have zA : Mz31 = st (st Mw 60 37 1) 60 38 wA0 ∧ (kdW (tm M) (M 60 35) (sk (tm M) (M 60 35) xz.2.2)) = -1 := by
                           rcases wA with y | y
                           · exact ⟨by rw [y.2.2.2, hMw, hwA0], by omega⟩
                           · exfalso; omega
                         refine ⟨0, (1, (sk (tm M) (M 60 35) xz.2.2), 0), Rz, rd_fault h1 q2w (by rw [hMw]; exact oK) h5 (by decide) zA.1 hwA ?_, by omega, by omega⟩
                         rw [hun, if_neg (by omega), if_pos zA.2]
                         exact ⟨rfl, rfl⟩)
                    obtain ⟨f2, x2, R2, r1, r2, r3⟩ := hbk
                    refine z_few [fr 60, fi kz, fu] (by simp [fle, kn]) ?_
                    exact ih81 _ (by omega) kz f2 x2 Mz31 R2 rfl (r1)
                  · have mC : Mz31 = Mw := by
                      rcases wC with y | y
                      · exfalso; omega
                      · rw [y.2.1]; exact mB
                    have gC : kz < 20 := by
                      rcases wC with y | y
                      · exfalso; omega
                      · omega
                    refine z_aload_nr dX8_read_179 rfl ?_
                    refine z_iload_n dX8_read_180 rfl ?_
                    refine z_callVv (n2 := 93) (A_X8_readClause l g Mz31 x15 _ _ ((s0 (rn (isL (tm M)) (M 60 35) (sk (tm M) (M 60 35) xz.2.2)))) (by rw [mC]; exact q2w) (ok2) (hl) (by omega) (rfl) (by rw [mC]; omega)) cb_X8_readClause cl_X8_282 (clr0 rfl rfl (by decide) (by decide)) rfl (by decide) ⟨_, rfl, rfl⟩ rfl (by decide) rfl (Nat.le_of_ble_eq_true rfl) rfl dX8_read_181 (fun Mz33 kMz33 hc33 => ?_)
                    have pC := hc33
                    rw [mC, hkd] at pC
                    refine z_iinc (loc2 := fun vq => [fr 60, fi vq, fi x15]) dX8_read_184 rfl (by decide) (by omega) (fun _ => rfl) (fun x34 hx34 => ?_)
                    refine z_goto (tgt := 81) dX8_read_187 (by decide) ?_
                    have hbk : ∃ (f2 : Int) (x2 : PR) (R2 : FMem), RdI M x34 f2 x2 Mz33 R2 ∧ (0 ≤ f2 ∧ 0 ≤ (x34 : Int) ∧ (x34 : Int) ≤ 20) ∧ 2 * (20 - (x34 : Int)) + f2 < 2 * (20 - kz) + fz := by
                      first
                      | (obtain ⟨f2, x2, R2, r1, r2, r3⟩ := rd_clause (M2 := Mz33) (kz := kz) (xz := xz) (by omega) k2 hlt k3 gA gB (by rw [hMw, dmw]; exact k4) (by rw [hMw]; exact oK) h5 pC
                         rw [hx34]
                         exact ⟨f2, x2, R2, r1, by omega, by omega⟩)
                      | (have zC : Mz33 = st (st Mw 60 37 4) 60 38 wC0 ∧ 20 ≤ kz := by
                           rcases wC with y | y
                           · exact ⟨by rw [y.2.2.2, mB, hwC0], by omega⟩
                           · exfalso; omega
                         refine ⟨0, (4, (sk (tm M) (M 60 35) xz.2.2), 0), Rz, rd_fault h1 q2w (by rw [hMw]; exact oK) h5 (by decide) zC.1 hwC ?_, by omega, by omega⟩
                         rw [hun, if_neg (by omega), if_neg gA, if_neg gB, if_pos zC.2]
                         exact ⟨rfl, rfl⟩)
                      | (have zB : Mz33 = st (st Mw 60 37 3) 60 38 wB0 ∧ ((kdW (tm M) (M 60 35) (sk (tm M) (M 60 35) xz.2.2)) = 4 ∧ 8 ≤ Rz 0 11) := by
                           rcases wB with y | y
                           · exact ⟨by rw [y.2.2.2, mA, hwB0], by omega⟩
                           · exfalso; omega
                         refine ⟨0, (3, (sk (tm M) (M 60 35) xz.2.2), 0), Rz, rd_fault h1 q2w (by rw [hMw]; exact oK) h5 (by decide) zB.1 hwB ?_, by omega, by omega⟩
                         rw [hun, if_neg (by omega), if_neg gA, if_pos zB.2]
                         exact ⟨rfl, rfl⟩)
                      | (have zA : Mz33 = st (st Mw 60 37 1) 60 38 wA0 ∧ (kdW (tm M) (M 60 35) (sk (tm M) (M 60 35) xz.2.2)) = -1 := by
                           rcases wA with y | y
                           · exact ⟨by rw [y.2.2.2, hMw, hwA0], by omega⟩
                           · exfalso; omega
                         refine ⟨0, (1, (sk (tm M) (M 60 35) xz.2.2), 0), Rz, rd_fault h1 q2w (by rw [hMw]; exact oK) h5 (by decide) zA.1 hwA ?_, by omega, by omega⟩
                         rw [hun, if_neg (by omega), if_pos zA.2]
                         exact ⟨rfl, rfl⟩)
                    obtain ⟨f2, x2, R2, r1, r2, r3⟩ := hbk
                    refine z_few [fr 60, fi x34, fu] (by simp [fle, kn]) ?_
                    exact ih81 _ (by omega) x34 f2 x2 Mz33 R2 rfl (r1)
            · refine z_aload_nr dX8_read_131 rfl ?_
              refine z_geti (kz := 30) fl_X8_252 rfl (by decide) rfl dX8_read_132 (fun x35 hx35 bx35 => ?_)
              refine z_bipush dX8_read_135 ⟨by decide, by decide⟩ (by decide) ?_
              refine z_icmp_ge (tgt := 144) dX8_read_137 (by decide) (fun c36 => ?_) (fun c36 => ?_)
              · refine z_iconst dX8_read_144 ⟨by decide, by decide⟩ ?_
                refine z_iconst dX8_read_145 ⟨by decide, by decide⟩ ?_
                refine z_aload_nr dX8_read_146 rfl ?_
                refine z_geti (kz := 39) fl_X8_212 rfl (by decide) rfl dX8_read_147 (fun x37 hx37 bx37 => ?_)
                obtain ⟨wB0, hwB0⟩ : ∃ z, z = x37 := ⟨_, rfl⟩
                have hwB : wB0 = (sk (tm M) (M 60 35) xz.2.2) := by omega
                have hgB : ((0 : Int) = 1 ∧ ¬ ((kdW (tm M) (M 60 35) (sk (tm M) (M 60 35) xz.2.2)) = 4 ∧ 8 ≤ Rz 0 11)) ∨ ((0 : Int) = 0 ∧ ((kdW (tm M) (M 60 35) (sk (tm M) (M 60 35) xz.2.2)) = 4 ∧ 8 ≤ Rz 0 11)) := by omega
                refine z_callVi (n2 := 93) (A_X8_want l g Mz18 0 3 x37 (by omega) (by decide)) cb_X8_want cl_X8_226 (clr0 rfl rfl (by decide) (by decide)) rfl (by decide) ⟨_, rfl, rfl⟩ rfl (by decide) rfl (Nat.le_of_ble_eq_true rfl) rfl dX8_read_150 (fun x38 Mz38 bx38 kMz38 hc38 => ?_)
                have wB := hc38
                refine z_if_eq (tgt := 187) dX8_read_153 (by decide) (fun c39 => ?_) (fun c39 => ?_)
                · refine z_goto (tgt := 81) dX8_read_187 (by decide) ?_
                  have hbk : ∃ (f2 : Int) (x2 : PR) (R2 : FMem), RdI M kz f2 x2 Mz38 R2 ∧ (0 ≤ f2 ∧ 0 ≤ (kz : Int) ∧ (kz : Int) ≤ 20) ∧ 2 * (20 - (kz : Int)) + f2 < 2 * (20 - kz) + fz := by
                    first
                    | (obtain ⟨f2, x2, R2, r1, r2, r3⟩ := rd_clause (M2 := Mz38) (kz := kz) (xz := xz) (by omega) k2 hlt k3 gA gB (by rw [hMw, dmw]; exact k4) (by rw [hMw]; exact oK) h5 pC
                       rw [hkz]
                       exact ⟨f2, x2, R2, r1, by omega, by omega⟩)
                    | (have zC : Mz38 = st (st Mw 60 37 4) 60 38 wC0 ∧ 20 ≤ kz := by
                         rcases wC with y | y
                         · exact ⟨by rw [y.2.2.2, mB, hwC0], by omega⟩
                         · exfalso; omega
                       refine ⟨0, (4, (sk (tm M) (M 60 35) xz.2.2), 0), Rz, rd_fault h1 q2w (by rw [hMw]; exact oK) h5 (by decide) zC.1 hwC ?_, by omega, by omega⟩
                       rw [hun, if_neg (by omega), if_neg gA, if_neg gB, if_pos zC.2]
                       exact ⟨rfl, rfl⟩)
                    | (have zB : Mz38 = st (st Mw 60 37 3) 60 38 wB0 ∧ ((kdW (tm M) (M 60 35) (sk (tm M) (M 60 35) xz.2.2)) = 4 ∧ 8 ≤ Rz 0 11) := by
                         rcases wB with y | y
                         · exact ⟨by rw [y.2.2.2, mA, hwB0], by omega⟩
                         · exfalso; omega
                       refine ⟨0, (3, (sk (tm M) (M 60 35) xz.2.2), 0), Rz, rd_fault h1 q2w (by rw [hMw]; exact oK) h5 (by decide) zB.1 hwB ?_, by omega, by omega⟩
                       rw [hun, if_neg (by omega), if_neg gA, if_pos zB.2]
                       exact ⟨rfl, rfl⟩)
                    | (have zA : Mz38 = st (st Mw 60 37 1) 60 38 wA0 ∧ (kdW (tm M) (M 60 35) (sk (tm M) (M 60 35) xz.2.2)) = -1 := by
                         rcases wA with y | y
                         · exact ⟨by rw [y.2.2.2, hMw, hwA0], by omega⟩
                         · exfalso; omega
                       refine ⟨0, (1, (sk (tm M) (M 60 35) xz.2.2), 0), Rz, rd_fault h1 q2w (by rw [hMw]; exact oK) h5 (by decide) zA.1 hwA ?_, by omega, by omega⟩
                       rw [hun, if_neg (by omega), if_pos zA.2]
                       exact ⟨rfl, rfl⟩)
                  obtain ⟨f2, x2, R2, r1, r2, r3⟩ := hbk
                  refine z_few [fr 60, fi kz, fu] (by simp [fle, kn]) ?_
                  exact ih81 _ (by omega) kz f2 x2 Mz38 R2 rfl (r1)
                · have mB : Mz38 = Mw := by
                    rcases wB with y | y
                    · exfalso; omega
                    · rw [y.2.1]; exact mA
                  have gB : ¬ ((kdW (tm M) (M 60 35) (sk (tm M) (M 60 35) xz.2.2)) = 4 ∧ 8 ≤ Rz 0 11) := by
                    rcases wB with y | y
                    · exfalso; omega
                    · omega
                  have frB : Mz38 60 39 = (sk (tm M) (M 60 35) xz.2.2) := by rw [mB]; exact frw
                  have f0B : Mz38 60 37 = 0 := by rw [mB]; exact f0w
                  refine z_aload_nr dX8_read_156 rfl ?_
                  refine z_iload_n dX8_read_157 rfl ?_
                  refine z_bipush dX8_read_158 ⟨by decide, by decide⟩ (by decide) ?_
                  refine z_icmp_ge (tgt := 167) dX8_read_160 (by decide) (fun c40 => ?_) (fun c40 => ?_)
                  · refine z_iconst dX8_read_167 ⟨by decide, by decide⟩ ?_
                    refine z_iconst dX8_read_168 ⟨by decide, by decide⟩ ?_
                    refine z_aload_nr dX8_read_169 rfl ?_
                    refine z_geti (kz := 39) fl_X8_212 rfl (by decide) rfl dX8_read_170 (fun x41 hx41 bx41 => ?_)
                    obtain ⟨wC0, hwC0⟩ : ∃ z, z = x41 := ⟨_, rfl⟩
                    have hwC : wC0 = (sk (tm M) (M 60 35) xz.2.2) := by omega
                    have hgC : ((0 : Int) = 1 ∧ kz < 20) ∨ ((0 : Int) = 0 ∧ 20 ≤ kz) := by omega
                    refine z_callVi (n2 := 93) (A_X8_want l g Mz38 0 4 x41 (by omega) (by decide)) cb_X8_want cl_X8_226 (clr0 rfl rfl (by decide) (by decide)) rfl (by decide) ⟨_, rfl, rfl⟩ rfl (by decide) rfl (Nat.le_of_ble_eq_true rfl) rfl dX8_read_173 (fun x42 Mz42 bx42 kMz42 hc42 => ?_)
                    have wC := hc42
                    refine z_if_eq (tgt := 187) dX8_read_176 (by decide) (fun c43 => ?_) (fun c43 => ?_)
                    · refine z_goto (tgt := 81) dX8_read_187 (by decide) ?_
                      have hbk : ∃ (f2 : Int) (x2 : PR) (R2 : FMem), RdI M kz f2 x2 Mz42 R2 ∧ (0 ≤ f2 ∧ 0 ≤ (kz : Int) ∧ (kz : Int) ≤ 20) ∧ 2 * (20 - (kz : Int)) + f2 < 2 * (20 - kz) + fz := by
                        first
                        | (obtain ⟨f2, x2, R2, r1, r2, r3⟩ := rd_clause (M2 := Mz42) (kz := kz) (xz := xz) (by omega) k2 hlt k3 gA gB (by rw [hMw, dmw]; exact k4) (by rw [hMw]; exact oK) h5 pC
                           rw [hkz]
                           exact ⟨f2, x2, R2, r1, by omega, by omega⟩)
                        | (have zC : Mz42 = st (st Mw 60 37 4) 60 38 wC0 ∧ 20 ≤ kz := by
                             rcases wC with y | y
                             · exact ⟨by rw [y.2.2.2, mB, hwC0], by omega⟩
                             · exfalso; omega
                           refine ⟨0, (4, (sk (tm M) (M 60 35) xz.2.2), 0), Rz, rd_fault h1 q2w (by rw [hMw]; exact oK) h5 (by decide) zC.1 hwC ?_, by omega, by omega⟩
                           rw [hun, if_neg (by omega), if_neg gA, if_neg gB, if_pos zC.2]
                           exact ⟨rfl, rfl⟩)
                        | (have zB : Mz42 = st (st Mw 60 37 3) 60 38 wB0 ∧ ((kdW (tm M) (M 60 35) (sk (tm M) (M 60 35) xz.2.2)) = 4 ∧ 8 ≤ Rz 0 11) := by
                             rcases wB with y | y
                             · exact ⟨by rw [y.2.2.2, mA, hwB0], by omega⟩
                             · exfalso; omega
                           refine ⟨0, (3, (sk (tm M) (M 60 35) xz.2.2), 0), Rz, rd_fault h1 q2w (by rw [hMw]; exact oK) h5 (by decide) zB.1 hwB ?_, by omega, by omega⟩
                           rw [hun, if_neg (by omega), if_neg gA, if_pos zB.2]
                           exact ⟨rfl, rfl⟩)
                        | (have zA : Mz42 = st (st Mw 60 37 1) 60 38 wA0 ∧ (kdW (tm M) (M 60 35) (sk (tm M) (M 60 35) xz.2.2)) = -1 := by
                             rcases wA with y | y
                             · exact ⟨by rw [y.2.2.2, hMw, hwA0], by omega⟩
                             · exfalso; omega
                           refine ⟨0, (1, (sk (tm M) (M 60 35) xz.2.2), 0), Rz, rd_fault h1 q2w (by rw [hMw]; exact oK) h5 (by decide) zA.1 hwA ?_, by omega, by omega⟩
                           rw [hun, if_neg (by omega), if_pos zA.2]
                           exact ⟨rfl, rfl⟩)
                      obtain ⟨f2, x2, R2, r1, r2, r3⟩ := hbk
                      refine z_few [fr 60, fi kz, fu] (by simp [fle, kn]) ?_
                      exact ih81 _ (by omega) kz f2 x2 Mz42 R2 rfl (r1)
                    · have mC : Mz42 = Mw := by
                        rcases wC with y | y
                        · exfalso; omega
                        · rw [y.2.1]; exact mB
                      have gC : kz < 20 := by
                        rcases wC with y | y
                        · exfalso; omega
                        · omega
                      refine z_aload_nr dX8_read_179 rfl ?_
                      refine z_iload_n dX8_read_180 rfl ?_
                      refine z_callVv (n2 := 93) (A_X8_readClause l g Mz42 x15 _ _ ((s0 (rn (isL (tm M)) (M 60 35) (sk (tm M) (M 60 35) xz.2.2)))) (by rw [mC]; exact q2w) (ok2) (hl) (by omega) (rfl) (by rw [mC]; omega)) cb_X8_readClause cl_X8_282 (clr0 rfl rfl (by decide) (by decide)) rfl (by decide) ⟨_, rfl, rfl⟩ rfl (by decide) rfl (Nat.le_of_ble_eq_true rfl) rfl dX8_read_181 (fun Mz44 kMz44 hc44 => ?_)
                      have pC := hc44
                      rw [mC, hkd] at pC
                      refine z_iinc (loc2 := fun vq => [fr 60, fi vq, fi x15]) dX8_read_184 rfl (by decide) (by omega) (fun _ => rfl) (fun x45 hx45 => ?_)
                      refine z_goto (tgt := 81) dX8_read_187 (by decide) ?_
                      have hbk : ∃ (f2 : Int) (x2 : PR) (R2 : FMem), RdI M x45 f2 x2 Mz44 R2 ∧ (0 ≤ f2 ∧ 0 ≤ (x45 : Int) ∧ (x45 : Int) ≤ 20) ∧ 2 * (20 - (x45 : Int)) + f2 < 2 * (20 - kz) + fz := by
                        first
                        | (obtain ⟨f2, x2, R2, r1, r2, r3⟩ := rd_clause (M2 := Mz44) (kz := kz) (xz := xz) (by omega) k2 hlt k3 gA gB (by rw [hMw, dmw]; exact k4) (by rw [hMw]; exact oK) h5 pC
                           rw [hx45]
                           exact ⟨f2, x2, R2, r1, by omega, by omega⟩)
                        | (have zC : Mz44 = st (st Mw 60 37 4) 60 38 wC0 ∧ 20 ≤ kz := by
                             rcases wC with y | y
                             · exact ⟨by rw [y.2.2.2, mB, hwC0], by omega⟩
                             · exfalso; omega
                           refine ⟨0, (4, (sk (tm M) (M 60 35) xz.2.2), 0), Rz, rd_fault h1 q2w (by rw [hMw]; exact oK) h5 (by decide) zC.1 hwC ?_, by omega, by omega⟩
                           rw [hun, if_neg (by omega), if_neg gA, if_neg gB, if_pos zC.2]
                           exact ⟨rfl, rfl⟩)
                        | (have zB : Mz44 = st (st Mw 60 37 3) 60 38 wB0 ∧ ((kdW (tm M) (M 60 35) (sk (tm M) (M 60 35) xz.2.2)) = 4 ∧ 8 ≤ Rz 0 11) := by
                             rcases wB with y | y
                             · exact ⟨by rw [y.2.2.2, mA, hwB0], by omega⟩
                             · exfalso; omega
                           refine ⟨0, (3, (sk (tm M) (M 60 35) xz.2.2), 0), Rz, rd_fault h1 q2w (by rw [hMw]; exact oK) h5 (by decide) zB.1 hwB ?_, by omega, by omega⟩
                           rw [hun, if_neg (by omega), if_neg gA, if_pos zB.2]
                           exact ⟨rfl, rfl⟩)
                        | (have zA : Mz44 = st (st Mw 60 37 1) 60 38 wA0 ∧ (kdW (tm M) (M 60 35) (sk (tm M) (M 60 35) xz.2.2)) = -1 := by
                             rcases wA with y | y
                             · exact ⟨by rw [y.2.2.2, hMw, hwA0], by omega⟩
                             · exfalso; omega
                           refine ⟨0, (1, (sk (tm M) (M 60 35) xz.2.2), 0), Rz, rd_fault h1 q2w (by rw [hMw]; exact oK) h5 (by decide) zA.1 hwA ?_, by omega, by omega⟩
                           rw [hun, if_neg (by omega), if_pos zA.2]
                           exact ⟨rfl, rfl⟩)
                      obtain ⟨f2, x2, R2, r1, r2, r3⟩ := hbk
                      refine z_few [fr 60, fi x45, fu] (by simp [fle, kn]) ?_
                      exact ih81 _ (by omega) x45 f2 x2 Mz44 R2 rfl (r1)
                  · refine z_iconst dX8_read_163 ⟨by decide, by decide⟩ ?_
                    refine z_goto (tgt := 168) dX8_read_164 (by decide) ?_
                    refine z_iconst dX8_read_168 ⟨by decide, by decide⟩ ?_
                    refine z_aload_nr dX8_read_169 rfl ?_
                    refine z_geti (kz := 39) fl_X8_212 rfl (by decide) rfl dX8_read_170 (fun x46 hx46 bx46 => ?_)
                    obtain ⟨wC0, hwC0⟩ : ∃ z, z = x46 := ⟨_, rfl⟩
                    have hwC : wC0 = (sk (tm M) (M 60 35) xz.2.2) := by omega
                    have hgC : ((1 : Int) = 1 ∧ kz < 20) ∨ ((1 : Int) = 0 ∧ 20 ≤ kz) := by omega
                    refine z_callVi (n2 := 93) (A_X8_want l g Mz38 1 4 x46 (by omega) (by decide)) cb_X8_want cl_X8_226 (clr0 rfl rfl (by decide) (by decide)) rfl (by decide) ⟨_, rfl, rfl⟩ rfl (by decide) rfl (Nat.le_of_ble_eq_true rfl) rfl dX8_read_173 (fun x47 Mz47 bx47 kMz47 hc47 => ?_)
                    have wC := hc47
                    refine z_if_eq (tgt := 187) dX8_read_176 (by decide) (fun c48 => ?_) (fun c48 => ?_)
                    · refine z_goto (tgt := 81) dX8_read_187 (by decide) ?_
                      have hbk : ∃ (f2 : Int) (x2 : PR) (R2 : FMem), RdI M kz f2 x2 Mz47 R2 ∧ (0 ≤ f2 ∧ 0 ≤ (kz : Int) ∧ (kz : Int) ≤ 20) ∧ 2 * (20 - (kz : Int)) + f2 < 2 * (20 - kz) + fz := by
                        first
                        | (obtain ⟨f2, x2, R2, r1, r2, r3⟩ := rd_clause (M2 := Mz47) (kz := kz) (xz := xz) (by omega) k2 hlt k3 gA gB (by rw [hMw, dmw]; exact k4) (by rw [hMw]; exact oK) h5 pC
                           rw [hkz]
                           exact ⟨f2, x2, R2, r1, by omega, by omega⟩)
                        | (have zC : Mz47 = st (st Mw 60 37 4) 60 38 wC0 ∧ 20 ≤ kz := by
                             rcases wC with y | y
                             · exact ⟨by rw [y.2.2.2, mB, hwC0], by omega⟩
                             · exfalso; omega
                           refine ⟨0, (4, (sk (tm M) (M 60 35) xz.2.2), 0), Rz, rd_fault h1 q2w (by rw [hMw]; exact oK) h5 (by decide) zC.1 hwC ?_, by omega, by omega⟩
                           rw [hun, if_neg (by omega), if_neg gA, if_neg gB, if_pos zC.2]
                           exact ⟨rfl, rfl⟩)
                        | (have zB : Mz47 = st (st Mw 60 37 3) 60 38 wB0 ∧ ((kdW (tm M) (M 60 35) (sk (tm M) (M 60 35) xz.2.2)) = 4 ∧ 8 ≤ Rz 0 11) := by
                             rcases wB with y | y
                             · exact ⟨by rw [y.2.2.2, mA, hwB0], by omega⟩
                             · exfalso; omega
                           refine ⟨0, (3, (sk (tm M) (M 60 35) xz.2.2), 0), Rz, rd_fault h1 q2w (by rw [hMw]; exact oK) h5 (by decide) zB.1 hwB ?_, by omega, by omega⟩
                           rw [hun, if_neg (by omega), if_neg gA, if_pos zB.2]
                           exact ⟨rfl, rfl⟩)
                        | (have zA : Mz47 = st (st Mw 60 37 1) 60 38 wA0 ∧ (kdW (tm M) (M 60 35) (sk (tm M) (M 60 35) xz.2.2)) = -1 := by
                             rcases wA with y | y
                             · exact ⟨by rw [y.2.2.2, hMw, hwA0], by omega⟩
                             · exfalso; omega
                           refine ⟨0, (1, (sk (tm M) (M 60 35) xz.2.2), 0), Rz, rd_fault h1 q2w (by rw [hMw]; exact oK) h5 (by decide) zA.1 hwA ?_, by omega, by omega⟩
                           rw [hun, if_neg (by omega), if_pos zA.2]
                           exact ⟨rfl, rfl⟩)
                      obtain ⟨f2, x2, R2, r1, r2, r3⟩ := hbk
                      refine z_few [fr 60, fi kz, fu] (by simp [fle, kn]) ?_
                      exact ih81 _ (by omega) kz f2 x2 Mz47 R2 rfl (r1)
                    · have mC : Mz47 = Mw := by
                        rcases wC with y | y
                        · exfalso; omega
                        · rw [y.2.1]; exact mB
                      have gC : kz < 20 := by
                        rcases wC with y | y
                        · exfalso; omega
                        · omega
                      refine z_aload_nr dX8_read_179 rfl ?_
                      refine z_iload_n dX8_read_180 rfl ?_
                      refine z_callVv (n2 := 93) (A_X8_readClause l g Mz47 x15 _ _ ((s0 (rn (isL (tm M)) (M 60 35) (sk (tm M) (M 60 35) xz.2.2)))) (by rw [mC]; exact q2w) (ok2) (hl) (by omega) (rfl) (by rw [mC]; omega)) cb_X8_readClause cl_X8_282 (clr0 rfl rfl (by decide) (by decide)) rfl (by decide) ⟨_, rfl, rfl⟩ rfl (by decide) rfl (Nat.le_of_ble_eq_true rfl) rfl dX8_read_181 (fun Mz49 kMz49 hc49 => ?_)
                      have pC := hc49
                      rw [mC, hkd] at pC
                      refine z_iinc (loc2 := fun vq => [fr 60, fi vq, fi x15]) dX8_read_184 rfl (by decide) (by omega) (fun _ => rfl) (fun x50 hx50 => ?_)
                      refine z_goto (tgt := 81) dX8_read_187 (by decide) ?_
                      have hbk : ∃ (f2 : Int) (x2 : PR) (R2 : FMem), RdI M x50 f2 x2 Mz49 R2 ∧ (0 ≤ f2 ∧ 0 ≤ (x50 : Int) ∧ (x50 : Int) ≤ 20) ∧ 2 * (20 - (x50 : Int)) + f2 < 2 * (20 - kz) + fz := by
                        first
                        | (obtain ⟨f2, x2, R2, r1, r2, r3⟩ := rd_clause (M2 := Mz49) (kz := kz) (xz := xz) (by omega) k2 hlt k3 gA gB (by rw [hMw, dmw]; exact k4) (by rw [hMw]; exact oK) h5 pC
                           rw [hx50]
                           exact ⟨f2, x2, R2, r1, by omega, by omega⟩)
                        | (have zC : Mz49 = st (st Mw 60 37 4) 60 38 wC0 ∧ 20 ≤ kz := by
                             rcases wC with y | y
                             · exact ⟨by rw [y.2.2.2, mB, hwC0], by omega⟩
                             · exfalso; omega
                           refine ⟨0, (4, (sk (tm M) (M 60 35) xz.2.2), 0), Rz, rd_fault h1 q2w (by rw [hMw]; exact oK) h5 (by decide) zC.1 hwC ?_, by omega, by omega⟩
                           rw [hun, if_neg (by omega), if_neg gA, if_neg gB, if_pos zC.2]
                           exact ⟨rfl, rfl⟩)
                        | (have zB : Mz49 = st (st Mw 60 37 3) 60 38 wB0 ∧ ((kdW (tm M) (M 60 35) (sk (tm M) (M 60 35) xz.2.2)) = 4 ∧ 8 ≤ Rz 0 11) := by
                             rcases wB with y | y
                             · exact ⟨by rw [y.2.2.2, mA, hwB0], by omega⟩
                             · exfalso; omega
                           refine ⟨0, (3, (sk (tm M) (M 60 35) xz.2.2), 0), Rz, rd_fault h1 q2w (by rw [hMw]; exact oK) h5 (by decide) zB.1 hwB ?_, by omega, by omega⟩
                           rw [hun, if_neg (by omega), if_neg gA, if_pos zB.2]
                           exact ⟨rfl, rfl⟩)
                        | (have zA : Mz49 = st (st Mw 60 37 1) 60 38 wA0 ∧ (kdW (tm M) (M 60 35) (sk (tm M) (M 60 35) xz.2.2)) = -1 := by
                             rcases wA with y | y
                             · exact ⟨by rw [y.2.2.2, hMw, hwA0], by omega⟩
                             · exfalso; omega
                           refine ⟨0, (1, (sk (tm M) (M 60 35) xz.2.2), 0), Rz, rd_fault h1 q2w (by rw [hMw]; exact oK) h5 (by decide) zA.1 hwA ?_, by omega, by omega⟩
                           rw [hun, if_neg (by omega), if_pos zA.2]
                           exact ⟨rfl, rfl⟩)
                      obtain ⟨f2, x2, R2, r1, r2, r3⟩ := hbk
                      refine z_few [fr 60, fi x50, fu] (by simp [fle, kn]) ?_
                      exact ih81 _ (by omega) x50 f2 x2 Mz49 R2 rfl (r1)
              · refine z_iconst dX8_read_140 ⟨by decide, by decide⟩ ?_
                refine z_goto (tgt := 145) dX8_read_141 (by decide) ?_
                refine z_iconst dX8_read_145 ⟨by decide, by decide⟩ ?_
                refine z_aload_nr dX8_read_146 rfl ?_
                refine z_geti (kz := 39) fl_X8_212 rfl (by decide) rfl dX8_read_147 (fun x51 hx51 bx51 => ?_)
                obtain ⟨wB0, hwB0⟩ : ∃ z, z = x51 := ⟨_, rfl⟩
                have hwB : wB0 = (sk (tm M) (M 60 35) xz.2.2) := by omega
                have hgB : ((1 : Int) = 1 ∧ ¬ ((kdW (tm M) (M 60 35) (sk (tm M) (M 60 35) xz.2.2)) = 4 ∧ 8 ≤ Rz 0 11)) ∨ ((1 : Int) = 0 ∧ ((kdW (tm M) (M 60 35) (sk (tm M) (M 60 35) xz.2.2)) = 4 ∧ 8 ≤ Rz 0 11)) := by omega
                refine z_callVi (n2 := 93) (A_X8_want l g Mz18 1 3 x51 (by omega) (by decide)) cb_X8_want cl_X8_226 (clr0 rfl rfl (by decide) (by decide)) rfl (by decide) ⟨_, rfl, rfl⟩ rfl (by decide) rfl (Nat.le_of_ble_eq_true rfl) rfl dX8_read_150 (fun x52 Mz52 bx52 kMz52 hc52 => ?_)
                have wB := hc52
                refine z_if_eq (tgt := 187) dX8_read_153 (by decide) (fun c53 => ?_) (fun c53 => ?_)
                · refine z_goto (tgt := 81) dX8_read_187 (by decide) ?_
                  have hbk : ∃ (f2 : Int) (x2 : PR) (R2 : FMem), RdI M kz f2 x2 Mz52 R2 ∧ (0 ≤ f2 ∧ 0 ≤ (kz : Int) ∧ (kz : Int) ≤ 20) ∧ 2 * (20 - (kz : Int)) + f2 < 2 * (20 - kz) + fz := by
                    first
                    | (obtain ⟨f2, x2, R2, r1, r2, r3⟩ := rd_clause (M2 := Mz52) (kz := kz) (xz := xz) (by omega) k2 hlt k3 gA gB (by rw [hMw, dmw]; exact k4) (by rw [hMw]; exact oK) h5 pC
                       rw [hkz]
                       exact ⟨f2, x2, R2, r1, by omega, by omega⟩)
                    | (have zC : Mz52 = st (st Mw 60 37 4) 60 38 wC0 ∧ 20 ≤ kz := by
                         rcases wC with y | y
                         · exact ⟨by rw [y.2.2.2, mB, hwC0], by omega⟩
                         · exfalso; omega
                       refine ⟨0, (4, (sk (tm M) (M 60 35) xz.2.2), 0), Rz, rd_fault h1 q2w (by rw [hMw]; exact oK) h5 (by decide) zC.1 hwC ?_, by omega, by omega⟩
                       rw [hun, if_neg (by omega), if_neg gA, if_neg gB, if_pos zC.2]
                       exact ⟨rfl, rfl⟩)
                    | (have zB : Mz52 = st (st Mw 60 37 3) 60 38 wB0 ∧ ((kdW (tm M) (M 60 35) (sk (tm M) (M 60 35) xz.2.2)) = 4 ∧ 8 ≤ Rz 0 11) := by
                         rcases wB with y | y
                         · exact ⟨by rw [y.2.2.2, mA, hwB0], by omega⟩
                         · exfalso; omega
                       refine ⟨0, (3, (sk (tm M) (M 60 35) xz.2.2), 0), Rz, rd_fault h1 q2w (by rw [hMw]; exact oK) h5 (by decide) zB.1 hwB ?_, by omega, by omega⟩
                       rw [hun, if_neg (by omega), if_neg gA, if_pos zB.2]
                       exact ⟨rfl, rfl⟩)
                    | (have zA : Mz52 = st (st Mw 60 37 1) 60 38 wA0 ∧ (kdW (tm M) (M 60 35) (sk (tm M) (M 60 35) xz.2.2)) = -1 := by
                         rcases wA with y | y
                         · exact ⟨by rw [y.2.2.2, hMw, hwA0], by omega⟩
                         · exfalso; omega
                       refine ⟨0, (1, (sk (tm M) (M 60 35) xz.2.2), 0), Rz, rd_fault h1 q2w (by rw [hMw]; exact oK) h5 (by decide) zA.1 hwA ?_, by omega, by omega⟩
                       rw [hun, if_neg (by omega), if_pos zA.2]
                       exact ⟨rfl, rfl⟩)
                  obtain ⟨f2, x2, R2, r1, r2, r3⟩ := hbk
                  refine z_few [fr 60, fi kz, fu] (by simp [fle, kn]) ?_
                  exact ih81 _ (by omega) kz f2 x2 Mz52 R2 rfl (r1)
                · have mB : Mz52 = Mw := by
                    rcases wB with y | y
                    · exfalso; omega
                    · rw [y.2.1]; exact mA
                  have gB : ¬ ((kdW (tm M) (M 60 35) (sk (tm M) (M 60 35) xz.2.2)) = 4 ∧ 8 ≤ Rz 0 11) := by
                    rcases wB with y | y
                    · exfalso; omega
                    · omega
                  have frB : Mz52 60 39 = (sk (tm M) (M 60 35) xz.2.2) := by rw [mB]; exact frw
                  have f0B : Mz52 60 37 = 0 := by rw [mB]; exact f0w
                  refine z_aload_nr dX8_read_156 rfl ?_
                  refine z_iload_n dX8_read_157 rfl ?_
                  refine z_bipush dX8_read_158 ⟨by decide, by decide⟩ (by decide) ?_
                  refine z_icmp_ge (tgt := 167) dX8_read_160 (by decide) (fun c54 => ?_) (fun c54 => ?_)
                  · refine z_iconst dX8_read_167 ⟨by decide, by decide⟩ ?_
                    refine z_iconst dX8_read_168 ⟨by decide, by decide⟩ ?_
                    refine z_aload_nr dX8_read_169 rfl ?_
                    refine z_geti (kz := 39) fl_X8_212 rfl (by decide) rfl dX8_read_170 (fun x55 hx55 bx55 => ?_)
                    obtain ⟨wC0, hwC0⟩ : ∃ z, z = x55 := ⟨_, rfl⟩
                    have hwC : wC0 = (sk (tm M) (M 60 35) xz.2.2) := by omega
                    have hgC : ((0 : Int) = 1 ∧ kz < 20) ∨ ((0 : Int) = 0 ∧ 20 ≤ kz) := by omega
                    refine z_callVi (n2 := 93) (A_X8_want l g Mz52 0 4 x55 (by omega) (by decide)) cb_X8_want cl_X8_226 (clr0 rfl rfl (by decide) (by decide)) rfl (by decide) ⟨_, rfl, rfl⟩ rfl (by decide) rfl (Nat.le_of_ble_eq_true rfl) rfl dX8_read_173 (fun x56 Mz56 bx56 kMz56 hc56 => ?_)
                    have wC := hc56
                    refine z_if_eq (tgt := 187) dX8_read_176 (by decide) (fun c57 => ?_) (fun c57 => ?_)
                    · refine z_goto (tgt := 81) dX8_read_187 (by decide) ?_
                      have hbk : ∃ (f2 : Int) (x2 : PR) (R2 : FMem), RdI M kz f2 x2 Mz56 R2 ∧ (0 ≤ f2 ∧ 0 ≤ (kz : Int) ∧ (kz : Int) ≤ 20) ∧ 2 * (20 - (kz : Int)) + f2 < 2 * (20 - kz) + fz := by
                        first
                        | (obtain ⟨f2, x2, R2, r1, r2, r3⟩ := rd_clause (M2 := Mz56) (kz := kz) (xz := xz) (by omega) k2 hlt k3 gA gB (by rw [hMw, dmw]; exact k4) (by rw [hMw]; exact oK) h5 pC
                           rw [hkz]
                           exact ⟨f2, x2, R2, r1, by omega, by omega⟩)
                        | (have zC : Mz56 = st (st Mw 60 37 4) 60 38 wC0 ∧ 20 ≤ kz := by
                             rcases wC with y | y
                             · exact ⟨by rw [y.2.2.2, mB, hwC0], by omega⟩
                             · exfalso; omega
                           refine ⟨0, (4, (sk (tm M) (M 60 35) xz.2.2), 0), Rz, rd_fault h1 q2w (by rw [hMw]; exact oK) h5 (by decide) zC.1 hwC ?_, by omega, by omega⟩
                           rw [hun, if_neg (by omega), if_neg gA, if_neg gB, if_pos zC.2]
                           exact ⟨rfl, rfl⟩)
                        | (have zB : Mz56 = st (st Mw 60 37 3) 60 38 wB0 ∧ ((kdW (tm M) (M 60 35) (sk (tm M) (M 60 35) xz.2.2)) = 4 ∧ 8 ≤ Rz 0 11) := by
                             rcases wB with y | y
                             · exact ⟨by rw [y.2.2.2, mA, hwB0], by omega⟩
                             · exfalso; omega
                           refine ⟨0, (3, (sk (tm M) (M 60 35) xz.2.2), 0), Rz, rd_fault h1 q2w (by rw [hMw]; exact oK) h5 (by decide) zB.1 hwB ?_, by omega, by omega⟩
                           rw [hun, if_neg (by omega), if_neg gA, if_pos zB.2]
                           exact ⟨rfl, rfl⟩)
                        | (have zA : Mz56 = st (st Mw 60 37 1) 60 38 wA0 ∧ (kdW (tm M) (M 60 35) (sk (tm M) (M 60 35) xz.2.2)) = -1 := by
                             rcases wA with y | y
                             · exact ⟨by rw [y.2.2.2, hMw, hwA0], by omega⟩
                             · exfalso; omega
                           refine ⟨0, (1, (sk (tm M) (M 60 35) xz.2.2), 0), Rz, rd_fault h1 q2w (by rw [hMw]; exact oK) h5 (by decide) zA.1 hwA ?_, by omega, by omega⟩
                           rw [hun, if_neg (by omega), if_pos zA.2]
                           exact ⟨rfl, rfl⟩)
                      obtain ⟨f2, x2, R2, r1, r2, r3⟩ := hbk
                      refine z_few [fr 60, fi kz, fu] (by simp [fle, kn]) ?_
                      exact ih81 _ (by omega) kz f2 x2 Mz56 R2 rfl (r1)
                    · have mC : Mz56 = Mw := by
                        rcases wC with y | y
                        · exfalso; omega
                        · rw [y.2.1]; exact mB
                      have gC : kz < 20 := by
                        rcases wC with y | y
                        · exfalso; omega
                        · omega
                      refine z_aload_nr dX8_read_179 rfl ?_
                      refine z_iload_n dX8_read_180 rfl ?_
                      refine z_callVv (n2 := 93) (A_X8_readClause l g Mz56 x15 _ _ ((s0 (rn (isL (tm M)) (M 60 35) (sk (tm M) (M 60 35) xz.2.2)))) (by rw [mC]; exact q2w) (ok2) (hl) (by omega) (rfl) (by rw [mC]; omega)) cb_X8_readClause cl_X8_282 (clr0 rfl rfl (by decide) (by decide)) rfl (by decide) ⟨_, rfl, rfl⟩ rfl (by decide) rfl (Nat.le_of_ble_eq_true rfl) rfl dX8_read_181 (fun Mz58 kMz58 hc58 => ?_)
                      have pC := hc58
                      rw [mC, hkd] at pC
                      refine z_iinc (loc2 := fun vq => [fr 60, fi vq, fi x15]) dX8_read_184 rfl (by decide) (by omega) (fun _ => rfl) (fun x59 hx59 => ?_)
                      refine z_goto (tgt := 81) dX8_read_187 (by decide) ?_
                      have hbk : ∃ (f2 : Int) (x2 : PR) (R2 : FMem), RdI M x59 f2 x2 Mz58 R2 ∧ (0 ≤ f2 ∧ 0 ≤ (x59 : Int) ∧ (x59 : Int) ≤ 20) ∧ 2 * (20 - (x59 : Int)) + f2 < 2 * (20 - kz) + fz := by
                        first
                        | (obtain ⟨f2, x2, R2, r1, r2, r3⟩ := rd_clause (M2 := Mz58) (kz := kz) (xz := xz) (by omega) k2 hlt k3 gA gB (by rw [hMw, dmw]; exact k4) (by rw [hMw]; exact oK) h5 pC
                           rw [hx59]
                           exact ⟨f2, x2, R2, r1, by omega, by omega⟩)
                        | (have zC : Mz58 = st (st Mw 60 37 4) 60 38 wC0 ∧ 20 ≤ kz := by
                             rcases wC with y | y
                             · exact ⟨by rw [y.2.2.2, mB, hwC0], by omega⟩
                             · exfalso; omega
                           refine ⟨0, (4, (sk (tm M) (M 60 35) xz.2.2), 0), Rz, rd_fault h1 q2w (by rw [hMw]; exact oK) h5 (by decide) zC.1 hwC ?_, by omega, by omega⟩
                           rw [hun, if_neg (by omega), if_neg gA, if_neg gB, if_pos zC.2]
                           exact ⟨rfl, rfl⟩)
                        | (have zB : Mz58 = st (st Mw 60 37 3) 60 38 wB0 ∧ ((kdW (tm M) (M 60 35) (sk (tm M) (M 60 35) xz.2.2)) = 4 ∧ 8 ≤ Rz 0 11) := by
                             rcases wB with y | y
                             · exact ⟨by rw [y.2.2.2, mA, hwB0], by omega⟩
                             · exfalso; omega
                           refine ⟨0, (3, (sk (tm M) (M 60 35) xz.2.2), 0), Rz, rd_fault h1 q2w (by rw [hMw]; exact oK) h5 (by decide) zB.1 hwB ?_, by omega, by omega⟩
                           rw [hun, if_neg (by omega), if_neg gA, if_pos zB.2]
                           exact ⟨rfl, rfl⟩)
                        | (have zA : Mz58 = st (st Mw 60 37 1) 60 38 wA0 ∧ (kdW (tm M) (M 60 35) (sk (tm M) (M 60 35) xz.2.2)) = -1 := by
                             rcases wA with y | y
                             · exact ⟨by rw [y.2.2.2, hMw, hwA0], by omega⟩
                             · exfalso; omega
                           refine ⟨0, (1, (sk (tm M) (M 60 35) xz.2.2), 0), Rz, rd_fault h1 q2w (by rw [hMw]; exact oK) h5 (by decide) zA.1 hwA ?_, by omega, by omega⟩
                           rw [hun, if_neg (by omega), if_pos zA.2]
                           exact ⟨rfl, rfl⟩)
                      obtain ⟨f2, x2, R2, r1, r2, r3⟩ := hbk
                      refine z_few [fr 60, fi x59, fu] (by simp [fle, kn]) ?_
                      exact ih81 _ (by omega) x59 f2 x2 Mz58 R2 rfl (r1)
                  · refine z_iconst dX8_read_163 ⟨by decide, by decide⟩ ?_
                    refine z_goto (tgt := 168) dX8_read_164 (by decide) ?_
                    refine z_iconst dX8_read_168 ⟨by decide, by decide⟩ ?_
                    refine z_aload_nr dX8_read_169 rfl ?_
                    refine z_geti (kz := 39) fl_X8_212 rfl (by decide) rfl dX8_read_170 (fun x60 hx60 bx60 => ?_)
                    obtain ⟨wC0, hwC0⟩ : ∃ z, z = x60 := ⟨_, rfl⟩
                    have hwC : wC0 = (sk (tm M) (M 60 35) xz.2.2) := by omega
                    have hgC : ((1 : Int) = 1 ∧ kz < 20) ∨ ((1 : Int) = 0 ∧ 20 ≤ kz) := by omega
                    refine z_callVi (n2 := 93) (A_X8_want l g Mz52 1 4 x60 (by omega) (by decide)) cb_X8_want cl_X8_226 (clr0 rfl rfl (by decide) (by decide)) rfl (by decide) ⟨_, rfl, rfl⟩ rfl (by decide) rfl (Nat.le_of_ble_eq_true rfl) rfl dX8_read_173 (fun x61 Mz61 bx61 kMz61 hc61 => ?_)
                    have wC := hc61
                    refine z_if_eq (tgt := 187) dX8_read_176 (by decide) (fun c62 => ?_) (fun c62 => ?_)
                    · refine z_goto (tgt := 81) dX8_read_187 (by decide) ?_
                      have hbk : ∃ (f2 : Int) (x2 : PR) (R2 : FMem), RdI M kz f2 x2 Mz61 R2 ∧ (0 ≤ f2 ∧ 0 ≤ (kz : Int) ∧ (kz : Int) ≤ 20) ∧ 2 * (20 - (kz : Int)) + f2 < 2 * (20 - kz) + fz := by
                        first
                        | (obtain ⟨f2, x2, R2, r1, r2, r3⟩ := rd_clause (M2 := Mz61) (kz := kz) (xz := xz) (by omega) k2 hlt k3 gA gB (by rw [hMw, dmw]; exact k4) (by rw [hMw]; exact oK) h5 pC
                           rw [hkz]
                           exact ⟨f2, x2, R2, r1, by omega, by omega⟩)
                        | (have zC : Mz61 = st (st Mw 60 37 4) 60 38 wC0 ∧ 20 ≤ kz := by
                             rcases wC with y | y
                             · exact ⟨by rw [y.2.2.2, mB, hwC0], by omega⟩
                             · exfalso; omega
                           refine ⟨0, (4, (sk (tm M) (M 60 35) xz.2.2), 0), Rz, rd_fault h1 q2w (by rw [hMw]; exact oK) h5 (by decide) zC.1 hwC ?_, by omega, by omega⟩
                           rw [hun, if_neg (by omega), if_neg gA, if_neg gB, if_pos zC.2]
                           exact ⟨rfl, rfl⟩)
                        | (have zB : Mz61 = st (st Mw 60 37 3) 60 38 wB0 ∧ ((kdW (tm M) (M 60 35) (sk (tm M) (M 60 35) xz.2.2)) = 4 ∧ 8 ≤ Rz 0 11) := by
                             rcases wB with y | y
                             · exact ⟨by rw [y.2.2.2, mA, hwB0], by omega⟩
                             · exfalso; omega
                           refine ⟨0, (3, (sk (tm M) (M 60 35) xz.2.2), 0), Rz, rd_fault h1 q2w (by rw [hMw]; exact oK) h5 (by decide) zB.1 hwB ?_, by omega, by omega⟩
                           rw [hun, if_neg (by omega), if_neg gA, if_pos zB.2]
                           exact ⟨rfl, rfl⟩)
                        | (have zA : Mz61 = st (st Mw 60 37 1) 60 38 wA0 ∧ (kdW (tm M) (M 60 35) (sk (tm M) (M 60 35) xz.2.2)) = -1 := by
                             rcases wA with y | y
                             · exact ⟨by rw [y.2.2.2, hMw, hwA0], by omega⟩
                             · exfalso; omega
                           refine ⟨0, (1, (sk (tm M) (M 60 35) xz.2.2), 0), Rz, rd_fault h1 q2w (by rw [hMw]; exact oK) h5 (by decide) zA.1 hwA ?_, by omega, by omega⟩
                           rw [hun, if_neg (by omega), if_pos zA.2]
                           exact ⟨rfl, rfl⟩)
                      obtain ⟨f2, x2, R2, r1, r2, r3⟩ := hbk
                      refine z_few [fr 60, fi kz, fu] (by simp [fle, kn]) ?_
                      exact ih81 _ (by omega) kz f2 x2 Mz61 R2 rfl (r1)
                    · have mC : Mz61 = Mw := by
                        rcases wC with y | y
                        · exfalso; omega
                        · rw [y.2.1]; exact mB
                      have gC : kz < 20 := by
                        rcases wC with y | y
                        · exfalso; omega
                        · omega
                      refine z_aload_nr dX8_read_179 rfl ?_
                      refine z_iload_n dX8_read_180 rfl ?_
                      refine z_callVv (n2 := 93) (A_X8_readClause l g Mz61 x15 _ _ ((s0 (rn (isL (tm M)) (M 60 35) (sk (tm M) (M 60 35) xz.2.2)))) (by rw [mC]; exact q2w) (ok2) (hl) (by omega) (rfl) (by rw [mC]; omega)) cb_X8_readClause cl_X8_282 (clr0 rfl rfl (by decide) (by decide)) rfl (by decide) ⟨_, rfl, rfl⟩ rfl (by decide) rfl (Nat.le_of_ble_eq_true rfl) rfl dX8_read_181 (fun Mz63 kMz63 hc63 => ?_)
                      have pC := hc63
                      rw [mC, hkd] at pC
                      refine z_iinc (loc2 := fun vq => [fr 60, fi vq, fi x15]) dX8_read_184 rfl (by decide) (by omega) (fun _ => rfl) (fun x64 hx64 => ?_)
                      refine z_goto (tgt := 81) dX8_read_187 (by decide) ?_
                      have hbk : ∃ (f2 : Int) (x2 : PR) (R2 : FMem), RdI M x64 f2 x2 Mz63 R2 ∧ (0 ≤ f2 ∧ 0 ≤ (x64 : Int) ∧ (x64 : Int) ≤ 20) ∧ 2 * (20 - (x64 : Int)) + f2 < 2 * (20 - kz) + fz := by
                        first
                        | (obtain ⟨f2, x2, R2, r1, r2, r3⟩ := rd_clause (M2 := Mz63) (kz := kz) (xz := xz) (by omega) k2 hlt k3 gA gB (by rw [hMw, dmw]; exact k4) (by rw [hMw]; exact oK) h5 pC
                           rw [hx64]
                           exact ⟨f2, x2, R2, r1, by omega, by omega⟩)
                        | (have zC : Mz63 = st (st Mw 60 37 4) 60 38 wC0 ∧ 20 ≤ kz := by
                             rcases wC with y | y
                             · exact ⟨by rw [y.2.2.2, mB, hwC0], by omega⟩
                             · exfalso; omega
                           refine ⟨0, (4, (sk (tm M) (M 60 35) xz.2.2), 0), Rz, rd_fault h1 q2w (by rw [hMw]; exact oK) h5 (by decide) zC.1 hwC ?_, by omega, by omega⟩
                           rw [hun, if_neg (by omega), if_neg gA, if_neg gB, if_pos zC.2]
                           exact ⟨rfl, rfl⟩)
                        | (have zB : Mz63 = st (st Mw 60 37 3) 60 38 wB0 ∧ ((kdW (tm M) (M 60 35) (sk (tm M) (M 60 35) xz.2.2)) = 4 ∧ 8 ≤ Rz 0 11) := by
                             rcases wB with y | y
                             · exact ⟨by rw [y.2.2.2, mA, hwB0], by omega⟩
                             · exfalso; omega
                           refine ⟨0, (3, (sk (tm M) (M 60 35) xz.2.2), 0), Rz, rd_fault h1 q2w (by rw [hMw]; exact oK) h5 (by decide) zB.1 hwB ?_, by omega, by omega⟩
                           rw [hun, if_neg (by omega), if_neg gA, if_pos zB.2]
                           exact ⟨rfl, rfl⟩)
                        | (have zA : Mz63 = st (st Mw 60 37 1) 60 38 wA0 ∧ (kdW (tm M) (M 60 35) (sk (tm M) (M 60 35) xz.2.2)) = -1 := by
                             rcases wA with y | y
                             · exact ⟨by rw [y.2.2.2, hMw, hwA0], by omega⟩
                             · exfalso; omega
                           refine ⟨0, (1, (sk (tm M) (M 60 35) xz.2.2), 0), Rz, rd_fault h1 q2w (by rw [hMw]; exact oK) h5 (by decide) zA.1 hwA ?_, by omega, by omega⟩
                           rw [hun, if_neg (by omega), if_pos zA.2]
                           exact ⟨rfl, rfl⟩)
                      obtain ⟨f2, x2, R2, r1, r2, r3⟩ := hbk
                      refine z_few [fr 60, fi x64, fu] (by simp [fle, kn]) ?_
                      exact ih81 _ (by omega) x64 f2 x2 Mz63 R2 rfl (r1)
        · refine z_iconst dX8_read_109 ⟨by decide, by decide⟩ ?_
          refine z_goto (tgt := 114) dX8_read_110 (by decide) ?_
          refine z_iconst dX8_read_114 ⟨by decide, by decide⟩ ?_
          refine z_aload_nr dX8_read_115 rfl ?_
          refine z_geti (kz := 39) fl_X8_212 rfl (by decide) rfl dX8_read_116 (fun x65 hx65 bx65 => ?_)
          obtain ⟨wA0, hwA0⟩ : ∃ z, z = x65 := ⟨_, rfl⟩
          have hwA : wA0 = (sk (tm M) (M 60 35) xz.2.2) := by omega
          have hgA : ((1 : Int) = 1 ∧ (kdW (tm M) (M 60 35) (sk (tm M) (M 60 35) xz.2.2)) ≠ -1) ∨ ((1 : Int) = 0 ∧ (kdW (tm M) (M 60 35) (sk (tm M) (M 60 35) xz.2.2)) = -1) := by omega
          refine z_callVi (n2 := 93) (A_X8_want l g Mz14 1 1 x65 (by omega) (by decide)) cb_X8_want cl_X8_226 (clr0 rfl rfl (by decide) (by decide)) rfl (by decide) ⟨_, rfl, rfl⟩ rfl (by decide) rfl (Nat.le_of_ble_eq_true rfl) rfl dX8_read_119 (fun x66 Mz66 bx66 kMz66 hc66 => ?_)
          have wA := hc66
          refine z_if_eq (tgt := 187) dX8_read_122 (by decide) (fun c67 => ?_) (fun c67 => ?_)
          · refine z_goto (tgt := 81) dX8_read_187 (by decide) ?_
            have hbk : ∃ (f2 : Int) (x2 : PR) (R2 : FMem), RdI M kz f2 x2 Mz66 R2 ∧ (0 ≤ f2 ∧ 0 ≤ (kz : Int) ∧ (kz : Int) ≤ 20) ∧ 2 * (20 - (kz : Int)) + f2 < 2 * (20 - kz) + fz := by
              first
              | (obtain ⟨f2, x2, R2, r1, r2, r3⟩ := rd_clause (M2 := Mz66) (kz := kz) (xz := xz) (by omega) k2 hlt k3 gA gB (by rw [hMw, dmw]; exact k4) (by rw [hMw]; exact oK) h5 pC
                 rw [hkz]
                 exact ⟨f2, x2, R2, r1, by omega, by omega⟩)
              | (have zC : Mz66 = st (st Mw 60 37 4) 60 38 wC0 ∧ 20 ≤ kz := by
                   rcases wC with y | y
                   · exact ⟨by rw [y.2.2.2, mB, hwC0], by omega⟩
                   · exfalso; omega
                 refine ⟨0, (4, (sk (tm M) (M 60 35) xz.2.2), 0), Rz, rd_fault h1 q2w (by rw [hMw]; exact oK) h5 (by decide) zC.1 hwC ?_, by omega, by omega⟩
                 rw [hun, if_neg (by omega), if_neg gA, if_neg gB, if_pos zC.2]
                 exact ⟨rfl, rfl⟩)
              | (have zB : Mz66 = st (st Mw 60 37 3) 60 38 wB0 ∧ ((kdW (tm M) (M 60 35) (sk (tm M) (M 60 35) xz.2.2)) = 4 ∧ 8 ≤ Rz 0 11) := by
                   rcases wB with y | y
                   · exact ⟨by rw [y.2.2.2, mA, hwB0], by omega⟩
                   · exfalso; omega
                 refine ⟨0, (3, (sk (tm M) (M 60 35) xz.2.2), 0), Rz, rd_fault h1 q2w (by rw [hMw]; exact oK) h5 (by decide) zB.1 hwB ?_, by omega, by omega⟩
                 rw [hun, if_neg (by omega), if_neg gA, if_pos zB.2]
                 exact ⟨rfl, rfl⟩)
              | (have zA : Mz66 = st (st Mw 60 37 1) 60 38 wA0 ∧ (kdW (tm M) (M 60 35) (sk (tm M) (M 60 35) xz.2.2)) = -1 := by
                   rcases wA with y | y
                   · exact ⟨by rw [y.2.2.2, hMw, hwA0], by omega⟩
                   · exfalso; omega
                 refine ⟨0, (1, (sk (tm M) (M 60 35) xz.2.2), 0), Rz, rd_fault h1 q2w (by rw [hMw]; exact oK) h5 (by decide) zA.1 hwA ?_, by omega, by omega⟩
                 rw [hun, if_neg (by omega), if_pos zA.2]
                 exact ⟨rfl, rfl⟩)
            obtain ⟨f2, x2, R2, r1, r2, r3⟩ := hbk
            refine z_few [fr 60, fi kz, fu] (by simp [fle, kn]) ?_
            exact ih81 _ (by omega) kz f2 x2 Mz66 R2 rfl (r1)
          · have mA : Mz66 = Mw := by
              rcases wA with y | y
              · exfalso; omega
              · rw [y.2.1]; exact hMw.symm
            have gA : (kdW (tm M) (M 60 35) (sk (tm M) (M 60 35) xz.2.2)) ≠ -1 := by
              rcases wA with y | y
              · exfalso; omega
              · omega
            have k30A : Mz66 60 30 = Rz 0 11 := by rw [mA]; exact k30v
            have frA : Mz66 60 39 = (sk (tm M) (M 60 35) xz.2.2) := by rw [mA]; exact frw
            have f0A : Mz66 60 37 = 0 := by rw [mA]; exact f0w
            refine z_aload_nr dX8_read_125 rfl ?_
            refine z_iload_n dX8_read_126 rfl ?_
            refine z_iconst dX8_read_127 ⟨by decide, by decide⟩ ?_
            refine z_icmp_lt (tgt := 140) dX8_read_128 (by decide) (fun c68 => ?_) (fun c68 => ?_)
            · refine z_iconst dX8_read_140 ⟨by decide, by decide⟩ ?_
              refine z_goto (tgt := 145) dX8_read_141 (by decide) ?_
              refine z_iconst dX8_read_145 ⟨by decide, by decide⟩ ?_
              refine z_aload_nr dX8_read_146 rfl ?_
              refine z_geti (kz := 39) fl_X8_212 rfl (by decide) rfl dX8_read_147 (fun x69 hx69 bx69 => ?_)
              obtain ⟨wB0, hwB0⟩ : ∃ z, z = x69 := ⟨_, rfl⟩
              have hwB : wB0 = (sk (tm M) (M 60 35) xz.2.2) := by omega
              have hgB : ((1 : Int) = 1 ∧ ¬ ((kdW (tm M) (M 60 35) (sk (tm M) (M 60 35) xz.2.2)) = 4 ∧ 8 ≤ Rz 0 11)) ∨ ((1 : Int) = 0 ∧ ((kdW (tm M) (M 60 35) (sk (tm M) (M 60 35) xz.2.2)) = 4 ∧ 8 ≤ Rz 0 11)) := by omega
              refine z_callVi (n2 := 93) (A_X8_want l g Mz66 1 3 x69 (by omega) (by decide)) cb_X8_want cl_X8_226 (clr0 rfl rfl (by decide) (by decide)) rfl (by decide) ⟨_, rfl, rfl⟩ rfl (by decide) rfl (Nat.le_of_ble_eq_true rfl) rfl dX8_read_150 (fun x70 Mz70 bx70 kMz70 hc70 => ?_)
              have wB := hc70
              refine z_if_eq (tgt := 187) dX8_read_153 (by decide) (fun c71 => ?_) (fun c71 => ?_)
              · refine z_goto (tgt := 81) dX8_read_187 (by decide) ?_
                have hbk : ∃ (f2 : Int) (x2 : PR) (R2 : FMem), RdI M kz f2 x2 Mz70 R2 ∧ (0 ≤ f2 ∧ 0 ≤ (kz : Int) ∧ (kz : Int) ≤ 20) ∧ 2 * (20 - (kz : Int)) + f2 < 2 * (20 - kz) + fz := by
                  first
                  | (obtain ⟨f2, x2, R2, r1, r2, r3⟩ := rd_clause (M2 := Mz70) (kz := kz) (xz := xz) (by omega) k2 hlt k3 gA gB (by rw [hMw, dmw]; exact k4) (by rw [hMw]; exact oK) h5 pC
                     rw [hkz]
                     exact ⟨f2, x2, R2, r1, by omega, by omega⟩)
                  | (have zC : Mz70 = st (st Mw 60 37 4) 60 38 wC0 ∧ 20 ≤ kz := by
                       rcases wC with y | y
                       · exact ⟨by rw [y.2.2.2, mB, hwC0], by omega⟩
                       · exfalso; omega
                     refine ⟨0, (4, (sk (tm M) (M 60 35) xz.2.2), 0), Rz, rd_fault h1 q2w (by rw [hMw]; exact oK) h5 (by decide) zC.1 hwC ?_, by omega, by omega⟩
                     rw [hun, if_neg (by omega), if_neg gA, if_neg gB, if_pos zC.2]
                     exact ⟨rfl, rfl⟩)
                  | (have zB : Mz70 = st (st Mw 60 37 3) 60 38 wB0 ∧ ((kdW (tm M) (M 60 35) (sk (tm M) (M 60 35) xz.2.2)) = 4 ∧ 8 ≤ Rz 0 11) := by
                       rcases wB with y | y
                       · exact ⟨by rw [y.2.2.2, mA, hwB0], by omega⟩
                       · exfalso; omega
                     refine ⟨0, (3, (sk (tm M) (M 60 35) xz.2.2), 0), Rz, rd_fault h1 q2w (by rw [hMw]; exact oK) h5 (by decide) zB.1 hwB ?_, by omega, by omega⟩
                     rw [hun, if_neg (by omega), if_neg gA, if_pos zB.2]
                     exact ⟨rfl, rfl⟩)
                  | (have zA : Mz70 = st (st Mw 60 37 1) 60 38 wA0 ∧ (kdW (tm M) (M 60 35) (sk (tm M) (M 60 35) xz.2.2)) = -1 := by
                       rcases wA with y | y
                       · exact ⟨by rw [y.2.2.2, hMw, hwA0], by omega⟩
                       · exfalso; omega
                     refine ⟨0, (1, (sk (tm M) (M 60 35) xz.2.2), 0), Rz, rd_fault h1 q2w (by rw [hMw]; exact oK) h5 (by decide) zA.1 hwA ?_, by omega, by omega⟩
                     rw [hun, if_neg (by omega), if_pos zA.2]
                     exact ⟨rfl, rfl⟩)
                obtain ⟨f2, x2, R2, r1, r2, r3⟩ := hbk
                refine z_few [fr 60, fi kz, fu] (by simp [fle, kn]) ?_
                exact ih81 _ (by omega) kz f2 x2 Mz70 R2 rfl (r1)
              · have mB : Mz70 = Mw := by
                  rcases wB with y | y
                  · exfalso; omega
                  · rw [y.2.1]; exact mA
                have gB : ¬ ((kdW (tm M) (M 60 35) (sk (tm M) (M 60 35) xz.2.2)) = 4 ∧ 8 ≤ Rz 0 11) := by
                  rcases wB with y | y
                  · exfalso; omega
                  · omega
                have frB : Mz70 60 39 = (sk (tm M) (M 60 35) xz.2.2) := by rw [mB]; exact frw
                have f0B : Mz70 60 37 = 0 := by rw [mB]; exact f0w
                refine z_aload_nr dX8_read_156 rfl ?_
                refine z_iload_n dX8_read_157 rfl ?_
                refine z_bipush dX8_read_158 ⟨by decide, by decide⟩ (by decide) ?_
                refine z_icmp_ge (tgt := 167) dX8_read_160 (by decide) (fun c72 => ?_) (fun c72 => ?_)
                · refine z_iconst dX8_read_167 ⟨by decide, by decide⟩ ?_
                  refine z_iconst dX8_read_168 ⟨by decide, by decide⟩ ?_
                  refine z_aload_nr dX8_read_169 rfl ?_
                  refine z_geti (kz := 39) fl_X8_212 rfl (by decide) rfl dX8_read_170 (fun x73 hx73 bx73 => ?_)
                  obtain ⟨wC0, hwC0⟩ : ∃ z, z = x73 := ⟨_, rfl⟩
                  have hwC : wC0 = (sk (tm M) (M 60 35) xz.2.2) := by omega
                  have hgC : ((0 : Int) = 1 ∧ kz < 20) ∨ ((0 : Int) = 0 ∧ 20 ≤ kz) := by omega
                  refine z_callVi (n2 := 93) (A_X8_want l g Mz70 0 4 x73 (by omega) (by decide)) cb_X8_want cl_X8_226 (clr0 rfl rfl (by decide) (by decide)) rfl (by decide) ⟨_, rfl, rfl⟩ rfl (by decide) rfl (Nat.le_of_ble_eq_true rfl) rfl dX8_read_173 (fun x74 Mz74 bx74 kMz74 hc74 => ?_)
                  have wC := hc74
                  refine z_if_eq (tgt := 187) dX8_read_176 (by decide) (fun c75 => ?_) (fun c75 => ?_)
                  · refine z_goto (tgt := 81) dX8_read_187 (by decide) ?_
                    have hbk : ∃ (f2 : Int) (x2 : PR) (R2 : FMem), RdI M kz f2 x2 Mz74 R2 ∧ (0 ≤ f2 ∧ 0 ≤ (kz : Int) ∧ (kz : Int) ≤ 20) ∧ 2 * (20 - (kz : Int)) + f2 < 2 * (20 - kz) + fz := by
                      first
                      | (obtain ⟨f2, x2, R2, r1, r2, r3⟩ := rd_clause (M2 := Mz74) (kz := kz) (xz := xz) (by omega) k2 hlt k3 gA gB (by rw [hMw, dmw]; exact k4) (by rw [hMw]; exact oK) h5 pC
                         rw [hkz]
                         exact ⟨f2, x2, R2, r1, by omega, by omega⟩)
                      | (have zC : Mz74 = st (st Mw 60 37 4) 60 38 wC0 ∧ 20 ≤ kz := by
                           rcases wC with y | y
                           · exact ⟨by rw [y.2.2.2, mB, hwC0], by omega⟩
                           · exfalso; omega
                         refine ⟨0, (4, (sk (tm M) (M 60 35) xz.2.2), 0), Rz, rd_fault h1 q2w (by rw [hMw]; exact oK) h5 (by decide) zC.1 hwC ?_, by omega, by omega⟩
                         rw [hun, if_neg (by omega), if_neg gA, if_neg gB, if_pos zC.2]
                         exact ⟨rfl, rfl⟩)
                      | (have zB : Mz74 = st (st Mw 60 37 3) 60 38 wB0 ∧ ((kdW (tm M) (M 60 35) (sk (tm M) (M 60 35) xz.2.2)) = 4 ∧ 8 ≤ Rz 0 11) := by
                           rcases wB with y | y
                           · exact ⟨by rw [y.2.2.2, mA, hwB0], by omega⟩
                           · exfalso; omega
                         refine ⟨0, (3, (sk (tm M) (M 60 35) xz.2.2), 0), Rz, rd_fault h1 q2w (by rw [hMw]; exact oK) h5 (by decide) zB.1 hwB ?_, by omega, by omega⟩
                         rw [hun, if_neg (by omega), if_neg gA, if_pos zB.2]
                         exact ⟨rfl, rfl⟩)
                      | (have zA : Mz74 = st (st Mw 60 37 1) 60 38 wA0 ∧ (kdW (tm M) (M 60 35) (sk (tm M) (M 60 35) xz.2.2)) = -1 := by
                           rcases wA with y | y
                           · exact ⟨by rw [y.2.2.2, hMw, hwA0], by omega⟩
                           · exfalso; omega
                         refine ⟨0, (1, (sk (tm M) (M 60 35) xz.2.2), 0), Rz, rd_fault h1 q2w (by rw [hMw]; exact oK) h5 (by decide) zA.1 hwA ?_, by omega, by omega⟩
                         rw [hun, if_neg (by omega), if_pos zA.2]
                         exact ⟨rfl, rfl⟩)
                    obtain ⟨f2, x2, R2, r1, r2, r3⟩ := hbk
                    refine z_few [fr 60, fi kz, fu] (by simp [fle, kn]) ?_
                    exact ih81 _ (by omega) kz f2 x2 Mz74 R2 rfl (r1)
                  · have mC : Mz74 = Mw := by
                      rcases wC with y | y
                      · exfalso; omega
                      · rw [y.2.1]; exact mB
                    have gC : kz < 20 := by
                      rcases wC with y | y
                      · exfalso; omega
                      · omega
                    refine z_aload_nr dX8_read_179 rfl ?_
                    refine z_iload_n dX8_read_180 rfl ?_
                    refine z_callVv (n2 := 93) (A_X8_readClause l g Mz74 x15 _ _ ((s0 (rn (isL (tm M)) (M 60 35) (sk (tm M) (M 60 35) xz.2.2)))) (by rw [mC]; exact q2w) (ok2) (hl) (by omega) (rfl) (by rw [mC]; omega)) cb_X8_readClause cl_X8_282 (clr0 rfl rfl (by decide) (by decide)) rfl (by decide) ⟨_, rfl, rfl⟩ rfl (by decide) rfl (Nat.le_of_ble_eq_true rfl) rfl dX8_read_181 (fun Mz76 kMz76 hc76 => ?_)
                    have pC := hc76
                    rw [mC, hkd] at pC
                    refine z_iinc (loc2 := fun vq => [fr 60, fi vq, fi x15]) dX8_read_184 rfl (by decide) (by omega) (fun _ => rfl) (fun x77 hx77 => ?_)
                    refine z_goto (tgt := 81) dX8_read_187 (by decide) ?_
                    have hbk : ∃ (f2 : Int) (x2 : PR) (R2 : FMem), RdI M x77 f2 x2 Mz76 R2 ∧ (0 ≤ f2 ∧ 0 ≤ (x77 : Int) ∧ (x77 : Int) ≤ 20) ∧ 2 * (20 - (x77 : Int)) + f2 < 2 * (20 - kz) + fz := by
                      first
                      | (obtain ⟨f2, x2, R2, r1, r2, r3⟩ := rd_clause (M2 := Mz76) (kz := kz) (xz := xz) (by omega) k2 hlt k3 gA gB (by rw [hMw, dmw]; exact k4) (by rw [hMw]; exact oK) h5 pC
                         rw [hx77]
                         exact ⟨f2, x2, R2, r1, by omega, by omega⟩)
                      | (have zC : Mz76 = st (st Mw 60 37 4) 60 38 wC0 ∧ 20 ≤ kz := by
                           rcases wC with y | y
                           · exact ⟨by rw [y.2.2.2, mB, hwC0], by omega⟩
                           · exfalso; omega
                         refine ⟨0, (4, (sk (tm M) (M 60 35) xz.2.2), 0), Rz, rd_fault h1 q2w (by rw [hMw]; exact oK) h5 (by decide) zC.1 hwC ?_, by omega, by omega⟩
                         rw [hun, if_neg (by omega), if_neg gA, if_neg gB, if_pos zC.2]
                         exact ⟨rfl, rfl⟩)
                      | (have zB : Mz76 = st (st Mw 60 37 3) 60 38 wB0 ∧ ((kdW (tm M) (M 60 35) (sk (tm M) (M 60 35) xz.2.2)) = 4 ∧ 8 ≤ Rz 0 11) := by
                           rcases wB with y | y
                           · exact ⟨by rw [y.2.2.2, mA, hwB0], by omega⟩
                           · exfalso; omega
                         refine ⟨0, (3, (sk (tm M) (M 60 35) xz.2.2), 0), Rz, rd_fault h1 q2w (by rw [hMw]; exact oK) h5 (by decide) zB.1 hwB ?_, by omega, by omega⟩
                         rw [hun, if_neg (by omega), if_neg gA, if_pos zB.2]
                         exact ⟨rfl, rfl⟩)
                      | (have zA : Mz76 = st (st Mw 60 37 1) 60 38 wA0 ∧ (kdW (tm M) (M 60 35) (sk (tm M) (M 60 35) xz.2.2)) = -1 := by
                           rcases wA with y | y
                           · exact ⟨by rw [y.2.2.2, hMw, hwA0], by omega⟩
                           · exfalso; omega
                         refine ⟨0, (1, (sk (tm M) (M 60 35) xz.2.2), 0), Rz, rd_fault h1 q2w (by rw [hMw]; exact oK) h5 (by decide) zA.1 hwA ?_, by omega, by omega⟩
                         rw [hun, if_neg (by omega), if_pos zA.2]
                         exact ⟨rfl, rfl⟩)
                    obtain ⟨f2, x2, R2, r1, r2, r3⟩ := hbk
                    refine z_few [fr 60, fi x77, fu] (by simp [fle, kn]) ?_
                    exact ih81 _ (by omega) x77 f2 x2 Mz76 R2 rfl (r1)
                · refine z_iconst dX8_read_163 ⟨by decide, by decide⟩ ?_
                  refine z_goto (tgt := 168) dX8_read_164 (by decide) ?_
                  refine z_iconst dX8_read_168 ⟨by decide, by decide⟩ ?_
                  refine z_aload_nr dX8_read_169 rfl ?_
                  refine z_geti (kz := 39) fl_X8_212 rfl (by decide) rfl dX8_read_170 (fun x78 hx78 bx78 => ?_)
                  obtain ⟨wC0, hwC0⟩ : ∃ z, z = x78 := ⟨_, rfl⟩
                  have hwC : wC0 = (sk (tm M) (M 60 35) xz.2.2) := by omega
                  have hgC : ((1 : Int) = 1 ∧ kz < 20) ∨ ((1 : Int) = 0 ∧ 20 ≤ kz) := by omega
                  refine z_callVi (n2 := 93) (A_X8_want l g Mz70 1 4 x78 (by omega) (by decide)) cb_X8_want cl_X8_226 (clr0 rfl rfl (by decide) (by decide)) rfl (by decide) ⟨_, rfl, rfl⟩ rfl (by decide) rfl (Nat.le_of_ble_eq_true rfl) rfl dX8_read_173 (fun x79 Mz79 bx79 kMz79 hc79 => ?_)
                  have wC := hc79
                  refine z_if_eq (tgt := 187) dX8_read_176 (by decide) (fun c80 => ?_) (fun c80 => ?_)
                  · refine z_goto (tgt := 81) dX8_read_187 (by decide) ?_
                    have hbk : ∃ (f2 : Int) (x2 : PR) (R2 : FMem), RdI M kz f2 x2 Mz79 R2 ∧ (0 ≤ f2 ∧ 0 ≤ (kz : Int) ∧ (kz : Int) ≤ 20) ∧ 2 * (20 - (kz : Int)) + f2 < 2 * (20 - kz) + fz := by
                      first
                      | (obtain ⟨f2, x2, R2, r1, r2, r3⟩ := rd_clause (M2 := Mz79) (kz := kz) (xz := xz) (by omega) k2 hlt k3 gA gB (by rw [hMw, dmw]; exact k4) (by rw [hMw]; exact oK) h5 pC
                         rw [hkz]
                         exact ⟨f2, x2, R2, r1, by omega, by omega⟩)
                      | (have zC : Mz79 = st (st Mw 60 37 4) 60 38 wC0 ∧ 20 ≤ kz := by
                           rcases wC with y | y
                           · exact ⟨by rw [y.2.2.2, mB, hwC0], by omega⟩
                           · exfalso; omega
                         refine ⟨0, (4, (sk (tm M) (M 60 35) xz.2.2), 0), Rz, rd_fault h1 q2w (by rw [hMw]; exact oK) h5 (by decide) zC.1 hwC ?_, by omega, by omega⟩
                         rw [hun, if_neg (by omega), if_neg gA, if_neg gB, if_pos zC.2]
                         exact ⟨rfl, rfl⟩)
                      | (have zB : Mz79 = st (st Mw 60 37 3) 60 38 wB0 ∧ ((kdW (tm M) (M 60 35) (sk (tm M) (M 60 35) xz.2.2)) = 4 ∧ 8 ≤ Rz 0 11) := by
                           rcases wB with y | y
                           · exact ⟨by rw [y.2.2.2, mA, hwB0], by omega⟩
                           · exfalso; omega
                         refine ⟨0, (3, (sk (tm M) (M 60 35) xz.2.2), 0), Rz, rd_fault h1 q2w (by rw [hMw]; exact oK) h5 (by decide) zB.1 hwB ?_, by omega, by omega⟩
                         rw [hun, if_neg (by omega), if_neg gA, if_pos zB.2]
                         exact ⟨rfl, rfl⟩)
                      | (have zA : Mz79 = st (st Mw 60 37 1) 60 38 wA0 ∧ (kdW (tm M) (M 60 35) (sk (tm M) (M 60 35) xz.2.2)) = -1 := by
                           rcases wA with y | y
                           · exact ⟨by rw [y.2.2.2, hMw, hwA0], by omega⟩
                           · exfalso; omega
                         refine ⟨0, (1, (sk (tm M) (M 60 35) xz.2.2), 0), Rz, rd_fault h1 q2w (by rw [hMw]; exact oK) h5 (by decide) zA.1 hwA ?_, by omega, by omega⟩
                         rw [hun, if_neg (by omega), if_pos zA.2]
                         exact ⟨rfl, rfl⟩)
                    obtain ⟨f2, x2, R2, r1, r2, r3⟩ := hbk
                    refine z_few [fr 60, fi kz, fu] (by simp [fle, kn]) ?_
                    exact ih81 _ (by omega) kz f2 x2 Mz79 R2 rfl (r1)
                  · have mC : Mz79 = Mw := by
                      rcases wC with y | y
                      · exfalso; omega
                      · rw [y.2.1]; exact mB
                    have gC : kz < 20 := by
                      rcases wC with y | y
                      · exfalso; omega
                      · omega
                    refine z_aload_nr dX8_read_179 rfl ?_
                    refine z_iload_n dX8_read_180 rfl ?_
                    refine z_callVv (n2 := 93) (A_X8_readClause l g Mz79 x15 _ _ ((s0 (rn (isL (tm M)) (M 60 35) (sk (tm M) (M 60 35) xz.2.2)))) (by rw [mC]; exact q2w) (ok2) (hl) (by omega) (rfl) (by rw [mC]; omega)) cb_X8_readClause cl_X8_282 (clr0 rfl rfl (by decide) (by decide)) rfl (by decide) ⟨_, rfl, rfl⟩ rfl (by decide) rfl (Nat.le_of_ble_eq_true rfl) rfl dX8_read_181 (fun Mz81 kMz81 hc81 => ?_)
                    have pC := hc81
                    rw [mC, hkd] at pC
                    refine z_iinc (loc2 := fun vq => [fr 60, fi vq, fi x15]) dX8_read_184 rfl (by decide) (by omega) (fun _ => rfl) (fun x82 hx82 => ?_)
                    refine z_goto (tgt := 81) dX8_read_187 (by decide) ?_
                    have hbk : ∃ (f2 : Int) (x2 : PR) (R2 : FMem), RdI M x82 f2 x2 Mz81 R2 ∧ (0 ≤ f2 ∧ 0 ≤ (x82 : Int) ∧ (x82 : Int) ≤ 20) ∧ 2 * (20 - (x82 : Int)) + f2 < 2 * (20 - kz) + fz := by
                      first
                      | (obtain ⟨f2, x2, R2, r1, r2, r3⟩ := rd_clause (M2 := Mz81) (kz := kz) (xz := xz) (by omega) k2 hlt k3 gA gB (by rw [hMw, dmw]; exact k4) (by rw [hMw]; exact oK) h5 pC
                         rw [hx82]
                         exact ⟨f2, x2, R2, r1, by omega, by omega⟩)
                      | (have zC : Mz81 = st (st Mw 60 37 4) 60 38 wC0 ∧ 20 ≤ kz := by
                           rcases wC with y | y
                           · exact ⟨by rw [y.2.2.2, mB, hwC0], by omega⟩
                           · exfalso; omega
                         refine ⟨0, (4, (sk (tm M) (M 60 35) xz.2.2), 0), Rz, rd_fault h1 q2w (by rw [hMw]; exact oK) h5 (by decide) zC.1 hwC ?_, by omega, by omega⟩
                         rw [hun, if_neg (by omega), if_neg gA, if_neg gB, if_pos zC.2]
                         exact ⟨rfl, rfl⟩)
                      | (have zB : Mz81 = st (st Mw 60 37 3) 60 38 wB0 ∧ ((kdW (tm M) (M 60 35) (sk (tm M) (M 60 35) xz.2.2)) = 4 ∧ 8 ≤ Rz 0 11) := by
                           rcases wB with y | y
                           · exact ⟨by rw [y.2.2.2, mA, hwB0], by omega⟩
                           · exfalso; omega
                         refine ⟨0, (3, (sk (tm M) (M 60 35) xz.2.2), 0), Rz, rd_fault h1 q2w (by rw [hMw]; exact oK) h5 (by decide) zB.1 hwB ?_, by omega, by omega⟩
                         rw [hun, if_neg (by omega), if_neg gA, if_pos zB.2]
                         exact ⟨rfl, rfl⟩)
                      | (have zA : Mz81 = st (st Mw 60 37 1) 60 38 wA0 ∧ (kdW (tm M) (M 60 35) (sk (tm M) (M 60 35) xz.2.2)) = -1 := by
                           rcases wA with y | y
                           · exact ⟨by rw [y.2.2.2, hMw, hwA0], by omega⟩
                           · exfalso; omega
                         refine ⟨0, (1, (sk (tm M) (M 60 35) xz.2.2), 0), Rz, rd_fault h1 q2w (by rw [hMw]; exact oK) h5 (by decide) zA.1 hwA ?_, by omega, by omega⟩
                         rw [hun, if_neg (by omega), if_pos zA.2]
                         exact ⟨rfl, rfl⟩)
                    obtain ⟨f2, x2, R2, r1, r2, r3⟩ := hbk
                    refine z_few [fr 60, fi x82, fu] (by simp [fle, kn]) ?_
                    exact ih81 _ (by omega) x82 f2 x2 Mz81 R2 rfl (r1)
            · refine z_aload_nr dX8_read_131 rfl ?_
              refine z_geti (kz := 30) fl_X8_252 rfl (by decide) rfl dX8_read_132 (fun x83 hx83 bx83 => ?_)
              refine z_bipush dX8_read_135 ⟨by decide, by decide⟩ (by decide) ?_
              refine z_icmp_ge (tgt := 144) dX8_read_137 (by decide) (fun c84 => ?_) (fun c84 => ?_)
              · refine z_iconst dX8_read_144 ⟨by decide, by decide⟩ ?_
                refine z_iconst dX8_read_145 ⟨by decide, by decide⟩ ?_
                refine z_aload_nr dX8_read_146 rfl ?_
                refine z_geti (kz := 39) fl_X8_212 rfl (by decide) rfl dX8_read_147 (fun x85 hx85 bx85 => ?_)
                obtain ⟨wB0, hwB0⟩ : ∃ z, z = x85 := ⟨_, rfl⟩
                have hwB : wB0 = (sk (tm M) (M 60 35) xz.2.2) := by omega
                have hgB : ((0 : Int) = 1 ∧ ¬ ((kdW (tm M) (M 60 35) (sk (tm M) (M 60 35) xz.2.2)) = 4 ∧ 8 ≤ Rz 0 11)) ∨ ((0 : Int) = 0 ∧ ((kdW (tm M) (M 60 35) (sk (tm M) (M 60 35) xz.2.2)) = 4 ∧ 8 ≤ Rz 0 11)) := by omega
                refine z_callVi (n2 := 93) (A_X8_want l g Mz66 0 3 x85 (by omega) (by decide)) cb_X8_want cl_X8_226 (clr0 rfl rfl (by decide) (by decide)) rfl (by decide) ⟨_, rfl, rfl⟩ rfl (by decide) rfl (Nat.le_of_ble_eq_true rfl) rfl dX8_read_150 (fun x86 Mz86 bx86 kMz86 hc86 => ?_)
                have wB := hc86
                refine z_if_eq (tgt := 187) dX8_read_153 (by decide) (fun c87 => ?_) (fun c87 => ?_)
                · refine z_goto (tgt := 81) dX8_read_187 (by decide) ?_
                  have hbk : ∃ (f2 : Int) (x2 : PR) (R2 : FMem), RdI M kz f2 x2 Mz86 R2 ∧ (0 ≤ f2 ∧ 0 ≤ (kz : Int) ∧ (kz : Int) ≤ 20) ∧ 2 * (20 - (kz : Int)) + f2 < 2 * (20 - kz) + fz := by
                    first
                    | (obtain ⟨f2, x2, R2, r1, r2, r3⟩ := rd_clause (M2 := Mz86) (kz := kz) (xz := xz) (by omega) k2 hlt k3 gA gB (by rw [hMw, dmw]; exact k4) (by rw [hMw]; exact oK) h5 pC
                       rw [hkz]
                       exact ⟨f2, x2, R2, r1, by omega, by omega⟩)
                    | (have zC : Mz86 = st (st Mw 60 37 4) 60 38 wC0 ∧ 20 ≤ kz := by
                         rcases wC with y | y
                         · exact ⟨by rw [y.2.2.2, mB, hwC0], by omega⟩
                         · exfalso; omega
                       refine ⟨0, (4, (sk (tm M) (M 60 35) xz.2.2), 0), Rz, rd_fault h1 q2w (by rw [hMw]; exact oK) h5 (by decide) zC.1 hwC ?_, by omega, by omega⟩
                       rw [hun, if_neg (by omega), if_neg gA, if_neg gB, if_pos zC.2]
                       exact ⟨rfl, rfl⟩)
                    | (have zB : Mz86 = st (st Mw 60 37 3) 60 38 wB0 ∧ ((kdW (tm M) (M 60 35) (sk (tm M) (M 60 35) xz.2.2)) = 4 ∧ 8 ≤ Rz 0 11) := by
                         rcases wB with y | y
                         · exact ⟨by rw [y.2.2.2, mA, hwB0], by omega⟩
                         · exfalso; omega
                       refine ⟨0, (3, (sk (tm M) (M 60 35) xz.2.2), 0), Rz, rd_fault h1 q2w (by rw [hMw]; exact oK) h5 (by decide) zB.1 hwB ?_, by omega, by omega⟩
                       rw [hun, if_neg (by omega), if_neg gA, if_pos zB.2]
                       exact ⟨rfl, rfl⟩)
                    | (have zA : Mz86 = st (st Mw 60 37 1) 60 38 wA0 ∧ (kdW (tm M) (M 60 35) (sk (tm M) (M 60 35) xz.2.2)) = -1 := by
                         rcases wA with y | y
                         · exact ⟨by rw [y.2.2.2, hMw, hwA0], by omega⟩
                         · exfalso; omega
                       refine ⟨0, (1, (sk (tm M) (M 60 35) xz.2.2), 0), Rz, rd_fault h1 q2w (by rw [hMw]; exact oK) h5 (by decide) zA.1 hwA ?_, by omega, by omega⟩
                       rw [hun, if_neg (by omega), if_pos zA.2]
                       exact ⟨rfl, rfl⟩)
                  obtain ⟨f2, x2, R2, r1, r2, r3⟩ := hbk
                  refine z_few [fr 60, fi kz, fu] (by simp [fle, kn]) ?_
                  exact ih81 _ (by omega) kz f2 x2 Mz86 R2 rfl (r1)
                · have mB : Mz86 = Mw := by
                    rcases wB with y | y
                    · exfalso; omega
                    · rw [y.2.1]; exact mA
                  have gB : ¬ ((kdW (tm M) (M 60 35) (sk (tm M) (M 60 35) xz.2.2)) = 4 ∧ 8 ≤ Rz 0 11) := by
                    rcases wB with y | y
                    · exfalso; omega
                    · omega
                  have frB : Mz86 60 39 = (sk (tm M) (M 60 35) xz.2.2) := by rw [mB]; exact frw
                  have f0B : Mz86 60 37 = 0 := by rw [mB]; exact f0w
                  refine z_aload_nr dX8_read_156 rfl ?_
                  refine z_iload_n dX8_read_157 rfl ?_
                  refine z_bipush dX8_read_158 ⟨by decide, by decide⟩ (by decide) ?_
                  refine z_icmp_ge (tgt := 167) dX8_read_160 (by decide) (fun c88 => ?_) (fun c88 => ?_)
                  · refine z_iconst dX8_read_167 ⟨by decide, by decide⟩ ?_
                    refine z_iconst dX8_read_168 ⟨by decide, by decide⟩ ?_
                    refine z_aload_nr dX8_read_169 rfl ?_
                    refine z_geti (kz := 39) fl_X8_212 rfl (by decide) rfl dX8_read_170 (fun x89 hx89 bx89 => ?_)
                    obtain ⟨wC0, hwC0⟩ : ∃ z, z = x89 := ⟨_, rfl⟩
                    have hwC : wC0 = (sk (tm M) (M 60 35) xz.2.2) := by omega
                    have hgC : ((0 : Int) = 1 ∧ kz < 20) ∨ ((0 : Int) = 0 ∧ 20 ≤ kz) := by omega
                    refine z_callVi (n2 := 93) (A_X8_want l g Mz86 0 4 x89 (by omega) (by decide)) cb_X8_want cl_X8_226 (clr0 rfl rfl (by decide) (by decide)) rfl (by decide) ⟨_, rfl, rfl⟩ rfl (by decide) rfl (Nat.le_of_ble_eq_true rfl) rfl dX8_read_173 (fun x90 Mz90 bx90 kMz90 hc90 => ?_)
                    have wC := hc90
                    refine z_if_eq (tgt := 187) dX8_read_176 (by decide) (fun c91 => ?_) (fun c91 => ?_)
                    · refine z_goto (tgt := 81) dX8_read_187 (by decide) ?_
                      have hbk : ∃ (f2 : Int) (x2 : PR) (R2 : FMem), RdI M kz f2 x2 Mz90 R2 ∧ (0 ≤ f2 ∧ 0 ≤ (kz : Int) ∧ (kz : Int) ≤ 20) ∧ 2 * (20 - (kz : Int)) + f2 < 2 * (20 - kz) + fz := by
                        first
                        | (obtain ⟨f2, x2, R2, r1, r2, r3⟩ := rd_clause (M2 := Mz90) (kz := kz) (xz := xz) (by omega) k2 hlt k3 gA gB (by rw [hMw, dmw]; exact k4) (by rw [hMw]; exact oK) h5 pC
                           rw [hkz]
                           exact ⟨f2, x2, R2, r1, by omega, by omega⟩)
                        | (have zC : Mz90 = st (st Mw 60 37 4) 60 38 wC0 ∧ 20 ≤ kz := by
                             rcases wC with y | y
                             · exact ⟨by rw [y.2.2.2, mB, hwC0], by omega⟩
                             · exfalso; omega
                           refine ⟨0, (4, (sk (tm M) (M 60 35) xz.2.2), 0), Rz, rd_fault h1 q2w (by rw [hMw]; exact oK) h5 (by decide) zC.1 hwC ?_, by omega, by omega⟩
                           rw [hun, if_neg (by omega), if_neg gA, if_neg gB, if_pos zC.2]
                           exact ⟨rfl, rfl⟩)
                        | (have zB : Mz90 = st (st Mw 60 37 3) 60 38 wB0 ∧ ((kdW (tm M) (M 60 35) (sk (tm M) (M 60 35) xz.2.2)) = 4 ∧ 8 ≤ Rz 0 11) := by
                             rcases wB with y | y
                             · exact ⟨by rw [y.2.2.2, mA, hwB0], by omega⟩
                             · exfalso; omega
                           refine ⟨0, (3, (sk (tm M) (M 60 35) xz.2.2), 0), Rz, rd_fault h1 q2w (by rw [hMw]; exact oK) h5 (by decide) zB.1 hwB ?_, by omega, by omega⟩
                           rw [hun, if_neg (by omega), if_neg gA, if_pos zB.2]
                           exact ⟨rfl, rfl⟩)
                        | (have zA : Mz90 = st (st Mw 60 37 1) 60 38 wA0 ∧ (kdW (tm M) (M 60 35) (sk (tm M) (M 60 35) xz.2.2)) = -1 := by
                             rcases wA with y | y
                             · exact ⟨by rw [y.2.2.2, hMw, hwA0], by omega⟩
                             · exfalso; omega
                           refine ⟨0, (1, (sk (tm M) (M 60 35) xz.2.2), 0), Rz, rd_fault h1 q2w (by rw [hMw]; exact oK) h5 (by decide) zA.1 hwA ?_, by omega, by omega⟩
                           rw [hun, if_neg (by omega), if_pos zA.2]
                           exact ⟨rfl, rfl⟩)
                      obtain ⟨f2, x2, R2, r1, r2, r3⟩ := hbk
                      refine z_few [fr 60, fi kz, fu] (by simp [fle, kn]) ?_
                      exact ih81 _ (by omega) kz f2 x2 Mz90 R2 rfl (r1)
                    · have mC : Mz90 = Mw := by
                        rcases wC with y | y
                        · exfalso; omega
                        · rw [y.2.1]; exact mB
                      have gC : kz < 20 := by
                        rcases wC with y | y
                        · exfalso; omega
                        · omega
                      refine z_aload_nr dX8_read_179 rfl ?_
                      refine z_iload_n dX8_read_180 rfl ?_
                      refine z_callVv (n2 := 93) (A_X8_readClause l g Mz90 x15 _ _ ((s0 (rn (isL (tm M)) (M 60 35) (sk (tm M) (M 60 35) xz.2.2)))) (by rw [mC]; exact q2w) (ok2) (hl) (by omega) (rfl) (by rw [mC]; omega)) cb_X8_readClause cl_X8_282 (clr0 rfl rfl (by decide) (by decide)) rfl (by decide) ⟨_, rfl, rfl⟩ rfl (by decide) rfl (Nat.le_of_ble_eq_true rfl) rfl dX8_read_181 (fun Mz92 kMz92 hc92 => ?_)
                      have pC := hc92
                      rw [mC, hkd] at pC
                      refine z_iinc (loc2 := fun vq => [fr 60, fi vq, fi x15]) dX8_read_184 rfl (by decide) (by omega) (fun _ => rfl) (fun x93 hx93 => ?_)
                      refine z_goto (tgt := 81) dX8_read_187 (by decide) ?_
                      have hbk : ∃ (f2 : Int) (x2 : PR) (R2 : FMem), RdI M x93 f2 x2 Mz92 R2 ∧ (0 ≤ f2 ∧ 0 ≤ (x93 : Int) ∧ (x93 : Int) ≤ 20) ∧ 2 * (20 - (x93 : Int)) + f2 < 2 * (20 - kz) + fz := by
                        first
                        | (obtain ⟨f2, x2, R2, r1, r2, r3⟩ := rd_clause (M2 := Mz92) (kz := kz) (xz := xz) (by omega) k2 hlt k3 gA gB (by rw [hMw, dmw]; exact k4) (by rw [hMw]; exact oK) h5 pC
                           rw [hx93]
                           exact ⟨f2, x2, R2, r1, by omega, by omega⟩)
                        | (have zC : Mz92 = st (st Mw 60 37 4) 60 38 wC0 ∧ 20 ≤ kz := by
                             rcases wC with y | y
                             · exact ⟨by rw [y.2.2.2, mB, hwC0], by omega⟩
                             · exfalso; omega
                           refine ⟨0, (4, (sk (tm M) (M 60 35) xz.2.2), 0), Rz, rd_fault h1 q2w (by rw [hMw]; exact oK) h5 (by decide) zC.1 hwC ?_, by omega, by omega⟩
                           rw [hun, if_neg (by omega), if_neg gA, if_neg gB, if_pos zC.2]
                           exact ⟨rfl, rfl⟩)
                        | (have zB : Mz92 = st (st Mw 60 37 3) 60 38 wB0 ∧ ((kdW (tm M) (M 60 35) (sk (tm M) (M 60 35) xz.2.2)) = 4 ∧ 8 ≤ Rz 0 11) := by
                             rcases wB with y | y
                             · exact ⟨by rw [y.2.2.2, mA, hwB0], by omega⟩
                             · exfalso; omega
                           refine ⟨0, (3, (sk (tm M) (M 60 35) xz.2.2), 0), Rz, rd_fault h1 q2w (by rw [hMw]; exact oK) h5 (by decide) zB.1 hwB ?_, by omega, by omega⟩
                           rw [hun, if_neg (by omega), if_neg gA, if_pos zB.2]
                           exact ⟨rfl, rfl⟩)
                        | (have zA : Mz92 = st (st Mw 60 37 1) 60 38 wA0 ∧ (kdW (tm M) (M 60 35) (sk (tm M) (M 60 35) xz.2.2)) = -1 := by
                             rcases wA with y | y
                             · exact ⟨by rw [y.2.2.2, hMw, hwA0], by omega⟩
                             · exfalso; omega
                           refine ⟨0, (1, (sk (tm M) (M 60 35) xz.2.2), 0), Rz, rd_fault h1 q2w (by rw [hMw]; exact oK) h5 (by decide) zA.1 hwA ?_, by omega, by omega⟩
                           rw [hun, if_neg (by omega), if_pos zA.2]
                           exact ⟨rfl, rfl⟩)
                      obtain ⟨f2, x2, R2, r1, r2, r3⟩ := hbk
                      refine z_few [fr 60, fi x93, fu] (by simp [fle, kn]) ?_
                      exact ih81 _ (by omega) x93 f2 x2 Mz92 R2 rfl (r1)
                  · refine z_iconst dX8_read_163 ⟨by decide, by decide⟩ ?_
                    refine z_goto (tgt := 168) dX8_read_164 (by decide) ?_
                    refine z_iconst dX8_read_168 ⟨by decide, by decide⟩ ?_
                    refine z_aload_nr dX8_read_169 rfl ?_
                    refine z_geti (kz := 39) fl_X8_212 rfl (by decide) rfl dX8_read_170 (fun x94 hx94 bx94 => ?_)
                    obtain ⟨wC0, hwC0⟩ : ∃ z, z = x94 := ⟨_, rfl⟩
                    have hwC : wC0 = (sk (tm M) (M 60 35) xz.2.2) := by omega
                    have hgC : ((1 : Int) = 1 ∧ kz < 20) ∨ ((1 : Int) = 0 ∧ 20 ≤ kz) := by omega
                    refine z_callVi (n2 := 93) (A_X8_want l g Mz86 1 4 x94 (by omega) (by decide)) cb_X8_want cl_X8_226 (clr0 rfl rfl (by decide) (by decide)) rfl (by decide) ⟨_, rfl, rfl⟩ rfl (by decide) rfl (Nat.le_of_ble_eq_true rfl) rfl dX8_read_173 (fun x95 Mz95 bx95 kMz95 hc95 => ?_)
                    have wC := hc95
                    refine z_if_eq (tgt := 187) dX8_read_176 (by decide) (fun c96 => ?_) (fun c96 => ?_)
                    · refine z_goto (tgt := 81) dX8_read_187 (by decide) ?_
                      have hbk : ∃ (f2 : Int) (x2 : PR) (R2 : FMem), RdI M kz f2 x2 Mz95 R2 ∧ (0 ≤ f2 ∧ 0 ≤ (kz : Int) ∧ (kz : Int) ≤ 20) ∧ 2 * (20 - (kz : Int)) + f2 < 2 * (20 - kz) + fz := by
                        first
                        | (obtain ⟨f2, x2, R2, r1, r2, r3⟩ := rd_clause (M2 := Mz95) (kz := kz) (xz := xz) (by omega) k2 hlt k3 gA gB (by rw [hMw, dmw]; exact k4) (by rw [hMw]; exact oK) h5 pC
                           rw [hkz]
                           exact ⟨f2, x2, R2, r1, by omega, by omega⟩)
                        | (have zC : Mz95 = st (st Mw 60 37 4) 60 38 wC0 ∧ 20 ≤ kz := by
                             rcases wC with y | y
                             · exact ⟨by rw [y.2.2.2, mB, hwC0], by omega⟩
                             · exfalso; omega
                           refine ⟨0, (4, (sk (tm M) (M 60 35) xz.2.2), 0), Rz, rd_fault h1 q2w (by rw [hMw]; exact oK) h5 (by decide) zC.1 hwC ?_, by omega, by omega⟩
                           rw [hun, if_neg (by omega), if_neg gA, if_neg gB, if_pos zC.2]
                           exact ⟨rfl, rfl⟩)
                        | (have zB : Mz95 = st (st Mw 60 37 3) 60 38 wB0 ∧ ((kdW (tm M) (M 60 35) (sk (tm M) (M 60 35) xz.2.2)) = 4 ∧ 8 ≤ Rz 0 11) := by
                             rcases wB with y | y
                             · exact ⟨by rw [y.2.2.2, mA, hwB0], by omega⟩
                             · exfalso; omega
                           refine ⟨0, (3, (sk (tm M) (M 60 35) xz.2.2), 0), Rz, rd_fault h1 q2w (by rw [hMw]; exact oK) h5 (by decide) zB.1 hwB ?_, by omega, by omega⟩
                           rw [hun, if_neg (by omega), if_neg gA, if_pos zB.2]
                           exact ⟨rfl, rfl⟩)
                        | (have zA : Mz95 = st (st Mw 60 37 1) 60 38 wA0 ∧ (kdW (tm M) (M 60 35) (sk (tm M) (M 60 35) xz.2.2)) = -1 := by
                             rcases wA with y | y
                             · exact ⟨by rw [y.2.2.2, hMw, hwA0], by omega⟩
                             · exfalso; omega
                           refine ⟨0, (1, (sk (tm M) (M 60 35) xz.2.2), 0), Rz, rd_fault h1 q2w (by rw [hMw]; exact oK) h5 (by decide) zA.1 hwA ?_, by omega, by omega⟩
                           rw [hun, if_neg (by omega), if_pos zA.2]
                           exact ⟨rfl, rfl⟩)
                      obtain ⟨f2, x2, R2, r1, r2, r3⟩ := hbk
                      refine z_few [fr 60, fi kz, fu] (by simp [fle, kn]) ?_
                      exact ih81 _ (by omega) kz f2 x2 Mz95 R2 rfl (r1)
                    · have mC : Mz95 = Mw := by
                        rcases wC with y | y
                        · exfalso; omega
                        · rw [y.2.1]; exact mB
                      have gC : kz < 20 := by
                        rcases wC with y | y
                        · exfalso; omega
                        · omega
                      refine z_aload_nr dX8_read_179 rfl ?_
                      refine z_iload_n dX8_read_180 rfl ?_
                      refine z_callVv (n2 := 93) (A_X8_readClause l g Mz95 x15 _ _ ((s0 (rn (isL (tm M)) (M 60 35) (sk (tm M) (M 60 35) xz.2.2)))) (by rw [mC]; exact q2w) (ok2) (hl) (by omega) (rfl) (by rw [mC]; omega)) cb_X8_readClause cl_X8_282 (clr0 rfl rfl (by decide) (by decide)) rfl (by decide) ⟨_, rfl, rfl⟩ rfl (by decide) rfl (Nat.le_of_ble_eq_true rfl) rfl dX8_read_181 (fun Mz97 kMz97 hc97 => ?_)
                      have pC := hc97
                      rw [mC, hkd] at pC
                      refine z_iinc (loc2 := fun vq => [fr 60, fi vq, fi x15]) dX8_read_184 rfl (by decide) (by omega) (fun _ => rfl) (fun x98 hx98 => ?_)
                      refine z_goto (tgt := 81) dX8_read_187 (by decide) ?_
                      have hbk : ∃ (f2 : Int) (x2 : PR) (R2 : FMem), RdI M x98 f2 x2 Mz97 R2 ∧ (0 ≤ f2 ∧ 0 ≤ (x98 : Int) ∧ (x98 : Int) ≤ 20) ∧ 2 * (20 - (x98 : Int)) + f2 < 2 * (20 - kz) + fz := by
                        first
                        | (obtain ⟨f2, x2, R2, r1, r2, r3⟩ := rd_clause (M2 := Mz97) (kz := kz) (xz := xz) (by omega) k2 hlt k3 gA gB (by rw [hMw, dmw]; exact k4) (by rw [hMw]; exact oK) h5 pC
                           rw [hx98]
                           exact ⟨f2, x2, R2, r1, by omega, by omega⟩)
                        | (have zC : Mz97 = st (st Mw 60 37 4) 60 38 wC0 ∧ 20 ≤ kz := by
                             rcases wC with y | y
                             · exact ⟨by rw [y.2.2.2, mB, hwC0], by omega⟩
                             · exfalso; omega
                           refine ⟨0, (4, (sk (tm M) (M 60 35) xz.2.2), 0), Rz, rd_fault h1 q2w (by rw [hMw]; exact oK) h5 (by decide) zC.1 hwC ?_, by omega, by omega⟩
                           rw [hun, if_neg (by omega), if_neg gA, if_neg gB, if_pos zC.2]
                           exact ⟨rfl, rfl⟩)
                        | (have zB : Mz97 = st (st Mw 60 37 3) 60 38 wB0 ∧ ((kdW (tm M) (M 60 35) (sk (tm M) (M 60 35) xz.2.2)) = 4 ∧ 8 ≤ Rz 0 11) := by
                             rcases wB with y | y
                             · exact ⟨by rw [y.2.2.2, mA, hwB0], by omega⟩
                             · exfalso; omega
                           refine ⟨0, (3, (sk (tm M) (M 60 35) xz.2.2), 0), Rz, rd_fault h1 q2w (by rw [hMw]; exact oK) h5 (by decide) zB.1 hwB ?_, by omega, by omega⟩
                           rw [hun, if_neg (by omega), if_neg gA, if_pos zB.2]
                           exact ⟨rfl, rfl⟩)
                        | (have zA : Mz97 = st (st Mw 60 37 1) 60 38 wA0 ∧ (kdW (tm M) (M 60 35) (sk (tm M) (M 60 35) xz.2.2)) = -1 := by
                             rcases wA with y | y
                             · exact ⟨by rw [y.2.2.2, hMw, hwA0], by omega⟩
                             · exfalso; omega
                           refine ⟨0, (1, (sk (tm M) (M 60 35) xz.2.2), 0), Rz, rd_fault h1 q2w (by rw [hMw]; exact oK) h5 (by decide) zA.1 hwA ?_, by omega, by omega⟩
                           rw [hun, if_neg (by omega), if_pos zA.2]
                           exact ⟨rfl, rfl⟩)
                      obtain ⟨f2, x2, R2, r1, r2, r3⟩ := hbk
                      refine z_few [fr 60, fi x98, fu] (by simp [fle, kn]) ?_
                      exact ih81 _ (by omega) x98 f2 x2 Mz97 R2 rfl (r1)
              · refine z_iconst dX8_read_140 ⟨by decide, by decide⟩ ?_
                refine z_goto (tgt := 145) dX8_read_141 (by decide) ?_
                refine z_iconst dX8_read_145 ⟨by decide, by decide⟩ ?_
                refine z_aload_nr dX8_read_146 rfl ?_
                refine z_geti (kz := 39) fl_X8_212 rfl (by decide) rfl dX8_read_147 (fun x99 hx99 bx99 => ?_)
                obtain ⟨wB0, hwB0⟩ : ∃ z, z = x99 := ⟨_, rfl⟩
                have hwB : wB0 = (sk (tm M) (M 60 35) xz.2.2) := by omega
                have hgB : ((1 : Int) = 1 ∧ ¬ ((kdW (tm M) (M 60 35) (sk (tm M) (M 60 35) xz.2.2)) = 4 ∧ 8 ≤ Rz 0 11)) ∨ ((1 : Int) = 0 ∧ ((kdW (tm M) (M 60 35) (sk (tm M) (M 60 35) xz.2.2)) = 4 ∧ 8 ≤ Rz 0 11)) := by omega
                refine z_callVi (n2 := 93) (A_X8_want l g Mz66 1 3 x99 (by omega) (by decide)) cb_X8_want cl_X8_226 (clr0 rfl rfl (by decide) (by decide)) rfl (by decide) ⟨_, rfl, rfl⟩ rfl (by decide) rfl (Nat.le_of_ble_eq_true rfl) rfl dX8_read_150 (fun x100 Mz100 bx100 kMz100 hc100 => ?_)
                have wB := hc100
                refine z_if_eq (tgt := 187) dX8_read_153 (by decide) (fun c101 => ?_) (fun c101 => ?_)
                · refine z_goto (tgt := 81) dX8_read_187 (by decide) ?_
                  have hbk : ∃ (f2 : Int) (x2 : PR) (R2 : FMem), RdI M kz f2 x2 Mz100 R2 ∧ (0 ≤ f2 ∧ 0 ≤ (kz : Int) ∧ (kz : Int) ≤ 20) ∧ 2 * (20 - (kz : Int)) + f2 < 2 * (20 - kz) + fz := by
                    first
                    | (obtain ⟨f2, x2, R2, r1, r2, r3⟩ := rd_clause (M2 := Mz100) (kz := kz) (xz := xz) (by omega) k2 hlt k3 gA gB (by rw [hMw, dmw]; exact k4) (by rw [hMw]; exact oK) h5 pC
                       rw [hkz]
                       exact ⟨f2, x2, R2, r1, by omega, by omega⟩)
                    | (have zC : Mz100 = st (st Mw 60 37 4) 60 38 wC0 ∧ 20 ≤ kz := by
                         rcases wC with y | y
                         · exact ⟨by rw [y.2.2.2, mB, hwC0], by omega⟩
                         · exfalso; omega
                       refine ⟨0, (4, (sk (tm M) (M 60 35) xz.2.2), 0), Rz, rd_fault h1 q2w (by rw [hMw]; exact oK) h5 (by decide) zC.1 hwC ?_, by omega, by omega⟩
                       rw [hun, if_neg (by omega), if_neg gA, if_neg gB, if_pos zC.2]
                       exact ⟨rfl, rfl⟩)
                    | (have zB : Mz100 = st (st Mw 60 37 3) 60 38 wB0 ∧ ((kdW (tm M) (M 60 35) (sk (tm M) (M 60 35) xz.2.2)) = 4 ∧ 8 ≤ Rz 0 11) := by
                         rcases wB with y | y
                         · exact ⟨by rw [y.2.2.2, mA, hwB0], by omega⟩
                         · exfalso; omega
                       refine ⟨0, (3, (sk (tm M) (M 60 35) xz.2.2), 0), Rz, rd_fault h1 q2w (by rw [hMw]; exact oK) h5 (by decide) zB.1 hwB ?_, by omega, by omega⟩
                       rw [hun, if_neg (by omega), if_neg gA, if_pos zB.2]
                       exact ⟨rfl, rfl⟩)
                    | (have zA : Mz100 = st (st Mw 60 37 1) 60 38 wA0 ∧ (kdW (tm M) (M 60 35) (sk (tm M) (M 60 35) xz.2.2)) = -1 := by
                         rcases wA with y | y
                         · exact ⟨by rw [y.2.2.2, hMw, hwA0], by omega⟩
                         · exfalso; omega
                       refine ⟨0, (1, (sk (tm M) (M 60 35) xz.2.2), 0), Rz, rd_fault h1 q2w (by rw [hMw]; exact oK) h5 (by decide) zA.1 hwA ?_, by omega, by omega⟩
                       rw [hun, if_neg (by omega), if_pos zA.2]
                       exact ⟨rfl, rfl⟩)
                  obtain ⟨f2, x2, R2, r1, r2, r3⟩ := hbk
                  refine z_few [fr 60, fi kz, fu] (by simp [fle, kn]) ?_
                  exact ih81 _ (by omega) kz f2 x2 Mz100 R2 rfl (r1)
                · have mB : Mz100 = Mw := by
                    rcases wB with y | y
                    · exfalso; omega
                    · rw [y.2.1]; exact mA
                  have gB : ¬ ((kdW (tm M) (M 60 35) (sk (tm M) (M 60 35) xz.2.2)) = 4 ∧ 8 ≤ Rz 0 11) := by
                    rcases wB with y | y
                    · exfalso; omega
                    · omega
                  have frB : Mz100 60 39 = (sk (tm M) (M 60 35) xz.2.2) := by rw [mB]; exact frw
                  have f0B : Mz100 60 37 = 0 := by rw [mB]; exact f0w
                  refine z_aload_nr dX8_read_156 rfl ?_
                  refine z_iload_n dX8_read_157 rfl ?_
                  refine z_bipush dX8_read_158 ⟨by decide, by decide⟩ (by decide) ?_
                  refine z_icmp_ge (tgt := 167) dX8_read_160 (by decide) (fun c102 => ?_) (fun c102 => ?_)
                  · refine z_iconst dX8_read_167 ⟨by decide, by decide⟩ ?_
                    refine z_iconst dX8_read_168 ⟨by decide, by decide⟩ ?_
                    refine z_aload_nr dX8_read_169 rfl ?_
                    refine z_geti (kz := 39) fl_X8_212 rfl (by decide) rfl dX8_read_170 (fun x103 hx103 bx103 => ?_)
                    obtain ⟨wC0, hwC0⟩ : ∃ z, z = x103 := ⟨_, rfl⟩
                    have hwC : wC0 = (sk (tm M) (M 60 35) xz.2.2) := by omega
                    have hgC : ((0 : Int) = 1 ∧ kz < 20) ∨ ((0 : Int) = 0 ∧ 20 ≤ kz) := by omega
                    refine z_callVi (n2 := 93) (A_X8_want l g Mz100 0 4 x103 (by omega) (by decide)) cb_X8_want cl_X8_226 (clr0 rfl rfl (by decide) (by decide)) rfl (by decide) ⟨_, rfl, rfl⟩ rfl (by decide) rfl (Nat.le_of_ble_eq_true rfl) rfl dX8_read_173 (fun x104 Mz104 bx104 kMz104 hc104 => ?_)
                    have wC := hc104
                    refine z_if_eq (tgt := 187) dX8_read_176 (by decide) (fun c105 => ?_) (fun c105 => ?_)
                    · refine z_goto (tgt := 81) dX8_read_187 (by decide) ?_
                      have hbk : ∃ (f2 : Int) (x2 : PR) (R2 : FMem), RdI M kz f2 x2 Mz104 R2 ∧ (0 ≤ f2 ∧ 0 ≤ (kz : Int) ∧ (kz : Int) ≤ 20) ∧ 2 * (20 - (kz : Int)) + f2 < 2 * (20 - kz) + fz := by
                        first
                        | (obtain ⟨f2, x2, R2, r1, r2, r3⟩ := rd_clause (M2 := Mz104) (kz := kz) (xz := xz) (by omega) k2 hlt k3 gA gB (by rw [hMw, dmw]; exact k4) (by rw [hMw]; exact oK) h5 pC
                           rw [hkz]
                           exact ⟨f2, x2, R2, r1, by omega, by omega⟩)
                        | (have zC : Mz104 = st (st Mw 60 37 4) 60 38 wC0 ∧ 20 ≤ kz := by
                             rcases wC with y | y
                             · exact ⟨by rw [y.2.2.2, mB, hwC0], by omega⟩
                             · exfalso; omega
                           refine ⟨0, (4, (sk (tm M) (M 60 35) xz.2.2), 0), Rz, rd_fault h1 q2w (by rw [hMw]; exact oK) h5 (by decide) zC.1 hwC ?_, by omega, by omega⟩
                           rw [hun, if_neg (by omega), if_neg gA, if_neg gB, if_pos zC.2]
                           exact ⟨rfl, rfl⟩)
                        | (have zB : Mz104 = st (st Mw 60 37 3) 60 38 wB0 ∧ ((kdW (tm M) (M 60 35) (sk (tm M) (M 60 35) xz.2.2)) = 4 ∧ 8 ≤ Rz 0 11) := by
                             rcases wB with y | y
                             · exact ⟨by rw [y.2.2.2, mA, hwB0], by omega⟩
                             · exfalso; omega
                           refine ⟨0, (3, (sk (tm M) (M 60 35) xz.2.2), 0), Rz, rd_fault h1 q2w (by rw [hMw]; exact oK) h5 (by decide) zB.1 hwB ?_, by omega, by omega⟩
                           rw [hun, if_neg (by omega), if_neg gA, if_pos zB.2]
                           exact ⟨rfl, rfl⟩)
                        | (have zA : Mz104 = st (st Mw 60 37 1) 60 38 wA0 ∧ (kdW (tm M) (M 60 35) (sk (tm M) (M 60 35) xz.2.2)) = -1 := by
                             rcases wA with y | y
                             · exact ⟨by rw [y.2.2.2, hMw, hwA0], by omega⟩
                             · exfalso; omega
                           refine ⟨0, (1, (sk (tm M) (M 60 35) xz.2.2), 0), Rz, rd_fault h1 q2w (by rw [hMw]; exact oK) h5 (by decide) zA.1 hwA ?_, by omega, by omega⟩
                           rw [hun, if_neg (by omega), if_pos zA.2]
                           exact ⟨rfl, rfl⟩)
                      obtain ⟨f2, x2, R2, r1, r2, r3⟩ := hbk
                      refine z_few [fr 60, fi kz, fu] (by simp [fle, kn]) ?_
                      exact ih81 _ (by omega) kz f2 x2 Mz104 R2 rfl (r1)
                    · have mC : Mz104 = Mw := by
                        rcases wC with y | y
                        · exfalso; omega
                        · rw [y.2.1]; exact mB
                      have gC : kz < 20 := by
                        rcases wC with y | y
                        · exfalso; omega
                        · omega
                      refine z_aload_nr dX8_read_179 rfl ?_
                      refine z_iload_n dX8_read_180 rfl ?_
                      refine z_callVv (n2 := 93) (A_X8_readClause l g Mz104 x15 _ _ ((s0 (rn (isL (tm M)) (M 60 35) (sk (tm M) (M 60 35) xz.2.2)))) (by rw [mC]; exact q2w) (ok2) (hl) (by omega) (rfl) (by rw [mC]; omega)) cb_X8_readClause cl_X8_282 (clr0 rfl rfl (by decide) (by decide)) rfl (by decide) ⟨_, rfl, rfl⟩ rfl (by decide) rfl (Nat.le_of_ble_eq_true rfl) rfl dX8_read_181 (fun Mz106 kMz106 hc106 => ?_)
                      have pC := hc106
                      rw [mC, hkd] at pC
                      refine z_iinc (loc2 := fun vq => [fr 60, fi vq, fi x15]) dX8_read_184 rfl (by decide) (by omega) (fun _ => rfl) (fun x107 hx107 => ?_)
                      refine z_goto (tgt := 81) dX8_read_187 (by decide) ?_
                      have hbk : ∃ (f2 : Int) (x2 : PR) (R2 : FMem), RdI M x107 f2 x2 Mz106 R2 ∧ (0 ≤ f2 ∧ 0 ≤ (x107 : Int) ∧ (x107 : Int) ≤ 20) ∧ 2 * (20 - (x107 : Int)) + f2 < 2 * (20 - kz) + fz := by
                        first
                        | (obtain ⟨f2, x2, R2, r1, r2, r3⟩ := rd_clause (M2 := Mz106) (kz := kz) (xz := xz) (by omega) k2 hlt k3 gA gB (by rw [hMw, dmw]; exact k4) (by rw [hMw]; exact oK) h5 pC
                           rw [hx107]
                           exact ⟨f2, x2, R2, r1, by omega, by omega⟩)
                        | (have zC : Mz106 = st (st Mw 60 37 4) 60 38 wC0 ∧ 20 ≤ kz := by
                             rcases wC with y | y
                             · exact ⟨by rw [y.2.2.2, mB, hwC0], by omega⟩
                             · exfalso; omega
                           refine ⟨0, (4, (sk (tm M) (M 60 35) xz.2.2), 0), Rz, rd_fault h1 q2w (by rw [hMw]; exact oK) h5 (by decide) zC.1 hwC ?_, by omega, by omega⟩
                           rw [hun, if_neg (by omega), if_neg gA, if_neg gB, if_pos zC.2]
                           exact ⟨rfl, rfl⟩)
                        | (have zB : Mz106 = st (st Mw 60 37 3) 60 38 wB0 ∧ ((kdW (tm M) (M 60 35) (sk (tm M) (M 60 35) xz.2.2)) = 4 ∧ 8 ≤ Rz 0 11) := by
                             rcases wB with y | y
                             · exact ⟨by rw [y.2.2.2, mA, hwB0], by omega⟩
                             · exfalso; omega
                           refine ⟨0, (3, (sk (tm M) (M 60 35) xz.2.2), 0), Rz, rd_fault h1 q2w (by rw [hMw]; exact oK) h5 (by decide) zB.1 hwB ?_, by omega, by omega⟩
                           rw [hun, if_neg (by omega), if_neg gA, if_pos zB.2]
                           exact ⟨rfl, rfl⟩)
                        | (have zA : Mz106 = st (st Mw 60 37 1) 60 38 wA0 ∧ (kdW (tm M) (M 60 35) (sk (tm M) (M 60 35) xz.2.2)) = -1 := by
                             rcases wA with y | y
                             · exact ⟨by rw [y.2.2.2, hMw, hwA0], by omega⟩
                             · exfalso; omega
                           refine ⟨0, (1, (sk (tm M) (M 60 35) xz.2.2), 0), Rz, rd_fault h1 q2w (by rw [hMw]; exact oK) h5 (by decide) zA.1 hwA ?_, by omega, by omega⟩
                           rw [hun, if_neg (by omega), if_pos zA.2]
                           exact ⟨rfl, rfl⟩)
                      obtain ⟨f2, x2, R2, r1, r2, r3⟩ := hbk
                      refine z_few [fr 60, fi x107, fu] (by simp [fle, kn]) ?_
                      exact ih81 _ (by omega) x107 f2 x2 Mz106 R2 rfl (r1)
                  · refine z_iconst dX8_read_163 ⟨by decide, by decide⟩ ?_
                    refine z_goto (tgt := 168) dX8_read_164 (by decide) ?_
                    refine z_iconst dX8_read_168 ⟨by decide, by decide⟩ ?_
                    refine z_aload_nr dX8_read_169 rfl ?_
                    refine z_geti (kz := 39) fl_X8_212 rfl (by decide) rfl dX8_read_170 (fun x108 hx108 bx108 => ?_)
                    obtain ⟨wC0, hwC0⟩ : ∃ z, z = x108 := ⟨_, rfl⟩
                    have hwC : wC0 = (sk (tm M) (M 60 35) xz.2.2) := by omega
                    have hgC : ((1 : Int) = 1 ∧ kz < 20) ∨ ((1 : Int) = 0 ∧ 20 ≤ kz) := by omega
                    refine z_callVi (n2 := 93) (A_X8_want l g Mz100 1 4 x108 (by omega) (by decide)) cb_X8_want cl_X8_226 (clr0 rfl rfl (by decide) (by decide)) rfl (by decide) ⟨_, rfl, rfl⟩ rfl (by decide) rfl (Nat.le_of_ble_eq_true rfl) rfl dX8_read_173 (fun x109 Mz109 bx109 kMz109 hc109 => ?_)
                    have wC := hc109
                    refine z_if_eq (tgt := 187) dX8_read_176 (by decide) (fun c110 => ?_) (fun c110 => ?_)
                    · refine z_goto (tgt := 81) dX8_read_187 (by decide) ?_
                      have hbk : ∃ (f2 : Int) (x2 : PR) (R2 : FMem), RdI M kz f2 x2 Mz109 R2 ∧ (0 ≤ f2 ∧ 0 ≤ (kz : Int) ∧ (kz : Int) ≤ 20) ∧ 2 * (20 - (kz : Int)) + f2 < 2 * (20 - kz) + fz := by
                        first
                        | (obtain ⟨f2, x2, R2, r1, r2, r3⟩ := rd_clause (M2 := Mz109) (kz := kz) (xz := xz) (by omega) k2 hlt k3 gA gB (by rw [hMw, dmw]; exact k4) (by rw [hMw]; exact oK) h5 pC
                           rw [hkz]
                           exact ⟨f2, x2, R2, r1, by omega, by omega⟩)
                        | (have zC : Mz109 = st (st Mw 60 37 4) 60 38 wC0 ∧ 20 ≤ kz := by
                             rcases wC with y | y
                             · exact ⟨by rw [y.2.2.2, mB, hwC0], by omega⟩
                             · exfalso; omega
                           refine ⟨0, (4, (sk (tm M) (M 60 35) xz.2.2), 0), Rz, rd_fault h1 q2w (by rw [hMw]; exact oK) h5 (by decide) zC.1 hwC ?_, by omega, by omega⟩
                           rw [hun, if_neg (by omega), if_neg gA, if_neg gB, if_pos zC.2]
                           exact ⟨rfl, rfl⟩)
                        | (have zB : Mz109 = st (st Mw 60 37 3) 60 38 wB0 ∧ ((kdW (tm M) (M 60 35) (sk (tm M) (M 60 35) xz.2.2)) = 4 ∧ 8 ≤ Rz 0 11) := by
                             rcases wB with y | y
                             · exact ⟨by rw [y.2.2.2, mA, hwB0], by omega⟩
                             · exfalso; omega
                           refine ⟨0, (3, (sk (tm M) (M 60 35) xz.2.2), 0), Rz, rd_fault h1 q2w (by rw [hMw]; exact oK) h5 (by decide) zB.1 hwB ?_, by omega, by omega⟩
                           rw [hun, if_neg (by omega), if_neg gA, if_pos zB.2]
                           exact ⟨rfl, rfl⟩)
                        | (have zA : Mz109 = st (st Mw 60 37 1) 60 38 wA0 ∧ (kdW (tm M) (M 60 35) (sk (tm M) (M 60 35) xz.2.2)) = -1 := by
                             rcases wA with y | y
                             · exact ⟨by rw [y.2.2.2, hMw, hwA0], by omega⟩
                             · exfalso; omega
                           refine ⟨0, (1, (sk (tm M) (M 60 35) xz.2.2), 0), Rz, rd_fault h1 q2w (by rw [hMw]; exact oK) h5 (by decide) zA.1 hwA ?_, by omega, by omega⟩
                           rw [hun, if_neg (by omega), if_pos zA.2]
                           exact ⟨rfl, rfl⟩)
                      obtain ⟨f2, x2, R2, r1, r2, r3⟩ := hbk
                      refine z_few [fr 60, fi kz, fu] (by simp [fle, kn]) ?_
                      exact ih81 _ (by omega) kz f2 x2 Mz109 R2 rfl (r1)
                    · have mC : Mz109 = Mw := by
                        rcases wC with y | y
                        · exfalso; omega
                        · rw [y.2.1]; exact mB
                      have gC : kz < 20 := by
                        rcases wC with y | y
                        · exfalso; omega
                        · omega
                      refine z_aload_nr dX8_read_179 rfl ?_
                      refine z_iload_n dX8_read_180 rfl ?_
                      refine z_callVv (n2 := 93) (A_X8_readClause l g Mz109 x15 _ _ ((s0 (rn (isL (tm M)) (M 60 35) (sk (tm M) (M 60 35) xz.2.2)))) (by rw [mC]; exact q2w) (ok2) (hl) (by omega) (rfl) (by rw [mC]; omega)) cb_X8_readClause cl_X8_282 (clr0 rfl rfl (by decide) (by decide)) rfl (by decide) ⟨_, rfl, rfl⟩ rfl (by decide) rfl (Nat.le_of_ble_eq_true rfl) rfl dX8_read_181 (fun Mz111 kMz111 hc111 => ?_)
                      have pC := hc111
                      rw [mC, hkd] at pC
                      refine z_iinc (loc2 := fun vq => [fr 60, fi vq, fi x15]) dX8_read_184 rfl (by decide) (by omega) (fun _ => rfl) (fun x112 hx112 => ?_)
                      refine z_goto (tgt := 81) dX8_read_187 (by decide) ?_
                      have hbk : ∃ (f2 : Int) (x2 : PR) (R2 : FMem), RdI M x112 f2 x2 Mz111 R2 ∧ (0 ≤ f2 ∧ 0 ≤ (x112 : Int) ∧ (x112 : Int) ≤ 20) ∧ 2 * (20 - (x112 : Int)) + f2 < 2 * (20 - kz) + fz := by
                        first
                        | (obtain ⟨f2, x2, R2, r1, r2, r3⟩ := rd_clause (M2 := Mz111) (kz := kz) (xz := xz) (by omega) k2 hlt k3 gA gB (by rw [hMw, dmw]; exact k4) (by rw [hMw]; exact oK) h5 pC
                           rw [hx112]
                           exact ⟨f2, x2, R2, r1, by omega, by omega⟩)
                        | (have zC : Mz111 = st (st Mw 60 37 4) 60 38 wC0 ∧ 20 ≤ kz := by
                             rcases wC with y | y
                             · exact ⟨by rw [y.2.2.2, mB, hwC0], by omega⟩
                             · exfalso; omega
                           refine ⟨0, (4, (sk (tm M) (M 60 35) xz.2.2), 0), Rz, rd_fault h1 q2w (by rw [hMw]; exact oK) h5 (by decide) zC.1 hwC ?_, by omega, by omega⟩
                           rw [hun, if_neg (by omega), if_neg gA, if_neg gB, if_pos zC.2]
                           exact ⟨rfl, rfl⟩)
                        | (have zB : Mz111 = st (st Mw 60 37 3) 60 38 wB0 ∧ ((kdW (tm M) (M 60 35) (sk (tm M) (M 60 35) xz.2.2)) = 4 ∧ 8 ≤ Rz 0 11) := by
                             rcases wB with y | y
                             · exact ⟨by rw [y.2.2.2, mA, hwB0], by omega⟩
                             · exfalso; omega
                           refine ⟨0, (3, (sk (tm M) (M 60 35) xz.2.2), 0), Rz, rd_fault h1 q2w (by rw [hMw]; exact oK) h5 (by decide) zB.1 hwB ?_, by omega, by omega⟩
                           rw [hun, if_neg (by omega), if_neg gA, if_pos zB.2]
                           exact ⟨rfl, rfl⟩)
                        | (have zA : Mz111 = st (st Mw 60 37 1) 60 38 wA0 ∧ (kdW (tm M) (M 60 35) (sk (tm M) (M 60 35) xz.2.2)) = -1 := by
                             rcases wA with y | y
                             · exact ⟨by rw [y.2.2.2, hMw, hwA0], by omega⟩
                             · exfalso; omega
                           refine ⟨0, (1, (sk (tm M) (M 60 35) xz.2.2), 0), Rz, rd_fault h1 q2w (by rw [hMw]; exact oK) h5 (by decide) zA.1 hwA ?_, by omega, by omega⟩
                           rw [hun, if_neg (by omega), if_pos zA.2]
                           exact ⟨rfl, rfl⟩)
                      obtain ⟨f2, x2, R2, r1, r2, r3⟩ := hbk
                      refine z_few [fr 60, fi x112, fu] (by simp [fle, kn]) ?_
                      exact ih81 _ (by omega) x112 f2 x2 Mz111 R2 rfl (r1)
  have lp38 : ∀ (kq : Nat) (kz : Int) (M1 : FMem), (6 - kz).toNat = kq → (0 ≤ kz ∧ kz ≤ 6) → (M1 = zrR (st (st (st M 60 36 0) 60 37 0) 60 38 (-1)) 24 kz) → Wa l g true fi_X8_read 93 μ (Zi g true fi_X8_read 93 μ (fun q M2 => M2 60 38 = (rdl (tm M) (M 60 35) 21 0 0 R0).2.1 ∧ M2 60 35 = 0 ∧ (∀ b j, ¬ (75 ≤ b ∧ b ≤ 84) → ¬ (b = 60 ∧ (j = 17 ∨ j = 18 ∨ j = 20 ∨ j = 21 ∨ (27 ≤ j ∧ j ≤ 30) ∨ (35 ≤ j ∧ j ≤ 40))) → M2 b j = M b j) ∧ (((rdl (tm M) (M 60 35) 21 0 0 R0).1 ≠ 0 ∧ q = -10 - (rdl (tm M) (M 60 35) 21 0 0 R0).1 ∧ (∀ b j, ((75 ≤ b ∧ b ≤ 79) ∨ (b = 60 ∧ (j = 17 ∨ j = 18 ∨ j = 20 ∨ j = 21))) → M2 b j = M b j)) ∨ ((rdl (tm M) (M 60 35) 21 0 0 R0).1 = 0 ∧ q = (rdl (tm M) (M 60 35) 21 0 0 R0).2.2.1 ∧ DrP (rm M2) (rdl (tm M) (M 60 35) 21 0 0 R0).2.2.2)))) 38 [] [fr 60, fi kz, fu] 93 M1 := by
    intro kq
    induction kq using Nat.strongRecOn with
    | _ kq ih38 =>
    intro kz M1 hk38 hk hM
    refine z_iload_n dX8_read_38 rfl ?_
    refine z_bipush dX8_read_39 ⟨by decide, by decide⟩ (by decide) ?_
    refine z_icmp_ge (tgt := 57) dX8_read_41 (by decide) (fun c113 => ?_) (fun c113 => ?_)
    · refine z_aload_nr dX8_read_57 rfl ?_
      refine z_bipush dX8_read_58 ⟨by decide, by decide⟩ (by decide) ?_
      refine z_puti (kz := 27) fl_X8_258 rfl (by decide) rfl nr_60_27 dX8_read_60 (fun Mz114 hMz114 => ?_)
      refine z_aload_nr dX8_read_63 rfl ?_
      refine z_bipush dX8_read_64 ⟨by decide, by decide⟩ (by decide) ?_
      refine z_puti (kz := 28) fl_X8_261 rfl (by decide) rfl nr_60_28 dX8_read_66 (fun Mz115 hMz115 => ?_)
      refine z_aload_nr dX8_read_69 rfl ?_
      refine z_iconst dX8_read_70 ⟨by decide, by decide⟩ ?_
      refine z_puti (kz := 29) fl_X8_267 rfl (by decide) rfl nr_60_29 dX8_read_71 (fun Mz116 hMz116 => ?_)
      refine z_aload_nr dX8_read_74 rfl ?_
      refine z_iconst dX8_read_75 ⟨by decide, by decide⟩ ?_
      refine z_puti (kz := 30) fl_X8_252 rfl (by decide) rfl nr_60_30 dX8_read_76 (fun Mz117 hMz117 => ?_)
      refine z_iconst dX8_read_79 ⟨by decide, by decide⟩ ?_
      refine z_istore_n (loc2 := [fr 60, fi 0, fu]) dX8_read_80 (by decide) rfl ?_
      exact lp81 _ 0 1 (0, 0, 0) Mz117 R0 rfl (by rw [hMz117, hMz116, hMz115, hMz114, hM, show kz = 6 by omega]; exact rd_init hl.1)
    · refine z_aload_nr dX8_read_44 rfl ?_
      refine z_getr (b := 81) fl_X8_71 rfl (by decide) rf_60_26 rfl dX8_read_45 ?_
      refine z_iload_n dX8_read_48 rfl ?_
      refine z_iconst dX8_read_49 ⟨by decide, by decide⟩ ?_
      refine z_iast rfl (by decide) (by omega) (by omega) dX8_read_50 (fun Mz118 hMz118 => ?_)
      refine z_iinc (loc2 := fun vq => [fr 60, fi vq, fu]) dX8_read_51 rfl (by decide) (by omega) (fun _ => rfl) (fun x119 hx119 => ?_)
      refine z_goto (tgt := 38) dX8_read_54 (by decide) ?_
      exact ih38 _ (by omega) x119 Mz118 rfl (by omega) (by rw [hx119, ← zrR_b hk.1, hMz118, hM])
  have lp17 : ∀ (kq : Nat) (kz : Int) (M1 : FMem), (24 - kz).toNat = kq → (0 ≤ kz ∧ kz ≤ 24) → (M1 = zrR (st (st (st M 60 36 0) 60 37 0) 60 38 (-1)) kz 0) → Wa l g true fi_X8_read 93 μ (Zi g true fi_X8_read 93 μ (fun q M2 => M2 60 38 = (rdl (tm M) (M 60 35) 21 0 0 R0).2.1 ∧ M2 60 35 = 0 ∧ (∀ b j, ¬ (75 ≤ b ∧ b ≤ 84) → ¬ (b = 60 ∧ (j = 17 ∨ j = 18 ∨ j = 20 ∨ j = 21 ∨ (27 ≤ j ∧ j ≤ 30) ∨ (35 ≤ j ∧ j ≤ 40))) → M2 b j = M b j) ∧ (((rdl (tm M) (M 60 35) 21 0 0 R0).1 ≠ 0 ∧ q = -10 - (rdl (tm M) (M 60 35) 21 0 0 R0).1 ∧ (∀ b j, ((75 ≤ b ∧ b ≤ 79) ∨ (b = 60 ∧ (j = 17 ∨ j = 18 ∨ j = 20 ∨ j = 21))) → M2 b j = M b j)) ∨ ((rdl (tm M) (M 60 35) 21 0 0 R0).1 = 0 ∧ q = (rdl (tm M) (M 60 35) 21 0 0 R0).2.2.1 ∧ DrP (rm M2) (rdl (tm M) (M 60 35) 21 0 0 R0).2.2.2)))) 17 [] [fr 60, fi kz, fu] 93 M1 := by
    intro kq
    induction kq using Nat.strongRecOn with
    | _ kq ih17 =>
    intro kz M1 hk17 hk hM
    refine z_iload_n dX8_read_17 rfl ?_
    refine z_bipush dX8_read_18 ⟨by decide, by decide⟩ (by decide) ?_
    refine z_icmp_ge (tgt := 36) dX8_read_20 (by decide) (fun c120 => ?_) (fun c120 => ?_)
    · refine z_iconst dX8_read_36 ⟨by decide, by decide⟩ ?_
      refine z_istore_n (loc2 := [fr 60, fi 0, fu]) dX8_read_37 (by decide) rfl ?_
      exact lp38 _ 0 M1 rfl (by omega) (by rw [hM, show kz = 24 by omega])
    · refine z_aload_nr dX8_read_23 rfl ?_
      refine z_getr (b := 80) fl_X8_68 rfl (by decide) rf_60_25 rfl dX8_read_24 ?_
      refine z_iload_n dX8_read_27 rfl ?_
      refine z_iconst dX8_read_28 ⟨by decide, by decide⟩ ?_
      refine z_iast rfl (by decide) (by omega) (by omega) dX8_read_29 (fun Mz121 hMz121 => ?_)
      refine z_iinc (loc2 := fun vq => [fr 60, fi vq, fu]) dX8_read_30 rfl (by decide) (by omega) (fun _ => rfl) (fun x122 hx122 => ?_)
      refine z_goto (tgt := 17) dX8_read_33 (by decide) ?_
      exact ih17 _ (by omega) x122 Mz121 rfl (by omega) (by rw [hx122, ← zrR_a hk.1, hMz121, hM])
  refine z_aload_nr dX8_read_0 rfl ?_
  refine z_iconst dX8_read_1 ⟨by decide, by decide⟩ ?_
  refine z_puti (kz := 36) fl_X8_202 rfl (by decide) rfl nr_60_36 dX8_read_2 (fun Mz123 hMz123 => ?_)
  refine z_aload_nr dX8_read_5 rfl ?_
  refine z_iconst dX8_read_6 ⟨by decide, by decide⟩ ?_
  refine z_puti (kz := 37) fl_X8_205 rfl (by decide) rfl nr_60_37 dX8_read_7 (fun Mz124 hMz124 => ?_)
  refine z_aload_nr dX8_read_10 rfl ?_
  refine z_iconst dX8_read_11 ⟨by decide, by decide⟩ ?_
  refine z_puti (kz := 38) fl_X8_86 rfl (by decide) rfl nr_60_38 dX8_read_12 (fun Mz125 hMz125 => ?_)
  refine z_iconst dX8_read_15 ⟨by decide, by decide⟩ ?_
  refine z_istore_n (loc2 := [fr 60, fi 0, fu]) dX8_read_16 (by decide) rfl ?_
  exact lp17 _ 0 Mz125 rfl (by omega) (by rw [zrR_0, hMz125, hMz124, hMz123])
