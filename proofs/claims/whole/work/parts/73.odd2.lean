/-! ===== the reference: findOdd, odd ===== -/
def OddC (F1 : Int → Prop) (F2 : Int → Int → Prop) (om oc : Int) : Prop := ∃ fe fi se, OddS F1 F2 fe fi se ∧ om = fe ∧ ((fe = -1 ∧ fi = -1 ∧ se = -1) ∨ (fe = 1 ∧ oc = fi ∧ 0 ≤ fi ∧ fi < 80 ∧ se = -1) ∨ (fe = 2 ∧ oc = 100 * fi + se ∧ 0 ≤ fi ∧ fi < se ∧ se < 80))
/-- the first ring: size, tellings; whatever ends the quarrel has one of them -/
def Rg0 (M : FMem) (rz : Int) (R : Int → Int) : Prop := (1 ≤ rz ∧ rz ≤ 17) ∧ (∀ k, 0 ≤ k → k < rz → 0 ≤ R k ∧ R k < M 60 0) ∧ ∀ a b, Feas (SolR M (M 60 0) (-1) a b 0) → ∃ k, 0 ≤ k ∧ k < rz ∧ (R k = a ∨ R k = b)
def RgM (rz : Int) (R : Int → Int) (M1 : FMem) : Prop := M1 91 0 = rz ∧ ∀ k, 0 ≤ k → k < rz → M1 90 k = R k
def OutM (M M1 : FMem) : Prop := OffM M M1 ∧ M1 60 43 = -1 ∧ M1 60 44 = -1 ∧ M1 60 45 = 0
def P1s (M : FMem) (R : Int → Int) (n a : Int) : Prop := (∃ k, 0 ≤ k ∧ k < n ∧ R k = a) ∧ Feas (SolR M (M 60 0) (-1) a (-1) 0)
def P2s (M : FMem) (R : Int → Int) (n c d : Int) : Prop := ∃ k, 0 ≤ k ∧ k < n ∧ ∃ j, 0 ≤ j ∧ j < 80 ∧ Feas (SolR M (M 60 0) (-1) (R k) j 0) ∧ SP (R k) j c d
theorem F2_lt {M : FMem} (hT : MT0 M) {a b : Int} (hn : ¬ Feas (SolR M (M 60 0) (-1) a (-1) 0)) (hf : Feas (SolR M (M 60 0) (-1) a b 0)) : 0 ≤ b ∧ b < M 60 0 := by
  apply Classical.byContradiction
  intro z
  apply hn
  obtain ⟨x, hx⟩ := hf
  exact ⟨x, fun i i0 i1 i2 => hx i i0 i1 ⟨i2.1, i2.2.1, i2.2.2.1, i2.2.2.2.1, by omega, i2.2.2.2.2.2⟩⟩
theorem odd_end1 {M : FMem} (hT : MT0 M) {rz : Int} {R : Int → Int} (hR : Rg0 M rz R) {om oc : Int} (h : Od1 (P1s M R rz) om oc) (ho : 0 ≤ om) : OddC (fun a => Feas (SolR M (M 60 0) (-1) a (-1) 0)) (fun a b => Feas (SolR M (M 60 0) (-1) a b 0)) om oc := by
  have hT1 := hT.1
  rcases h with z | ⟨z1, z2, z3⟩
  · omega
  · obtain ⟨⟨k, k0, k1, k2⟩, hf⟩ := z2
    have hb := hR.2.1 k k0 k1
    rw [k2] at hb
    refine ⟨1, oc, -1, Or.inl ⟨rfl, hb.1, hf, fun i i0 hi => ?_, rfl⟩, z1, Or.inr (Or.inl ⟨rfl, rfl, hb.1, by omega, rfl⟩)⟩
    obtain ⟨j, j0, j1, j2⟩ := hR.2.2 i (-1) hi
    have hbj := hR.2.1 j j0 j1
    rcases j2 with e | e
    · exact z3 i ⟨⟨j, j0, j1, e⟩, hi⟩
    · omega
theorem odd_none1 {M : FMem} {rz : Int} {R : Int → Int} (hR : Rg0 M rz R) {om oc : Int} (h : Od1 (P1s M R rz) om oc) (ho : om < 0) : ∀ i, 0 ≤ i → ¬ Feas (SolR M (M 60 0) (-1) i (-1) 0) := by
  intro i i0 hi
  rcases h with z | z
  · obtain ⟨j, j0, j1, j2⟩ := hR.2.2 i (-1) hi
    have hbj := hR.2.1 j j0 j1
    rcases j2 with e | e
    · exact z.2 i ⟨⟨j, j0, j1, e⟩, hi⟩
    · omega
  · omega
theorem odd_end2 {M : FMem} (hT : MT0 M) {rz : Int} {R : Int → Int} (hR : Rg0 M rz R) (hn : ∀ i, 0 ≤ i → ¬ Feas (SolR M (M 60 0) (-1) i (-1) 0)) {om oc : Int} (h : Od2 (P2s M R rz) om oc) : OddC (fun a => Feas (SolR M (M 60 0) (-1) a (-1) 0)) (fun a b => Feas (SolR M (M 60 0) (-1) a b 0)) om oc := by
  have hT1 := hT.1
  have hall : ∀ a b, 0 ≤ a → a < b → Feas (SolR M (M 60 0) (-1) a b 0) → P2s M R rz a b := by
    intro a b a0 ab hf
    obtain ⟨k, k0, k1, k2⟩ := hR.2.2 a b hf
    have hb1 := F2_lt hT (hn a a0) hf
    rcases k2 with e | e
    · exact ⟨k, k0, k1, b, by omega, by omega, by rw [e]; exact hf, Or.inl ⟨e.symm, rfl, by omega⟩⟩
    · exact ⟨k, k0, k1, a, by omega, by omega, by rw [e, SolR_sym]; exact hf, Or.inr ⟨rfl, e.symm, by omega⟩⟩
  have hback : ∀ a b, P2s M R rz a b → (0 ≤ a ∧ a < b ∧ b < 80) ∧ Feas (SolR M (M 60 0) (-1) a b 0) := by
    rintro a b ⟨k, k0, k1, j, j0, j1, hf, hsp⟩
    have hb := hR.2.1 k k0 k1
    rcases hsp with ⟨e1, e2, e3⟩ | ⟨e1, e2, e3⟩
    · rw [e1, e2]; exact ⟨by omega, hf⟩
    · rw [e1, e2, SolR_sym]; exact ⟨by omega, hf⟩
  rcases h with ⟨z1, z2⟩ | ⟨z1, ⟨a, b, z2, z3⟩, z4⟩
  · exact ⟨-1, -1, -1, Or.inr ⟨hn, Or.inl ⟨rfl, rfl, rfl, fun a b hz => z2 a b (hall a b hz.1 hz.2.1 hz.2.2)⟩⟩, z1, Or.inl ⟨rfl, rfl, rfl⟩⟩
  · have hab := hback a b z2
    refine ⟨2, a, b, Or.inr ⟨hn, Or.inr ⟨rfl, hab.1.1, hab.1.2.1, ⟨hab.1.1, hab.1.2.1, hab.2⟩, fun c d hcd => ?_⟩⟩, z1, Or.inr (Or.inr ⟨rfl, z3, by omega, by omega, by omega⟩)⟩
    have hp := hall c d hcd.1 hcd.2.1 hcd.2.2
    have h1 := z4 c d hp
    have h2 := hback c d hp
    unfold lexle
    omega
theorem SolR_off {M M2 : FMem} (h : OffM M M2) : SolR M2 = SolR M := by
  funext k li one two w x
  unfold SolR inR upM loM
  rw [OffM_o h (j := 0) (by decide), OffM_c h (b := 61) (by decide), OffM_c h (b := 64) (by decide), OffM_c h (b := 63) (by decide), OffM_c h (b := 70) (by decide), OffM_c h (b := 69) (by decide), OffM_c h (b := 62) (by decide)]
  simp only [(lowM_off h _).1, (lowM_off h _).2]
theorem MT_off {M M2 : FMem} (h : OffN M M2) (hT : MT M) : MT M2 := ⟨MT0_off h.1 hT.1, h.2⟩
set_option maxHeartbeats 12800000 in
theorem A_X8_findOdd (l : Launch) (g : Cx) (M : FMem) (hT : MT M) (hq : ¬ Feas (SolR M (M 60 0) (-1) (-1) (-1) 0)) : AMv l g true fi_X8_findOdd [fr 60] 93 M (fun M2 => OffN M M2 ∧ OddC (fun a => Feas (SolR M (M 60 0) (-1) a (-1) 0)) (fun a b => Feas (SolR M (M 60 0) (-1) a b 0)) (M2 60 51) (M2 60 52)) := by
  refine AMv_intro [fr 60, fu, fu, fu] (by decide) (knall rfl) (Nat.le_of_ble_eq_true rfl) rfl ?_
  intro hNV hM0 μ
  have hT0 := hT.1.1
  have lp18 : ∀ (kq : Nat) (goz mz : Int) (M1 : FMem) (rz : Int) (R : Int → Int), (3 - mz).toNat = kq → (1 ≤ mz ∧ mz ≤ 3) → (OutM M M1) → (Rg0 M rz R ∧ RgM rz R M1) → ((mz = 1 ∧ M1 60 51 = -1) ∨ (mz = 2 ∧ Od1 (P1s M R rz) (M1 60 51) (M1 60 52)) ∨ (mz = 3 ∧ OddC (fun a => Feas (SolR M (M 60 0) (-1) a (-1) 0)) (fun a b => Feas (SolR M (M 60 0) (-1) a b 0)) (M1 60 51) (M1 60 52))) → Wa l g true fi_X8_findOdd 93 μ (Zv g true fi_X8_findOdd 93 μ (fun M2 => OffN M M2 ∧ OddC (fun a => Feas (SolR M (M 60 0) (-1) a (-1) 0)) (fun a b => Feas (SolR M (M 60 0) (-1) a b 0)) (M2 60 51) (M2 60 52))) 18 [] [fr 60, fi goz, fi mz, fu] 93 M1 := by
    intro kq
    induction kq using Nat.strongRecOn with
    | _ kq ih18 =>
    intro goz mz M1 rz R hk18 h0 h1 h2 h3
    have lp32 : ∀ (kq : Nat) (iz : Int) (Mi : FMem), (17 - iz).toNat = kq → ((0 ≤ iz ∧ iz ≤ rz) ∧ mz < 3) → (OutM M Mi) → (RgM rz R Mi) → ((mz = 1 ∧ Od1 (P1s M R iz) (Mi 60 51) (Mi 60 52)) ∨ (mz = 2 ∧ (∀ i, 0 ≤ i → ¬ Feas (SolR M (M 60 0) (-1) i (-1) 0)) ∧ Od2 (P2s M R iz) (Mi 60 51) (Mi 60 52))) → Wa l g true fi_X8_findOdd 93 μ (Zv g true fi_X8_findOdd 93 μ (fun M2 => OffN M M2 ∧ OddC (fun a => Feas (SolR M (M 60 0) (-1) a (-1) 0)) (fun a b => Feas (SolR M (M 60 0) (-1) a b 0)) (M2 60 51) (M2 60 52))) 32 [] [fr 60, fi goz, fi mz, fi iz] 93 Mi := by
      intro kq
      induction kq using Nat.strongRecOn with
      | _ kq ih32 =>
      intro iz Mi hk32 hi0 hi1 hi2 hi3
      have hr17 := h2.1.1
      have q91 := hi2.1
      refine z_iload_n dX8_findOdd_32 rfl ?_
      refine z_aload_nr dX8_findOdd_33 rfl ?_
      refine z_getr (b := 91) fl_X8_115 rfl (by decide) rf_60_50 rfl dX8_findOdd_34 ?_
      refine z_iconst dX8_findOdd_37 ⟨by decide, by decide⟩ ?_
      refine z_iald rfl (by decide) (by omega) (by omega) dX8_findOdd_38 (fun x1 hx1 bx1 => ?_)
      refine z_icmp_ge (tgt := 92) dX8_findOdd_39 (by decide) (fun c2 => ?_) (fun c2 => ?_)
      · refine z_aload_nr dX8_findOdd_92 rfl ?_
        refine z_iconst dX8_findOdd_93 ⟨by decide, by decide⟩ ?_
        refine z_puti (kz := 42) fl_X8_94 rfl (by decide) rfl nr_60_42 dX8_findOdd_94 (fun Mz3 hMz3 => ?_)
        refine z_iinc (loc2 := fun vq => [fr 60, fi goz, fi vq, fi iz]) dX8_findOdd_97 rfl (by decide) (by omega) (fun _ => rfl) (fun x4 hx4 => ?_)
        refine z_goto (tgt := 18) dX8_findOdd_100 (by decide) ?_
        have g1 : OutM M Mz3 := by
          rw [hMz3]
          exact ⟨OffM_s hi1.1 (by decide), by rw [st_at, if_neg (by decide)]; exact hi1.2.1, by rw [st_at, if_neg (by decide)]; exact hi1.2.2.1, by rw [st_at, if_neg (by decide)]; exact hi1.2.2.2⟩
        have g2 : Rg0 M rz R ∧ RgM rz R Mz3 := by
          refine ⟨h2.1, ?_⟩
          rw [hMz3]
          exact ⟨by rw [st_cell (by decide)]; exact hi2.1, fun k k0 k1 => by rw [st_cell (by decide)]; exact hi2.2 k k0 k1⟩
        have e51 : Mz3 60 51 = Mi 60 51 := by rw [hMz3, st_at, if_neg (by decide)]
        have e52 : Mz3 60 52 = Mi 60 52 := by rw [hMz3, st_at, if_neg (by decide)]
        have hizr : iz = rz := by have := hi2.1; omega
        have g3 : (x4 = 1 ∧ Mz3 60 51 = -1) ∨ (x4 = 2 ∧ Od1 (P1s M R rz) (Mz3 60 51) (Mz3 60 52)) ∨ (x4 = 3 ∧ OddC (fun a => Feas (SolR M (M 60 0) (-1) a (-1) 0)) (fun a b => Feas (SolR M (M 60 0) (-1) a b 0)) (Mz3 60 51) (Mz3 60 52)) := by
          rw [e51, e52]
          rw [hizr] at hi3
          rcases hi3 with z | z
          · exact Or.inr (Or.inl ⟨by omega, z.2⟩)
          · exact Or.inr (Or.inr ⟨by omega, odd_end2 hT.1 h2.1 z.2.1 z.2.2⟩)
        refine z_few [fr 60, fi goz, fi x4, fu] (by simp [fle, kn]) ?_
        exact ih18 _ (by omega) goz x4 Mz3 rz R rfl (by omega) (g1) (g2) (g3)
      · refine z_aload_nr dX8_findOdd_42 rfl ?_
        refine z_aload_nr dX8_findOdd_43 rfl ?_
        refine z_getr (b := 90) fl_X8_112 rfl (by decide) rf_60_49 rfl dX8_findOdd_44 ?_
        refine z_iload_n dX8_findOdd_47 rfl ?_
        refine z_iald rfl (by decide) (by omega) (by omega) dX8_findOdd_48 (fun x5 hx5 bx5 => ?_)
        have hix : x5 = R iz := by
          have hq := hx5
          rw [hi2.2 iz (by omega) (by omega)] at hq
          exact hq
        have hbz := h2.1.2.1 iz (by omega) (by omega)
        refine z_puti (kz := 42) fl_X8_94 rfl (by decide) rfl nr_60_42 dX8_findOdd_49 (fun Mz6 hMz6 => ?_)
        have hMb := hMz6
        rw [hix] at hMb
        have hofb : OffM M Mz6 := by rw [hMb]; exact OffM_s hi1.1 (by decide)
        have hTm := MT0_off hofb hT.1
        have f1 : Mz6 60 42 = R iz := by rw [hMb, st_same]
        have f2 : Mz6 60 43 = -1 := by rw [hMb, st_at, if_neg (by decide)]; exact hi1.2.1
        have f3 : Mz6 60 44 = -1 := by rw [hMb, st_at, if_neg (by decide)]; exact hi1.2.2.1
        have f4 : Mz6 60 45 = 0 := by rw [hMb, st_at, if_neg (by decide)]; exact hi1.2.2.2
        have f0 : Mz6 60 0 = M 60 0 := OffM_o hofb (by decide)
        obtain ⟨Mb, hMbb⟩ : ∃ z, z = Mz6 := ⟨_, rfl⟩
        refine z_aload_nr dX8_findOdd_52 rfl ?_
        refine z_iconst dX8_findOdd_53 ⟨by decide, by decide⟩ ?_
        refine z_callVi (n2 := 93) (A_X8_findRound1 l g Mz6 (hTm) (f4)) cb_X8_findRound cl_X8_389 (clr0 rfl rfl (by decide) (by decide)) rfl (by decide) ⟨_, rfl, rfl⟩ rfl (by decide) rfl (Nat.le_of_ble_eq_true rfl) rfl dX8_findOdd_54 (fun x7 Mz7 bx7 kMz7 hc7 => ?_)
        have hfr := hc7
        obtain ⟨Mf, hMf⟩ : ∃ z, z = Mz7 := ⟨_, rfl⟩
        have hsing : (x7 = 0 ∧ Feas (SolR M (M 60 0) (-1) (R iz) (-1) 0)) ∨ (x7 = 1 ∧ ¬ Feas (SolR M (M 60 0) (-1) (R iz) (-1) 0)) := by
          rcases hfr.2 with z | z
          · refine Or.inl ⟨z.1, ?_⟩
            have hz := (SolM_feas hTm).mp z.2.2
            rw [SolM_R hofb, f1, f2, f3, f4, f0] at hz
            exact hz
          · refine Or.inr ⟨z.1, fun hf => ?_⟩
            obtain ⟨k, k0, k1, k2⟩ := ring_hit hT.1 hofb f4 z.2 hf
            have hin := z.2.2.1 k k0 k1
            rcases k2 with e | e
            · have := hin.2.2.2.2.1
              rw [f1] at this
              exact this e
            · have := hin.1; omega
        have hOf : OutM M Mz7 := ⟨fun b j q => by rw [hfr.1.1 b j (by omega) (by omega) (by omega) (by omega) (by omega)]; exact hofb b j q, by rw [hfr.1.1 60 43 (by decide) (by decide) (by decide) (by decide) (by decide)]; exact f2, by rw [hfr.1.1 60 44 (by decide) (by decide) (by decide) (by decide) (by decide)]; exact f3, by rw [hfr.1.1 60 45 (by decide) (by decide) (by decide) (by decide) (by decide)]; exact f4⟩
        have hRf : RgM rz R Mz7 := ⟨by rw [hfr.1.2.1 0 (by decide), hMb, st_cell (by decide)]; exact hi2.1, fun k k0 k1 => by rw [hfr.1.2.2 k (by omega), hMb, st_cell (by decide)]; exact hi2.2 k k0 k1⟩
        have e51 : Mf 60 51 = Mi 60 51 := by rw [hMf, hfr.1.1 60 51 (by decide) (by decide) (by decide) (by decide) (by decide), hMb, st_at, if_neg (by decide)]
        have e52 : Mf 60 52 = Mi 60 52 := by rw [hMf, hfr.1.1 60 52 (by decide) (by decide) (by decide) (by decide) (by decide), hMb, st_at, if_neg (by decide)]
        refine z_if_ne (tgt := 73) dX8_findOdd_57 (by decide) (fun c8 => ?_) (fun c8 => ?_)
        · refine z_iload_n dX8_findOdd_73 rfl ?_
          refine z_iconst dX8_findOdd_74 ⟨by decide, by decide⟩ ?_
          refine z_icmp_le (tgt := 86) dX8_findOdd_75 (by decide) (fun c9 => ?_) (fun c9 => ?_)
          · refine z_iinc (loc2 := fun vq => [fr 60, fi goz, fi mz, fi vq]) dX8_findOdd_86 rfl (by decide) (by omega) (fun _ => rfl) (fun x10 hx10 => ?_)
            refine z_goto (tgt := 32) dX8_findOdd_89 (by decide) ?_
            have hgo : OutM M Mz7 ∧ RgM rz R Mz7 ∧ ((mz = 1 ∧ Od1 (P1s M R (iz + 1)) (Mz7 60 51) (Mz7 60 52)) ∨ (mz = 2 ∧ (∀ i, 0 ≤ i → ¬ Feas (SolR M (M 60 0) (-1) i (-1) 0)) ∧ Od2 (P2s M R (iz + 1)) (Mz7 60 51) (Mz7 60 52))) := by
              first
              | (-- a single that ends it
                 rw [← hMf] at hOf hRf
                 have hfe : Feas (SolR M (M 60 0) (-1) (R iz) (-1) 0) := by
                   rcases hsing with y | y
                   · exact y.2
                   · exfalso; omega
                 have hv := noteM_v 1 (if (1 : Int) = 1 then R iz else if R iz < -1 then 100 * R iz + -1 else 100 * -1 + R iz) Mf
                 rw [if_pos rfl] at hv
                 rw [if_pos rfl] at hno
                 rw [hno]
                 refine ⟨⟨fun b j q => by rw [hv.2.2 b j (by omega)]; exact hOf.1 b j q, by rw [hv.2.2 _ _ (by decide)]; exact hOf.2.1, by rw [hv.2.2 _ _ (by decide)]; exact hOf.2.2.1, by rw [hv.2.2 _ _ (by decide)]; exact hOf.2.2.2⟩, ⟨by rw [hv.2.2 _ _ (by decide)]; exact hRf.1, fun k k0 k1 => by rw [hv.2.2 _ _ (by omega)]; exact hRf.2 k k0 k1⟩, ?_⟩
                 rw [e51, e52] at hv
                 rcases hi3 with z | z
                 · refine Or.inl ⟨z.1, Od1_cg (Od1_add z.2 hv.1 hv.2.1) (fun a => ⟨fun y => ?_, fun y => ?_⟩)⟩
                   · rcases y with ⟨⟨k, k0, k1, k2⟩, y2⟩ | y
                     · exact ⟨⟨k, k0, by omega, k2⟩, y2⟩
                     · exact ⟨⟨iz, by omega, by omega, y.symm⟩, by rw [y]; exact hfe⟩
                   · obtain ⟨⟨k, k0, k1, k2⟩, y2⟩ := y
                     by_cases e : k = iz
                     · right; rw [← k2, e]
                     · exact Or.inl ⟨⟨k, k0, by omega, k2⟩, y2⟩
                 · exact absurd hfe (z.2.1 _ hbz.1))
              | (-- two: try all that the second ring has
                 have hnf : ¬ Feas (SolR M (M 60 0) (-1) (R iz) (-1) 0) := by
                   rcases hsing with y | y
                   · exfalso; omega
                   · exact y.2
                 refine ⟨⟨fun b j q => by rw [hts.1 b j (by omega) (by omega)]; exact hOf.1 b j q, hts.2.1, by rw [hts.1 _ _ (by decide) (by decide)]; exact hOf.2.2.1, by rw [hts.1 _ _ (by decide) (by decide)]; exact hOf.2.2.2⟩, ⟨by rw [hts.1 _ _ (by decide) (by decide)]; exact hRf.1, fun k k0 k1 => by rw [hts.1 _ _ (by decide) (by omega)]; exact hRf.2 k k0 k1⟩, ?_⟩
                 rcases hi3 with z | z
                 · exfalso; omega
                 · refine Or.inr ⟨z.1, z.2.1, Od2_cg hts.2.2 (fun c d => ⟨fun y => ?_, fun y => ?_⟩)⟩
                   · rcases y with ⟨k, k0, k1, k2⟩ | ⟨k, k0, k1, k2, k3, k4⟩
                     · exact ⟨k, k0, by omega, k2⟩
                     · have hb := (hrg1.2.1 k k0 k1).1
                       rw [show (17 : Int) * 1 + k = 17 + k by omega] at hb
                       exact ⟨iz, by omega, by omega, _, hb.1, by omega, k3, k4⟩
                   · obtain ⟨k, k0, k1, j, j0, j1, y1, y2⟩ := y
                     by_cases e : k = iz
                     · subst e
                       right
                       obtain ⟨p, p0, p1, p2⟩ := ring_hit hT.1 hofb f4 hrg1 y1
                       have hinp := (hrg1.2.1 p p0 p1).2.2.2.2.1
                       rw [show (17 : Int) * 1 + p = 17 + p by omega] at p2 hinp
                       rw [f1] at hinp
                       rcases p2 with e2 | e2
                       · exact absurd e2 hinp
                       · exact ⟨p, p0, p1, hinp, by rw [e2]; exact y1, by rw [e2]; exact y2⟩
                     · exact Or.inl ⟨k, k0, by omega, j, j0, j1, y1, y2⟩)
              | (-- not a single, first pass
                 have hnf : ¬ Feas (SolR M (M 60 0) (-1) (R iz) (-1) 0) := by
                   rcases hsing with y | y
                   · exfalso; omega
                   · exact y.2
                 refine ⟨hOf, hRf, ?_⟩
                 rw [hMf] at e51 e52
                 rw [e51, e52]
                 rcases hi3 with z | z
                 · refine Or.inl ⟨z.1, Od1_cg z.2 (fun a => ⟨fun y => ?_, fun y => ?_⟩)⟩
                   · obtain ⟨⟨k, k0, k1, k2⟩, y2⟩ := y
                     exact ⟨⟨k, k0, by omega, k2⟩, y2⟩
                   · obtain ⟨⟨k, k0, k1, k2⟩, y2⟩ := y
                     by_cases e : k = iz
                     · rw [← k2, e] at y2; exact absurd y2 hnf
                     · exact ⟨⟨k, k0, by omega, k2⟩, y2⟩
                 · exfalso; omega)
            exact ih32 _ (by omega) x10 Mz7 rfl (by omega) (hgo.1) (hgo.2.1) (by rw [hx10]; exact hgo.2.2)
          · have hrg1 : RngM Mb 1 Mz7 := by
              rw [hMbb]
              rcases hfr.2 with z | z
              · exfalso; omega
              · exact z.2
            rw [hMbb] at hrg1
            have hrge : RgE Mz7 := ⟨by have := hrg1.1; omega, fun k k0 k1 => by have hb := (hrg1.2.1 k k0 k1).1; rw [show (17 : Int) * 1 + k = 17 + k by omega] at hb; omega⟩
            have hod2 : Od2 (P2s M R iz) (Mz7 60 51) (Mz7 60 52) := by
              rw [← hMf, e51, e52]
              rcases hi3 with z | z
              · exfalso; omega
              · exact z.2.2
            refine z_aload_nr dX8_findOdd_78 rfl ?_
            refine z_aload_nr dX8_findOdd_79 rfl ?_
            refine z_geti (kz := 42) fl_X8_94 rfl (by decide) rfl dX8_findOdd_80 (fun x11 hx11 bx11 => ?_)
            have hoa : x11 = R iz := by
              have hq := hx11
              rw [hfr.1.1 60 42 (by decide) (by decide) (by decide) (by decide) (by decide), f1] at hq
              exact hq
            refine z_callVv (n2 := 93) (A_X8_trySecond l g Mz7 x11 M (P2s M R iz) (hT) (hOf.1) (by rw [hoa]; exact ⟨by rw [hfr.1.1 60 42 (by decide) (by decide) (by decide) (by decide) (by decide)]; exact f1, hOf.2.2.1, hOf.2.2.2⟩) (by omega) (hrge) (hod2)) cb_X8_trySecond cl_X8_392 (clr0 rfl rfl (by decide) (by decide)) rfl (by decide) ⟨_, rfl, rfl⟩ rfl (by decide) rfl (Nat.le_of_ble_eq_true rfl) rfl dX8_findOdd_83 (fun Mz12 kMz12 hc12 => ?_)
            have hts := hc12
            rw [hoa] at hts
            refine z_iinc (loc2 := fun vq => [fr 60, fi goz, fi mz, fi vq]) dX8_findOdd_86 rfl (by decide) (by omega) (fun _ => rfl) (fun x13 hx13 => ?_)
            refine z_goto (tgt := 32) dX8_findOdd_89 (by decide) ?_
            have hgo : OutM M Mz12 ∧ RgM rz R Mz12 ∧ ((mz = 1 ∧ Od1 (P1s M R (iz + 1)) (Mz12 60 51) (Mz12 60 52)) ∨ (mz = 2 ∧ (∀ i, 0 ≤ i → ¬ Feas (SolR M (M 60 0) (-1) i (-1) 0)) ∧ Od2 (P2s M R (iz + 1)) (Mz12 60 51) (Mz12 60 52))) := by
              first
              | (-- a single that ends it
                 rw [← hMf] at hOf hRf
                 have hfe : Feas (SolR M (M 60 0) (-1) (R iz) (-1) 0) := by
                   rcases hsing with y | y
                   · exact y.2
                   · exfalso; omega
                 have hv := noteM_v 1 (if (1 : Int) = 1 then R iz else if R iz < -1 then 100 * R iz + -1 else 100 * -1 + R iz) Mf
                 rw [if_pos rfl] at hv
                 rw [if_pos rfl] at hno
                 rw [hno]
                 refine ⟨⟨fun b j q => by rw [hv.2.2 b j (by omega)]; exact hOf.1 b j q, by rw [hv.2.2 _ _ (by decide)]; exact hOf.2.1, by rw [hv.2.2 _ _ (by decide)]; exact hOf.2.2.1, by rw [hv.2.2 _ _ (by decide)]; exact hOf.2.2.2⟩, ⟨by rw [hv.2.2 _ _ (by decide)]; exact hRf.1, fun k k0 k1 => by rw [hv.2.2 _ _ (by omega)]; exact hRf.2 k k0 k1⟩, ?_⟩
                 rw [e51, e52] at hv
                 rcases hi3 with z | z
                 · refine Or.inl ⟨z.1, Od1_cg (Od1_add z.2 hv.1 hv.2.1) (fun a => ⟨fun y => ?_, fun y => ?_⟩)⟩
                   · rcases y with ⟨⟨k, k0, k1, k2⟩, y2⟩ | y
                     · exact ⟨⟨k, k0, by omega, k2⟩, y2⟩
                     · exact ⟨⟨iz, by omega, by omega, y.symm⟩, by rw [y]; exact hfe⟩
                   · obtain ⟨⟨k, k0, k1, k2⟩, y2⟩ := y
                     by_cases e : k = iz
                     · right; rw [← k2, e]
                     · exact Or.inl ⟨⟨k, k0, by omega, k2⟩, y2⟩
                 · exact absurd hfe (z.2.1 _ hbz.1))
              | (-- two: try all that the second ring has
                 have hnf : ¬ Feas (SolR M (M 60 0) (-1) (R iz) (-1) 0) := by
                   rcases hsing with y | y
                   · exfalso; omega
                   · exact y.2
                 refine ⟨⟨fun b j q => by rw [hts.1 b j (by omega) (by omega)]; exact hOf.1 b j q, hts.2.1, by rw [hts.1 _ _ (by decide) (by decide)]; exact hOf.2.2.1, by rw [hts.1 _ _ (by decide) (by decide)]; exact hOf.2.2.2⟩, ⟨by rw [hts.1 _ _ (by decide) (by decide)]; exact hRf.1, fun k k0 k1 => by rw [hts.1 _ _ (by decide) (by omega)]; exact hRf.2 k k0 k1⟩, ?_⟩
                 rcases hi3 with z | z
                 · exfalso; omega
                 · refine Or.inr ⟨z.1, z.2.1, Od2_cg hts.2.2 (fun c d => ⟨fun y => ?_, fun y => ?_⟩)⟩
                   · rcases y with ⟨k, k0, k1, k2⟩ | ⟨k, k0, k1, k2, k3, k4⟩
                     · exact ⟨k, k0, by omega, k2⟩
                     · have hb := (hrg1.2.1 k k0 k1).1
                       rw [show (17 : Int) * 1 + k = 17 + k by omega] at hb
                       exact ⟨iz, by omega, by omega, _, hb.1, by omega, k3, k4⟩
                   · obtain ⟨k, k0, k1, j, j0, j1, y1, y2⟩ := y
                     by_cases e : k = iz
                     · subst e
                       right
                       obtain ⟨p, p0, p1, p2⟩ := ring_hit hT.1 hofb f4 hrg1 y1
                       have hinp := (hrg1.2.1 p p0 p1).2.2.2.2.1
                       rw [show (17 : Int) * 1 + p = 17 + p by omega] at p2 hinp
                       rw [f1] at hinp
                       rcases p2 with e2 | e2
                       · exact absurd e2 hinp
                       · exact ⟨p, p0, p1, hinp, by rw [e2]; exact y1, by rw [e2]; exact y2⟩
                     · exact Or.inl ⟨k, k0, by omega, j, j0, j1, y1, y2⟩)
              | (-- not a single, first pass
                 have hnf : ¬ Feas (SolR M (M 60 0) (-1) (R iz) (-1) 0) := by
                   rcases hsing with y | y
                   · exfalso; omega
                   · exact y.2
                 refine ⟨hOf, hRf, ?_⟩
                 rw [hMf] at e51 e52
                 rw [e51, e52]
                 rcases hi3 with z | z
                 · refine Or.inl ⟨z.1, Od1_cg z.2 (fun a => ⟨fun y => ?_, fun y => ?_⟩)⟩
                   · obtain ⟨⟨k, k0, k1, k2⟩, y2⟩ := y
                     exact ⟨⟨k, k0, by omega, k2⟩, y2⟩
                   · obtain ⟨⟨k, k0, k1, k2⟩, y2⟩ := y
                     by_cases e : k = iz
                     · rw [← k2, e] at y2; exact absurd y2 hnf
                     · exact ⟨⟨k, k0, by omega, k2⟩, y2⟩
                 · exfalso; omega)
            exact ih32 _ (by omega) x13 Mz12 rfl (by omega) (hgo.1) (hgo.2.1) (by rw [hx13]; exact hgo.2.2)
        · refine z_aload_nr dX8_findOdd_60 rfl ?_
          refine z_iconst dX8_findOdd_61 ⟨by decide, by decide⟩ ?_
          refine z_aload_nr dX8_findOdd_62 rfl ?_
          refine z_geti (kz := 42) fl_X8_94 rfl (by decide) rfl dX8_findOdd_63 (fun x14 hx14 bx14 => ?_)
          refine z_iconst dX8_findOdd_66 ⟨by decide, by decide⟩ ?_
          have hoa : x14 = R iz := by
            have hq := hx14
            rw [hfr.1.1 60 42 (by decide) (by decide) (by decide) (by decide) (by decide), f1] at hq
            exact hq
          refine z_callVv (n2 := 93) (A_X8_note l g Mz7 1 x14 (-1) (by omega) (by omega)) cb_X8_note cl_X8_385 (clr0 rfl rfl (by decide) (by decide)) rfl (by decide) ⟨_, rfl, rfl⟩ rfl (by decide) rfl (Nat.le_of_ble_eq_true rfl) rfl dX8_findOdd_67 (fun Mz15 kMz15 hc15 => ?_)
          have hno := hc15
          rw [hoa, ← hMf] at hno
          refine z_goto (tgt := 86) dX8_findOdd_70 (by decide) ?_
          refine z_iinc (loc2 := fun vq => [fr 60, fi goz, fi mz, fi vq]) dX8_findOdd_86 rfl (by decide) (by omega) (fun _ => rfl) (fun x16 hx16 => ?_)
          refine z_goto (tgt := 32) dX8_findOdd_89 (by decide) ?_
          have hgo : OutM M Mz15 ∧ RgM rz R Mz15 ∧ ((mz = 1 ∧ Od1 (P1s M R (iz + 1)) (Mz15 60 51) (Mz15 60 52)) ∨ (mz = 2 ∧ (∀ i, 0 ≤ i → ¬ Feas (SolR M (M 60 0) (-1) i (-1) 0)) ∧ Od2 (P2s M R (iz + 1)) (Mz15 60 51) (Mz15 60 52))) := by
            first
            | (-- a single that ends it
               rw [← hMf] at hOf hRf
               have hfe : Feas (SolR M (M 60 0) (-1) (R iz) (-1) 0) := by
                 rcases hsing with y | y
                 · exact y.2
                 · exfalso; omega
               have hv := noteM_v 1 (if (1 : Int) = 1 then R iz else if R iz < -1 then 100 * R iz + -1 else 100 * -1 + R iz) Mf
               rw [if_pos rfl] at hv
               rw [if_pos rfl] at hno
               rw [hno]
               refine ⟨⟨fun b j q => by rw [hv.2.2 b j (by omega)]; exact hOf.1 b j q, by rw [hv.2.2 _ _ (by decide)]; exact hOf.2.1, by rw [hv.2.2 _ _ (by decide)]; exact hOf.2.2.1, by rw [hv.2.2 _ _ (by decide)]; exact hOf.2.2.2⟩, ⟨by rw [hv.2.2 _ _ (by decide)]; exact hRf.1, fun k k0 k1 => by rw [hv.2.2 _ _ (by omega)]; exact hRf.2 k k0 k1⟩, ?_⟩
               rw [e51, e52] at hv
               rcases hi3 with z | z
               · refine Or.inl ⟨z.1, Od1_cg (Od1_add z.2 hv.1 hv.2.1) (fun a => ⟨fun y => ?_, fun y => ?_⟩)⟩
                 · rcases y with ⟨⟨k, k0, k1, k2⟩, y2⟩ | y
                   · exact ⟨⟨k, k0, by omega, k2⟩, y2⟩
                   · exact ⟨⟨iz, by omega, by omega, y.symm⟩, by rw [y]; exact hfe⟩
                 · obtain ⟨⟨k, k0, k1, k2⟩, y2⟩ := y
                   by_cases e : k = iz
                   · right; rw [← k2, e]
                   · exact Or.inl ⟨⟨k, k0, by omega, k2⟩, y2⟩
               · exact absurd hfe (z.2.1 _ hbz.1))
            | (-- two: try all that the second ring has
               have hnf : ¬ Feas (SolR M (M 60 0) (-1) (R iz) (-1) 0) := by
                 rcases hsing with y | y
                 · exfalso; omega
                 · exact y.2
               refine ⟨⟨fun b j q => by rw [hts.1 b j (by omega) (by omega)]; exact hOf.1 b j q, hts.2.1, by rw [hts.1 _ _ (by decide) (by decide)]; exact hOf.2.2.1, by rw [hts.1 _ _ (by decide) (by decide)]; exact hOf.2.2.2⟩, ⟨by rw [hts.1 _ _ (by decide) (by decide)]; exact hRf.1, fun k k0 k1 => by rw [hts.1 _ _ (by decide) (by omega)]; exact hRf.2 k k0 k1⟩, ?_⟩
               rcases hi3 with z | z
               · exfalso; omega
               · refine Or.inr ⟨z.1, z.2.1, Od2_cg hts.2.2 (fun c d => ⟨fun y => ?_, fun y => ?_⟩)⟩
                 · rcases y with ⟨k, k0, k1, k2⟩ | ⟨k, k0, k1, k2, k3, k4⟩
                   · exact ⟨k, k0, by omega, k2⟩
                   · have hb := (hrg1.2.1 k k0 k1).1
                     rw [show (17 : Int) * 1 + k = 17 + k by omega] at hb
                     exact ⟨iz, by omega, by omega, _, hb.1, by omega, k3, k4⟩
                 · obtain ⟨k, k0, k1, j, j0, j1, y1, y2⟩ := y
                   by_cases e : k = iz
                   · subst e
                     right
                     obtain ⟨p, p0, p1, p2⟩ := ring_hit hT.1 hofb f4 hrg1 y1
                     have hinp := (hrg1.2.1 p p0 p1).2.2.2.2.1
                     rw [show (17 : Int) * 1 + p = 17 + p by omega] at p2 hinp
                     rw [f1] at hinp
                     rcases p2 with e2 | e2
                     · exact absurd e2 hinp
                     · exact ⟨p, p0, p1, hinp, by rw [e2]; exact y1, by rw [e2]; exact y2⟩
                   · exact Or.inl ⟨k, k0, by omega, j, j0, j1, y1, y2⟩)
            | (-- not a single, first pass
               have hnf : ¬ Feas (SolR M (M 60 0) (-1) (R iz) (-1) 0) := by
                 rcases hsing with y | y
                 · exfalso; omega
                 · exact y.2
               refine ⟨hOf, hRf, ?_⟩
               rw [hMf] at e51 e52
               rw [e51, e52]
               rcases hi3 with z | z
               · refine Or.inl ⟨z.1, Od1_cg z.2 (fun a => ⟨fun y => ?_, fun y => ?_⟩)⟩
                 · obtain ⟨⟨k, k0, k1, k2⟩, y2⟩ := y
                   exact ⟨⟨k, k0, by omega, k2⟩, y2⟩
                 · obtain ⟨⟨k, k0, k1, k2⟩, y2⟩ := y
                   by_cases e : k = iz
                   · rw [← k2, e] at y2; exact absurd y2 hnf
                   · exact ⟨⟨k, k0, by omega, k2⟩, y2⟩
               · exfalso; omega)
          exact ih32 _ (by omega) x16 Mz15 rfl (by omega) (hgo.1) (hgo.2.1) (by rw [hx16]; exact hgo.2.2)
    refine z_iload_n dX8_findOdd_18 rfl ?_
    refine z_iconst dX8_findOdd_19 ⟨by decide, by decide⟩ ?_
    refine z_icmp_ge (tgt := 103) dX8_findOdd_20 (by decide) (fun c17 => ?_) (fun c17 => ?_)
    · refine z_aload_nr dX8_findOdd_103 rfl ?_
      refine z_callVv (n2 := 93) (A_X8_forget l g M1 ) cb_X8_forget cl_X8_372 (clr0 rfl rfl (by decide) (by decide)) rfl (by decide) ⟨_, rfl, rfl⟩ rfl (by decide) rfl (Nat.le_of_ble_eq_true rfl) rfl dX8_findOdd_104 (fun Mz18 kMz18 hc18 => ?_)
      have hfo := hc18
      refine z_vret rfl (by decide) rfl (Nat.sub_self _) dX8_findOdd_107 ?_
      have hN : OffN M Mz18 := by rw [hfo]; exact OffN_f h1.1
      refine ⟨hN, ?_⟩
      rw [hfo]
      rw [show st (st (st (st M1 60 42 (-1)) 60 43 (-1)) 60 44 (-1)) 60 45 0 60 51 = M1 60 51 by simp [st], show st (st (st (st M1 60 42 (-1)) 60 43 (-1)) 60 44 (-1)) 60 45 0 60 52 = M1 60 52 by simp [st]]
      rcases h3 with z | z | z
      · exfalso; omega
      · exact odd_end1 hT.1 h2.1 z.2 (by omega)
      · exact z.2
    · refine z_aload_nr dX8_findOdd_23 rfl ?_
      refine z_geti (kz := 51) fl_X8_379 rfl (by decide) rfl dX8_findOdd_24 (fun x19 hx19 bx19 => ?_)
      refine z_if_ge (tgt := 103) dX8_findOdd_27 (by decide) (fun c20 => ?_) (fun c20 => ?_)
      · refine z_aload_nr dX8_findOdd_103 rfl ?_
        refine z_callVv (n2 := 93) (A_X8_forget l g M1 ) cb_X8_forget cl_X8_372 (clr0 rfl rfl (by decide) (by decide)) rfl (by decide) ⟨_, rfl, rfl⟩ rfl (by decide) rfl (Nat.le_of_ble_eq_true rfl) rfl dX8_findOdd_104 (fun Mz21 kMz21 hc21 => ?_)
        have hfo := hc21
        refine z_vret rfl (by decide) rfl (Nat.sub_self _) dX8_findOdd_107 ?_
        have hN : OffN M Mz21 := by rw [hfo]; exact OffN_f h1.1
        refine ⟨hN, ?_⟩
        rw [hfo]
        rw [show st (st (st (st M1 60 42 (-1)) 60 43 (-1)) 60 44 (-1)) 60 45 0 60 51 = M1 60 51 by simp [st], show st (st (st (st M1 60 42 (-1)) 60 43 (-1)) 60 44 (-1)) 60 45 0 60 52 = M1 60 52 by simp [st]]
        rcases h3 with z | z | z
        · exfalso; omega
        · exact odd_end1 hT.1 h2.1 z.2 (by omega)
        · exact z.2
      · refine z_iconst dX8_findOdd_30 ⟨by decide, by decide⟩ ?_
        refine z_istore_n (loc2 := [fr 60, fi goz, fi mz, fi 0]) dX8_findOdd_31 (by decide) rfl ?_
        exact lp32 _ 0 M1 rfl (by have := h2.1.1; omega) (h1) (h2.2) (by
          rcases h3 with z | z | z
          · exact Or.inl ⟨z.1, Or.inl ⟨z.2, fun a hz => by obtain ⟨⟨k, k0, k1, _⟩, _⟩ := hz; omega⟩⟩
          · refine Or.inr ⟨z.1, odd_none1 h2.1 z.2 (by omega), ?_⟩
            rcases z.2 with y | y
            · exact Or.inl ⟨y.1, fun a b hz => by obtain ⟨k, k0, k1, _⟩ := hz; omega⟩
            · omega
          · omega)
  refine z_aload_nr dX8_findOdd_0 rfl ?_
  refine z_iconst dX8_findOdd_1 ⟨by decide, by decide⟩ ?_
  refine z_puti (kz := 51) fl_X8_379 rfl (by decide) rfl nr_60_51 dX8_findOdd_2 (fun Mz22 hMz22 => ?_)
  refine z_aload_nr dX8_findOdd_5 rfl ?_
  refine z_iconst dX8_findOdd_6 ⟨by decide, by decide⟩ ?_
  refine z_puti (kz := 52) fl_X8_382 rfl (by decide) rfl nr_60_52 dX8_findOdd_7 (fun Mz23 hMz23 => ?_)
  have hof2 : OffM M Mz23 := by rw [hMz23, hMz22]; exact OffM_s (OffM_s (OffM_rfl M) (by decide)) (by decide)
  have hTm := MT0_off hof2 hT.1
  have f1 : Mz23 60 42 = -1 := by rw [hMz23, hMz22, st_at, if_neg (by decide), st_at, if_neg (by decide)]; exact hT.2.1
  have f2 : Mz23 60 43 = -1 := by rw [hMz23, hMz22, st_at, if_neg (by decide), st_at, if_neg (by decide)]; exact hT.2.2.1
  have f3 : Mz23 60 44 = -1 := by rw [hMz23, hMz22, st_at, if_neg (by decide), st_at, if_neg (by decide)]; exact hT.2.2.2.1
  have f4 : Mz23 60 45 = 0 := by rw [hMz23, hMz22, st_at, if_neg (by decide), st_at, if_neg (by decide)]; exact hT.2.2.2.2
  have f0 : Mz23 60 0 = M 60 0 := OffM_o hof2 (by decide)
  have f51 : Mz23 60 51 = -1 := by rw [hMz23, hMz22, st_at, if_neg (by decide)]; exact st_same _ _ _ _
  obtain ⟨Ma, hMa⟩ : ∃ z, z = Mz23 := ⟨_, rfl⟩
  refine z_aload_nr dX8_findOdd_10 rfl ?_
  refine z_iconst dX8_findOdd_11 ⟨by decide, by decide⟩ ?_
  refine z_callVi (n2 := 93) (A_X8_findRound0 l g Mz23 (hTm) (f4)) cb_X8_findRound cl_X8_389 (clr0 rfl rfl (by decide) (by decide)) rfl (by decide) ⟨_, rfl, rfl⟩ rfl (by decide) rfl (Nat.le_of_ble_eq_true rfl) rfl dX8_findOdd_12 (fun x24 Mz24 bx24 kMz24 hc24 => ?_)
  have hfr := hc24
  have hrg : RngM Ma 0 Mz24 := by
    rw [hMa]
    rcases hfr.2 with z | z
    · exfalso
      apply hq
      have hz := (SolM_feas hTm (k := Mz24 60 0)).mp (by rw [show Mz24 60 0 = Ma 60 0 by rw [hMa]; exact hfr.1.1 60 0 (by decide) (by decide) (by decide) (by decide) (by decide), hMa]; exact z.2.2)
      rw [SolM_R hof2, f1, f2, f3, f4, show Mz24 60 0 = M 60 0 by rw [hfr.1.1 60 0 (by decide) (by decide) (by decide) (by decide) (by decide)]; exact f0] at hz
      exact hz
    · exact z.2
  have hofr : OffM M Mz24 := fun b j q => by rw [hfr.1.1 b j (by omega) (by omega) (by omega) (by omega) (by omega)]; exact hof2 b j q
  have hR0 : Rg0 M (Mz24 91 0) (fun k => Mz24 90 k) := by
    refine ⟨hrg.1, fun k k0 k1 => ?_, fun a b hf => ?_⟩
    · have := (hrg.2.1 k k0 k1).1
      rw [show (17 : Int) * 0 + k = k by omega, hMa, f0] at this
      exact this
    · obtain ⟨k, k0, k1, k2⟩ := ring_hit hT.1 (hMa ▸ hof2) (by rw [hMa]; exact f4) hrg hf
      rw [show (17 : Int) * 0 + k = k by omega] at k2
      exact ⟨k, k0, k1, k2⟩
  have f51r : Mz24 60 51 = -1 := by rw [hfr.1.1 60 51 (by decide) (by decide) (by decide) (by decide) (by decide)]; exact f51
  have hOm : OutM M Mz24 := ⟨hofr, by rw [hfr.1.1 60 43 (by decide) (by decide) (by decide) (by decide) (by decide)]; exact f2, by rw [hfr.1.1 60 44 (by decide) (by decide) (by decide) (by decide) (by decide)]; exact f3, by rw [hfr.1.1 60 45 (by decide) (by decide) (by decide) (by decide) (by decide)]; exact f4⟩
  refine z_istore_n (loc2 := [fr 60, fi x24, fu, fu]) dX8_findOdd_15 (by decide) rfl ?_
  refine z_iconst dX8_findOdd_16 ⟨by decide, by decide⟩ ?_
  refine z_istore_n (loc2 := [fr 60, fi x24, fi 1, fu]) dX8_findOdd_17 (by decide) rfl ?_
  exact lp18 _ x24 1 Mz24 (Mz24 91 0) (fun k => Mz24 90 k) rfl (by omega) (hOm) (⟨hR0, rfl, fun _ _ _ => rfl⟩) (Or.inl ⟨rfl, f51r⟩)
set_option maxHeartbeats 3200000 in
theorem A_X8_odd (l : Launch) (g : Cx) (M : FMem) (i : Int) (hT : MT M) : AMi l g true fi_X8_odd [fr 60, fi i] 93 M (fun q M2 => OffN M M2 ∧ POdd (SolR M (M 60 0) (-1) (-1) (-1) 0) (fun a => Feas (SolR M (M 60 0) (-1) a (-1) 0)) (fun a b => Feas (SolR M (M 60 0) (-1) a b 0)) i q) := by
  refine AMi_intro [fr 60, fi i, fu, fu] (by decide) (knall rfl) (Nat.le_of_ble_eq_true rfl) rfl ?_
  intro hNV hM0 μ
  have bi : N32 i := hNV (fi i) (by simp)
  refine z_aload_nr dX8_odd_0 rfl ?_
  refine z_aload_nr dX8_odd_1 rfl ?_
  refine z_geti (kz := 0) fl_X8_136 rfl (by decide) rfl dX8_odd_2 (fun x1 hx1 bx1 => ?_)
  have hnn : x1 = M 60 0 := by assumption
  refine z_callVi (n2 := 93) (A_X8_sumWays l g M x1 (hT.1) (wide0 hT)) cb_X8_sumWays cl_X8_335 (clr0 rfl rfl (by decide) (by decide)) rfl (by decide) ⟨_, rfl, rfl⟩ rfl (by decide) rfl (Nat.le_of_ble_eq_true rfl) rfl dX8_odd_5 (fun x2 Mz2 bx2 kMz2 hc2 => ?_)
  have hsw := hc2
  rw [SolM_MT hT _] at hsw
  have hoN := OffN_w hT hsw.1
  refine z_if_eq (tgt := 14) dX8_odd_8 (by decide) (fun c3 => ?_) (fun c3 => ?_)
  · rw [hnn] at hsw
    have hnfe : ¬ Feas (SolR M (M 60 0) (-1) (-1) (-1) 0) := by
      rcases hsw.2 with z | z
      · exfalso; omega
      · exact z.2
    have q00 := OffM_o hoN.1 (j := 0) (by decide)
    refine z_aload_nr dX8_odd_14 rfl ?_
    refine z_callVv (n2 := 93) (A_X8_findOdd l g Mz2 (MT_off hoN hT) (by rw [SolR_off hoN.1, q00]; exact hnfe)) cb_X8_findOdd cl_X8_395 (clr0 rfl rfl (by decide) (by decide)) rfl (by decide) ⟨_, rfl, rfl⟩ rfl (by decide) rfl (Nat.le_of_ble_eq_true rfl) rfl dX8_odd_15 (fun Mz4 kMz4 hc4 => ?_)
    have hfo := hc4
    have hON2 : OffN M Mz4 := ⟨OffM_tr hoN.1 hfo.1.1, hfo.1.2⟩
    obtain ⟨fe, fy, se, ho1, ho2, ho3⟩ := hfo.2
    have ho1 : OddS (fun a => Feas (SolR M (M 60 0) (-1) a (-1) 0)) (fun a b => Feas (SolR M (M 60 0) (-1) a b 0)) fe fy se := by
      have hz := ho1
      simp only [SolR_off hoN.1, OffM_o hoN.1 (j := 0) (by decide)] at hz
      exact hz
    refine z_iload_n dX8_odd_18 rfl ?_
    refine z_iconst dX8_odd_19 ⟨by decide, by decide⟩ ?_
    refine z_icmp_ne (tgt := 28) dX8_odd_20 (by decide) (fun c5 => ?_) (fun c5 => ?_)
    · refine z_iload_n dX8_odd_28 rfl ?_
      refine z_i2l dX8_odd_29 ?_
      refine z_lconst0 dX8_odd_30 ?_
      refine z_aload_nr dX8_odd_31 rfl ?_
      refine z_geti (kz := 51) fl_X8_379 rfl (by decide) rfl dX8_odd_32 (fun x6 hx6 bx6 => ?_)
      refine z_iconst dX8_odd_35 ⟨by decide, by decide⟩ ?_
      first | refine z_isubN dX8_odd_36 (by omega) (fun x7 hx7 => ?_) | refine z_isub dX8_odd_36 (fun x7 hx7 => ?_)
      refine z_i2l dX8_odd_37 ?_
      refine z_callSip (n2 := 93) (A_X8_in l g Mz4 i 0 x7) cb_X8_in cl_X8_130 (clr0 rfl rfl (by decide) (by decide)) rfl (by decide) rfl (Nat.le_of_ble_eq_true rfl) rfl dX8_odd_38 (fun x8 bx8 hx8 => ?_)
      have i8 := if01 hx8
      refine z_if_ne (tgt := 46) dX8_odd_41 (by decide) (fun c9 => ?_) (fun c9 => ?_)
      · have lp58 : ∀ (kq : Nat) (vz kz : Int), (2 - (1 - kz)).toNat = kq → ((kz = Mz4 60 51 - 1 ∧ vz = Mz4 60 52) ∨ (Mz4 60 51 = 2 ∧ kz = 0 ∧ vz = Mz4 60 52 / 100)) → (i ≤ kz ∧ kz ≤ 1 ∧ 0 ≤ i) → Wa l g true fi_X8_odd 93 μ (Zi g true fi_X8_odd 93 μ (fun q M2 => OffN M M2 ∧ POdd (SolR M (M 60 0) (-1) (-1) (-1) 0) (fun a => Feas (SolR M (M 60 0) (-1) a (-1) 0)) (fun a b => Feas (SolR M (M 60 0) (-1) a b 0)) i q)) 58 [] [fr 60, fi i, fi vz, fi kz] 93 Mz4 := by
          intro kq
          induction kq using Nat.strongRecOn with
          | _ kq ih58 =>
          intro vz kz hk58 hv hk
          refine z_iload_n dX8_odd_58 rfl ?_
          refine z_iload_n dX8_odd_59 rfl ?_
          refine z_icmp_le (tgt := 74) dX8_odd_60 (by decide) (fun c10 => ?_) (fun c10 => ?_)
          · refine z_iload_n dX8_odd_74 rfl ?_
            refine z_bipush dX8_odd_75 ⟨by decide, by decide⟩ (by decide) ?_
            have hm77 : vz.tmod 100 = vz % 100 := Int.tmod_eq_emod_of_nonneg (by omega)
            refine z_irem dX8_odd_77 (by omega) (fun x11 hx11 => ?_)
            refine z_iret rfl (by decide) rfl (Nat.sub_self _) dX8_odd_78 ?_
            refine ⟨hON2, Or.inr ⟨hnfe, fe, fy, se, ho1, ?_⟩⟩
            rw [if_neg (by omega)]
            by_cases e0 : i = 0
            · rw [if_pos e0]; omega
            · rw [if_neg e0]
              by_cases e1 : i = 1
              · rw [if_pos e1]; omega
              · exfalso; omega
          · refine z_iload_n dX8_odd_63 rfl ?_
            refine z_bipush dX8_odd_64 ⟨by decide, by decide⟩ (by decide) ?_
            have hd66 := tdiv_cs vz 100 (by decide)
            refine z_idiv dX8_odd_66 (by omega) (by have h := tdiv_cs vz 100 (by decide); omega) (fun x12 hx12 => ?_)
            refine z_istore_n (loc2 := [fr 60, fi i, fi x12, fi kz]) dX8_odd_67 (by decide) rfl ?_
            refine z_iinc (loc2 := fun vq => [fr 60, fi i, fi x12, fi vq]) dX8_odd_68 rfl (by decide) (by omega) (fun _ => rfl) (fun x13 hx13 => ?_)
            refine z_goto (tgt := 58) dX8_odd_71 (by decide) ?_
            exact ih58 _ (by omega) x12 x13 rfl (by omega) (by omega)
        refine z_aload_nr dX8_odd_46 rfl ?_
        refine z_geti (kz := 52) fl_X8_382 rfl (by decide) rfl dX8_odd_47 (fun x14 hx14 bx14 => ?_)
        refine z_istore_n (loc2 := [fr 60, fi i, fi x14, fu]) dX8_odd_50 (by decide) rfl ?_
        refine z_aload_nr dX8_odd_51 rfl ?_
        refine z_geti (kz := 51) fl_X8_379 rfl (by decide) rfl dX8_odd_52 (fun x15 hx15 bx15 => ?_)
        refine z_iconst dX8_odd_55 ⟨by decide, by decide⟩ ?_
        first | refine z_isubN dX8_odd_56 (by omega) (fun x16 hx16 => ?_) | refine z_isub dX8_odd_56 (fun x16 hx16 => ?_)
        refine z_istore_n (loc2 := [fr 60, fi i, fi x14, fi x16]) dX8_odd_57 (by decide) rfl ?_
        exact lp58 _ x14 x16 rfl (by omega) (by omega)
      · refine z_iconst dX8_odd_44 ⟨by decide, by decide⟩ ?_
        refine z_iret rfl (by decide) rfl (Nat.sub_self _) dX8_odd_45 ?_
        refine ⟨hON2, Or.inr ⟨hnfe, fe, fy, se, ho1, ?_⟩⟩
        rw [if_neg (by omega)]
        by_cases e0 : i = 0
        · rw [if_pos e0]; omega
        · rw [if_neg e0]
          by_cases e1 : i = 1
          · rw [if_pos e1]; omega
          · rw [if_neg e1]
    · refine z_aload_nr dX8_odd_23 rfl ?_
      refine z_geti (kz := 51) fl_X8_379 rfl (by decide) rfl dX8_odd_24 (fun x17 hx17 bx17 => ?_)
      refine z_iret rfl (by decide) rfl (Nat.sub_self _) dX8_odd_27 ?_
      refine ⟨hON2, Or.inr ⟨hnfe, fe, fy, se, ho1, ?_⟩⟩
      rw [if_pos (by omega)]
      omega
  · refine z_ldc (c := -1000003) cn_X8_188 ⟨by decide, by decide⟩ dX8_odd_11 ?_
    refine z_iret rfl (by decide) rfl (Nat.sub_self _) dX8_odd_13 ?_
    refine ⟨hoN, Or.inl ⟨?_, rfl⟩⟩
    rw [hnn] at hsw
    rcases hsw.2 with z | z
    · exact z.2.1
    · exfalso; omega
