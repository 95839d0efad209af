/-! ===== the reference: sumWays ===== -/
def un (q : Int) : Int := if q = 0 then 16 else q - 1
def kt (v : Int) : Int := if v = 16 then 0 else v + 1
theorem kt_nd {v : Int} (h : nd v) : nd (kt v) ∧ un (kt v) = v := by unfold kt un; split <;> (try split) <;> omega
theorem un_kt {q : Int} (h : nd q) : kt (un q) = q := by unfold kt un; split <;> (try split) <;> omega
/-- the rows that the reference's net allows, its knots numbered as the class numbers its nodes -/
def SolM (M : FMem) (k : Int) (x : Int → Int) : Prop := SolK M k (M 60 0) (fun q => x (un q))
theorem SolK_cg {M : FMem} (hT : MT0 M) {k : Int} {y y' : Int → Int} (h : ∀ q, nd q → y q = y' q) (hy : SolK M k (M 60 0) y) : SolK M k (M 60 0) y' := by
  intro i i0 i1 hi
  have ht := hy i i0 i1 hi
  obtain ⟨nu, nl, -⟩ := ul_nd (hT.2.1 i i0 i1)
  unfold TK1 at ht ⊢
  rw [h _ nu, h _ nl] at ht
  exact ht
theorem SolM_max {M : FMem} (hT : MT0 M) {k a b d : Int} (ha : nd a) (hb : nd b) (h : MaxD (SolK M k (M 60 0)) (kt a) (kt b) d) : MaxD (SolM M k) a b d := by
  obtain ⟨h1, y, h2, h3⟩ := h
  have ea := kt_nd ha
  have eb := kt_nd hb
  refine ⟨fun x hx => ?_, fun v => y (kt v), ?_, h3⟩
  · have := h1 _ hx
    simp only [ea.2, eb.2] at this
    exact this
  · exact SolK_cg hT (fun q hq => by show y q = y (kt (un q)); rw [un_kt hq]) h2
theorem SolM_free {M : FMem} (hT : MT0 M) {k a b : Int} (h : FreeD (SolK M k (M 60 0)) (kt a) (kt b)) : FreeD (SolM M k) a b := by
  intro B
  obtain ⟨y, h2, h3⟩ := h B
  exact ⟨fun v => y (kt v), SolK_cg hT (fun q hq => by show y q = y (kt (un q)); rw [un_kt hq]) h2, h3⟩
theorem SolM_feas {M : FMem} (hT : MT0 M) {k : Int} : Feas (SolK M k (M 60 0)) ↔ Feas (SolM M k) := by
  constructor
  · rintro ⟨y, h⟩
    exact ⟨fun v => y (kt v), SolK_cg hT (fun q hq => by show y q = y (kt (un q)); rw [un_kt hq]) h⟩
  · rintro ⟨x, h⟩
    exact ⟨_, h⟩
/-- what the sums say of each two nodes -/
def WF (S : (Int → Int) → Prop) (M : FMem) : Prop := ∀ a b, nd a → nd b → (M 86 (17 * kt a + kt b) = 1000000000000 ∧ FreeD S a b) ∨ ((-10000000 ≤ M 86 (17 * kt a + kt b) ∧ M 86 (17 * kt a + kt b) ≤ 10000000) ∧ MaxD S a b (M 86 (17 * kt a + kt b)))
def LW0 (K : (Int → Int) → Prop) (D0 : Int → Int → Int) : Prop := (∀ a b, nd a → nd b → D0 a b < 1000000000000 → D0 a b ≤ 600000) ∧ (∀ a b, nd a → nd b → D0 a b < 1000000000000 → D0 b a < 1000000000000) ∧ (∀ y, Obey D0 y → K y)
theorem FWI_0 {M M1 : FMem} {k : Int} (h : LW M k (M 60 0) M1) : FWI (SolK M k (M 60 0)) (Dm M1) (Dm M1) 0 ∧ LW0 (SolK M k (M 60 0)) (Dm M1) := by
  obtain ⟨h1, h2, h3, h4, h5, h6⟩ := h
  refine ⟨⟨⟨fun a b ha hb => ?_, fun a ha => by rw [h3 a ha]; exact Int.le_refl _, fun y hy a b ha hb hf => h4 y hy a b ha hb hf⟩, fun _ _ _ _ => Int.le_refl _, fun _ => ⟨fun a b k _ _ k0 k1 => by omega, fun a b ha hb => ?_, h6⟩⟩, fun a b ha hb hf => ?_, h6, h5⟩
  · have := h2 a b ha hb; omega
  · have := h2 a b ha hb
    rw [show bnd 0 = 600000 by decide]
    exact this
  · have := h2 a b ha hb; omega
def NegD (D : Int → Int → Int) : Prop := ∃ v, nd v ∧ D v v < 0
theorem Dm_off {M1 M2 : FMem} (h : M2 = M1) : Dm M2 = Dm M1 := by rw [h]
set_option maxHeartbeats 6400000 in
theorem A_X8_sumWays (l : Launch) (g : Cx) (M : FMem) (k : Int) (hT : MT0 M) (hw : 0 ≤ M 60 45 ∧ M 60 45 ≤ 400000) : AMi l g true fi_X8_sumWays [fr 60, fi k] 93 M (fun q M2 => (∀ b j, b ≠ 86 → M2 b j = M b j) ∧ ((q = 1 ∧ Feas (SolM M k) ∧ WF (SolM M k) M2) ∨ (q = 0 ∧ ¬ Feas (SolM M k)))) := by
  refine AMi_intro [fr 60, fi k, fu, fu, fu, fu, fu] (by decide) (knall rfl) (Nat.le_of_ble_eq_true rfl) rfl ?_
  intro hNV hM0 μ
  have bk : N32 k := hNV (fi k) (by simp)
  have lp158 : ∀ (kq : Nat) (gz az : Int) (M1 : FMem) (D0 : Int → Int → Int), (17 - az).toNat = kq → (0 ≤ az ∧ az ≤ 17) → (∀ b j, b ≠ 86 → M1 b j = M b j) → (FWI (SolK M k (M 60 0)) D0 (Dm M1) 17) → (LW0 (SolK M k (M 60 0)) D0) → ((gz = 1 ∧ ∀ v, 0 ≤ v → v < az → 0 ≤ Dm M1 v v) ∨ (gz = 0 ∧ NegD (Dm M1))) → Wa l g true fi_X8_sumWays 93 μ (Zi g true fi_X8_sumWays 93 μ (fun q M2 => (∀ b j, b ≠ 86 → M2 b j = M b j) ∧ ((q = 1 ∧ Feas (SolM M k) ∧ WF (SolM M k) M2) ∨ (q = 0 ∧ ¬ Feas (SolM M k))))) 158 [] [fr 60, fi k, fi gz, fi az, fu, fu, fu] 93 M1 := by
    intro kq
    induction kq using Nat.strongRecOn with
    | _ kq ih158 =>
    intro gz az M1 D0 hk158 h0 h1 h2 h3 h4
    refine z_iload_n dX8_sumWays_158 rfl ?_
    refine z_bipush dX8_sumWays_159 ⟨by decide, by decide⟩ (by decide) ?_
    refine z_icmp_ge (tgt := 195) dX8_sumWays_161 (by decide) (fun c1 => ?_) (fun c1 => ?_)
    · refine z_iload_n dX8_sumWays_195 rfl ?_
      refine z_zret rfl (by omega) (by decide) rfl (Nat.sub_self _) dX8_sumWays_196 ?_
      refine ⟨h1, ?_⟩
      rcases h4 with z | z
      · have hdg : dg0 (Dm M1) := fun v hv => z.2 v hv.1 (by have := hv.2; omega)
        have he := fw_end h2 hdg h3.1 h3.2.1 h3.2.2
        refine Or.inl ⟨z.1, (SolM_feas hT).mp he.1, fun a b ha hb => ?_⟩
        rcases he.2 (kt a) (kt b) (kt_nd ha).1 (kt_nd hb).1 with w | w
        · exact Or.inl ⟨w.1, SolM_free hT w.2⟩
        · exact Or.inr ⟨w.1, SolM_max hT ha hb w.2⟩
      · obtain ⟨z1, v, hv, z2⟩ := z
        exact Or.inr ⟨z1, fun hq => fw_no h2.1 hv z2 ((SolM_feas hT).mpr hq)⟩
    · refine z_iload_n dX8_sumWays_164 rfl ?_
      refine z_if_eq (tgt := 187) dX8_sumWays_165 (by decide) (fun c2 => ?_) (fun c2 => ?_)
      · refine z_iconst dX8_sumWays_187 ⟨by decide, by decide⟩ ?_
        refine z_istore_n (loc2 := [fr 60, fi k, fi 0, fi az, fu, fu, fu]) dX8_sumWays_188 (by decide) rfl ?_
        refine z_iinc (loc2 := fun vq => [fr 60, fi k, fi 0, fi vq, fu, fu, fu]) dX8_sumWays_189 rfl (by decide) (by omega) (fun _ => rfl) (fun x3 hx3 => ?_)
        refine z_goto (tgt := 158) dX8_sumWays_192 (by decide) ?_
        have g4 : ((0 : Int) = 1 ∧ ∀ v, 0 ≤ v → v < az + 1 → 0 ≤ Dm M1 v v) ∨ ((0 : Int) = 0 ∧ NegD (Dm M1)) := by
          first
          | (refine Or.inl ⟨rfl, fun v a b => ?_⟩
             rcases h4 with z | z
             · by_cases e : v = az
               · rw [e]; omega
               · exact z.2 v a (by omega)
             · exfalso; omega)
          | (refine Or.inr ⟨rfl, ?_⟩
             rcases h4 with z | z
             · exact ⟨az, ⟨h0.1, by omega⟩, by omega⟩
             · exact z.2)
        exact ih158 _ (by omega) 0 x3 M1 D0 rfl (by omega) (h1) (h2) (h3) (by rw [hx3]; exact g4)
      · refine z_aload_nr dX8_sumWays_168 rfl ?_
        refine z_getr (b := 86) fl_X8_90 rfl (by decide) rf_60_41 rfl dX8_sumWays_169 ?_
        refine z_iload_n dX8_sumWays_172 rfl ?_
        refine z_iload_n dX8_sumWays_173 rfl ?_
        refine z_callSip (n2 := 93) (A_X8_cell l g M1 az az (by omega) (by omega)) cb_X8_cell cl_X8_305 (clr0 rfl rfl (by decide) (by decide)) rfl (by decide) rfl (Nat.le_of_ble_eq_true rfl) rfl dX8_sumWays_174 (fun x4 bx4 hx4 => ?_)
        have hix : x4 = 17 * az + az := by assumption
        refine z_lald rfl (by decide) (by omega) (by omega) dX8_sumWays_177 (fun x5 hx5 bx5 => ?_)
        have hd : x5 = Dm M1 az az := by rw [hx5, hix]; rfl
        refine z_lconst0 dX8_sumWays_178 ?_
        refine z_lcmp_lt (tgt := 187) dX8_sumWays_179 dX8_sumWays_180 (by decide) (fun c6 => ?_) (fun c6 => ?_)
        · refine z_iconst dX8_sumWays_187 ⟨by decide, by decide⟩ ?_
          refine z_istore_n (loc2 := [fr 60, fi k, fi 0, fi az, fu, fu, fu]) dX8_sumWays_188 (by decide) rfl ?_
          refine z_iinc (loc2 := fun vq => [fr 60, fi k, fi 0, fi vq, fu, fu, fu]) dX8_sumWays_189 rfl (by decide) (by omega) (fun _ => rfl) (fun x7 hx7 => ?_)
          refine z_goto (tgt := 158) dX8_sumWays_192 (by decide) ?_
          have g4 : ((0 : Int) = 1 ∧ ∀ v, 0 ≤ v → v < az + 1 → 0 ≤ Dm M1 v v) ∨ ((0 : Int) = 0 ∧ NegD (Dm M1)) := by
            first
            | (refine Or.inl ⟨rfl, fun v a b => ?_⟩
               rcases h4 with z | z
               · by_cases e : v = az
                 · rw [e]; omega
                 · exact z.2 v a (by omega)
               · exfalso; omega)
            | (refine Or.inr ⟨rfl, ?_⟩
               rcases h4 with z | z
               · exact ⟨az, ⟨h0.1, by omega⟩, by omega⟩
               · exact z.2)
          exact ih158 _ (by omega) 0 x7 M1 D0 rfl (by omega) (h1) (h2) (h3) (by rw [hx7]; exact g4)
        · refine z_iconst dX8_sumWays_183 ⟨by decide, by decide⟩ ?_
          refine z_goto (tgt := 188) dX8_sumWays_184 (by decide) ?_
          refine z_istore_n (loc2 := [fr 60, fi k, fi 1, fi az, fu, fu, fu]) dX8_sumWays_188 (by decide) rfl ?_
          refine z_iinc (loc2 := fun vq => [fr 60, fi k, fi 1, fi vq, fu, fu, fu]) dX8_sumWays_189 rfl (by decide) (by omega) (fun _ => rfl) (fun x8 hx8 => ?_)
          refine z_goto (tgt := 158) dX8_sumWays_192 (by decide) ?_
          have g4 : ((1 : Int) = 1 ∧ ∀ v, 0 ≤ v → v < az + 1 → 0 ≤ Dm M1 v v) ∨ ((1 : Int) = 0 ∧ NegD (Dm M1)) := by
            first
            | (refine Or.inl ⟨rfl, fun v a b => ?_⟩
               rcases h4 with z | z
               · by_cases e : v = az
                 · rw [e]; omega
                 · exact z.2 v a (by omega)
               · exfalso; omega)
            | (refine Or.inr ⟨rfl, ?_⟩
               rcases h4 with z | z
               · exact ⟨az, ⟨h0.1, by omega⟩, by omega⟩
               · exact z.2)
          exact ih158 _ (by omega) 1 x8 M1 D0 rfl (by omega) (h1) (h2) (h3) (by rw [hx8]; exact g4)
  have lp7 : ∀ (kq : Nat) (cz : Int) (M1 : FMem) (D0 : Int → Int → Int), (17 - cz).toNat = kq → (0 ≤ cz ∧ cz ≤ 17) → (∀ b j, b ≠ 86 → M1 b j = M b j) → (FWI (SolK M k (M 60 0)) D0 (Dm M1) cz) → (LW0 (SolK M k (M 60 0)) D0) → Wa l g true fi_X8_sumWays 93 μ (Zi g true fi_X8_sumWays 93 μ (fun q M2 => (∀ b j, b ≠ 86 → M2 b j = M b j) ∧ ((q = 1 ∧ Feas (SolM M k) ∧ WF (SolM M k) M2) ∨ (q = 0 ∧ ¬ Feas (SolM M k))))) 7 [] [fr 60, fi k, fi cz, fu, fu, fu, fu] 93 M1 := by
    intro kq
    induction kq using Nat.strongRecOn with
    | _ kq ih7 =>
    intro cz M1 D0 hk7 h0 h1 h2 h3
    have lp15 : ∀ (kq : Nat) (az : Int) (Ma : FMem), (17 - az).toNat = kq → ((0 ≤ az ∧ az ≤ 17) ∧ cz < 17) → (∀ b j, b ≠ 86 → Ma b j = M b j) → (FWp (SolK M k (M 60 0)) (Dm M1) (Dm Ma) cz az 0) → Wa l g true fi_X8_sumWays 93 μ (Zi g true fi_X8_sumWays 93 μ (fun q M2 => (∀ b j, b ≠ 86 → M2 b j = M b j) ∧ ((q = 1 ∧ Feas (SolM M k) ∧ WF (SolM M k) M2) ∨ (q = 0 ∧ ¬ Feas (SolM M k))))) 15 [] [fr 60, fi k, fi cz, fi az, fu, fu, fu] 93 Ma := by
      intro kq
      induction kq using Nat.strongRecOn with
      | _ kq ih15 =>
      intro az Ma hk15 ha0 ha1 ha2
      have lp24 : ∀ (kq : Nat) (bz : Int) (Mb : FMem), (17 - bz).toNat = kq → ((0 ≤ bz ∧ bz ≤ 17) ∧ az < 17) → (∀ b j, b ≠ 86 → Mb b j = M b j) → (FWp (SolK M k (M 60 0)) (Dm M1) (Dm Mb) cz az bz) → Wa l g true fi_X8_sumWays 93 μ (Zi g true fi_X8_sumWays 93 μ (fun q M2 => (∀ b j, b ≠ 86 → M2 b j = M b j) ∧ ((q = 1 ∧ Feas (SolM M k) ∧ WF (SolM M k) M2) ∨ (q = 0 ∧ ¬ Feas (SolM M k))))) 24 [] [fr 60, fi k, fi cz, fi az, fi bz, fu, fu] 93 Mb := by
        intro kq
        induction kq using Nat.strongRecOn with
        | _ kq ih24 =>
        intro bz Mb hk24 hb0 hb1 hb2
        refine z_iload dX8_sumWays_24 rfl ?_
        refine z_bipush dX8_sumWays_26 ⟨by decide, by decide⟩ (by decide) ?_
        refine z_icmp_ge (tgt := 142) dX8_sumWays_28 (by decide) (fun c9 => ?_) (fun c9 => ?_)
        · refine z_iinc (loc2 := fun vq => [fr 60, fi k, fi cz, fi vq, fi bz, fu, fu]) dX8_sumWays_142 rfl (by decide) (by omega) (fun _ => rfl) (fun x10 hx10 => ?_)
          refine z_goto (tgt := 15) dX8_sumWays_145 (by decide) ?_
          refine z_few [fr 60, fi k, fi cz, fi x10, fu, fu, fu] (by simp [fle, kn]) ?_
          exact ih15 _ (by omega) x10 Mb rfl (by omega) (hb1) (by rw [hx10]; exact fw_row (by rw [show (17 : Int) = bz by omega]; exact hb2))
        · have hnc : nd cz := ⟨h0.1, by omega⟩
          have hna : nd az := ⟨by omega, by omega⟩
          have hnb : nd bz := ⟨by omega, by omega⟩
          have r1 := hb2.1.1 az cz hna hnc
          have r2 := hb2.1.1 cz bz hnc hnb
          have r3 := hb2.1.1 az bz hna hnb
          refine z_aload_nr dX8_sumWays_31 rfl ?_
          refine z_getr (b := 86) fl_X8_90 rfl (by decide) rf_60_41 rfl dX8_sumWays_32 ?_
          refine z_iload_n dX8_sumWays_35 rfl ?_
          refine z_iload_n dX8_sumWays_36 rfl ?_
          refine z_callSip (n2 := 93) (A_X8_cell l g Mb az cz (by omega) (by omega)) cb_X8_cell cl_X8_305 (clr0 rfl rfl (by decide) (by decide)) rfl (by decide) rfl (Nat.le_of_ble_eq_true rfl) rfl dX8_sumWays_37 (fun x11 bx11 hx11 => ?_)
          have c37 := hx11
          refine z_lald rfl (by decide) (by omega) (by omega) dX8_sumWays_40 (fun x12 hx12 bx12 => ?_)
          have d1 : x12 = Dm Mb az cz := by rw [hx12, c37]; rfl
          refine z_ldc2 (c := 1000000000000) cn_X8_303 ⟨by decide, by decide⟩ dX8_sumWays_41 ?_
          refine z_lcmp_ge (tgt := 136) dX8_sumWays_44 dX8_sumWays_45 (by decide) (fun c13 => ?_) (fun c13 => ?_)
          · refine z_iinc (loc2 := fun vq => [fr 60, fi k, fi cz, fi az, fi vq, fu, fu]) dX8_sumWays_136 rfl (by decide) (by omega) (fun _ => rfl) (fun x14 hx14 => ?_)
            refine z_goto (tgt := 24) dX8_sumWays_139 (by decide) ?_
            have g2 : FWp (SolK M k (M 60 0)) (Dm M1) (Dm Mb) cz az (bz + 1) := by
              first
              | (refine fw_skip hnc hna hnb h2 hb2 (fun z => ?_)
                 omega)
              | (refine fw_step hnc hna hnb h2 hb2 (v := _) ⟨by omega, by omega⟩ ?_ ?_
                 · first
                   | (rw [if_pos (by omega)])
                   | (rw [if_neg (by omega)]; omega)
                 · intro p q hp hq
                   show Mb 86 (17 * p + q) = _
                   rw [hNONE, st_at, hix, hls]
                   by_cases e : p = az ∧ q = bz
                   · rw [if_pos e, if_pos (by omega)]
                   · rw [if_neg e, if_neg (by omega)]
                     rfl)
            have g1 : ∀ b j, b ≠ 86 → Mb b j = M b j := by
              first
              | exact hb1
              | (intro b j q
                 rw [hNONE, st_cell q]
                 exact hb1 b j q)
            exact ih24 _ (by omega) x14 Mb rfl (by omega) (g1) (by rw [hx14]; exact g2)
          · refine z_aload_nr dX8_sumWays_48 rfl ?_
            refine z_getr (b := 86) fl_X8_90 rfl (by decide) rf_60_41 rfl dX8_sumWays_49 ?_
            refine z_iload_n dX8_sumWays_52 rfl ?_
            refine z_iload dX8_sumWays_53 rfl ?_
            refine z_callSip (n2 := 93) (A_X8_cell l g Mb cz bz (by omega) (by omega)) cb_X8_cell cl_X8_305 (clr0 rfl rfl (by decide) (by decide)) rfl (by decide) rfl (Nat.le_of_ble_eq_true rfl) rfl dX8_sumWays_55 (fun x15 bx15 hx15 => ?_)
            have c55 := hx15
            refine z_lald rfl (by decide) (by omega) (by omega) dX8_sumWays_58 (fun x16 hx16 bx16 => ?_)
            have d2 : x16 = Dm Mb cz bz := by rw [hx16, c55]; rfl
            refine z_ldc2 (c := 1000000000000) cn_X8_303 ⟨by decide, by decide⟩ dX8_sumWays_59 ?_
            refine z_lcmp_ge (tgt := 136) dX8_sumWays_62 dX8_sumWays_63 (by decide) (fun c17 => ?_) (fun c17 => ?_)
            · refine z_iinc (loc2 := fun vq => [fr 60, fi k, fi cz, fi az, fi vq, fu, fu]) dX8_sumWays_136 rfl (by decide) (by omega) (fun _ => rfl) (fun x18 hx18 => ?_)
              refine z_goto (tgt := 24) dX8_sumWays_139 (by decide) ?_
              have g2 : FWp (SolK M k (M 60 0)) (Dm M1) (Dm Mb) cz az (bz + 1) := by
                first
                | (refine fw_skip hnc hna hnb h2 hb2 (fun z => ?_)
                   omega)
                | (refine fw_step hnc hna hnb h2 hb2 (v := _) ⟨by omega, by omega⟩ ?_ ?_
                   · first
                     | (rw [if_pos (by omega)])
                     | (rw [if_neg (by omega)]; omega)
                   · intro p q hp hq
                     show Mb 86 (17 * p + q) = _
                     rw [hNONE, st_at, hix, hls]
                     by_cases e : p = az ∧ q = bz
                     · rw [if_pos e, if_pos (by omega)]
                     · rw [if_neg e, if_neg (by omega)]
                       rfl)
              have g1 : ∀ b j, b ≠ 86 → Mb b j = M b j := by
                first
                | exact hb1
                | (intro b j q
                   rw [hNONE, st_cell q]
                   exact hb1 b j q)
              exact ih24 _ (by omega) x18 Mb rfl (by omega) (g1) (by rw [hx18]; exact g2)
            · refine z_aload_nr dX8_sumWays_66 rfl ?_
              refine z_getr (b := 86) fl_X8_90 rfl (by decide) rf_60_41 rfl dX8_sumWays_67 ?_
              refine z_iload_n dX8_sumWays_70 rfl ?_
              refine z_iload_n dX8_sumWays_71 rfl ?_
              refine z_callSip (n2 := 93) (A_X8_cell l g Mb az cz (by omega) (by omega)) cb_X8_cell cl_X8_305 (clr0 rfl rfl (by decide) (by decide)) rfl (by decide) rfl (Nat.le_of_ble_eq_true rfl) rfl dX8_sumWays_72 (fun x19 bx19 hx19 => ?_)
              have c72 := hx19
              refine z_lald rfl (by decide) (by omega) (by omega) dX8_sumWays_75 (fun x20 hx20 bx20 => ?_)
              have d3 : x20 = Dm Mb az cz := by rw [hx20, c72]; rfl
              refine z_aload_nr dX8_sumWays_76 rfl ?_
              refine z_getr (b := 86) fl_X8_90 rfl (by decide) rf_60_41 rfl dX8_sumWays_77 ?_
              refine z_iload_n dX8_sumWays_80 rfl ?_
              refine z_iload dX8_sumWays_81 rfl ?_
              refine z_callSip (n2 := 93) (A_X8_cell l g Mb cz bz (by omega) (by omega)) cb_X8_cell cl_X8_305 (clr0 rfl rfl (by decide) (by decide)) rfl (by decide) rfl (Nat.le_of_ble_eq_true rfl) rfl dX8_sumWays_83 (fun x21 bx21 hx21 => ?_)
              have c83 := hx21
              refine z_lald rfl (by decide) (by omega) (by omega) dX8_sumWays_86 (fun x22 hx22 bx22 => ?_)
              have d4 : x22 = Dm Mb cz bz := by rw [hx22, c83]; rfl
              first | refine z_laddN dX8_sumWays_87 (by omega) (fun x23 hx23 => ?_) | refine z_ladd dX8_sumWays_87 (fun x23 hx23 => ?_)
              refine z_lstore (loc2 := [fr 60, fi k, fi cz, fi az, fi bz, fl x23, fu]) dX8_sumWays_88 (by decide) rfl ?_
              refine z_lload dX8_sumWays_90 rfl ?_
              refine z_ldc2 (c := -1000000000000) cn_X8_333 ⟨by decide, by decide⟩ dX8_sumWays_92 ?_
              refine z_lcmp_ge (tgt := 105) dX8_sumWays_95 dX8_sumWays_96 (by decide) (fun c24 => ?_) (fun c24 => ?_)
              · refine z_lload dX8_sumWays_105 rfl ?_
                refine z_lstore (loc2 := [fr 60, fi k, fi cz, fi az, fi bz, fl x23, fu]) dX8_sumWays_107 (by decide) rfl ?_
                refine z_aload_nr dX8_sumWays_109 rfl ?_
                refine z_getr (b := 86) fl_X8_90 rfl (by decide) rf_60_41 rfl dX8_sumWays_110 ?_
                refine z_iload_n dX8_sumWays_113 rfl ?_
                refine z_iload dX8_sumWays_114 rfl ?_
                refine z_callSip (n2 := 93) (A_X8_cell l g Mb az bz (by omega) (by omega)) cb_X8_cell cl_X8_305 (clr0 rfl rfl (by decide) (by decide)) rfl (by decide) rfl (Nat.le_of_ble_eq_true rfl) rfl dX8_sumWays_116 (fun x25 bx25 hx25 => ?_)
                have c116 := hx25
                refine z_aload_nr dX8_sumWays_119 rfl ?_
                refine z_getr (b := 86) fl_X8_90 rfl (by decide) rf_60_41 rfl dX8_sumWays_120 ?_
                refine z_iload_n dX8_sumWays_123 rfl ?_
                refine z_iload dX8_sumWays_124 rfl ?_
                refine z_callSip (n2 := 93) (A_X8_cell l g Mb az bz (by omega) (by omega)) cb_X8_cell cl_X8_305 (clr0 rfl rfl (by decide) (by decide)) rfl (by decide) rfl (Nat.le_of_ble_eq_true rfl) rfl dX8_sumWays_126 (fun x26 bx26 hx26 => ?_)
                have c126 := hx26
                refine z_lald rfl (by decide) (by omega) (by omega) dX8_sumWays_129 (fun x27 hx27 bx27 => ?_)
                have d5 : x27 = Dm Mb az bz := by rw [hx27, c126]; rfl
                refine z_lload dX8_sumWays_130 rfl ?_
                refine z_callSlp (n2 := 93) (A_X8_least l g Mb x27 x23) cb_X8_least cl_X8_300 (clr0 rfl rfl (by decide) (by decide)) rfl (by decide) rfl (Nat.le_of_ble_eq_true rfl) rfl dX8_sumWays_132 (fun x28 bx28 hx28 => ?_)
                have hls := hx28
                rw [d5] at hls
                have hix : x25 = 17 * az + bz := c116
                refine z_last rfl (by decide) (by omega) (by omega) dX8_sumWays_135 (fun Mz29 hMz29 => ?_)
                refine z_iinc (loc2 := fun vq => [fr 60, fi k, fi cz, fi az, fi vq, fl x23, fu]) dX8_sumWays_136 rfl (by decide) (by omega) (fun _ => rfl) (fun x30 hx30 => ?_)
                refine z_goto (tgt := 24) dX8_sumWays_139 (by decide) ?_
                have g2 : FWp (SolK M k (M 60 0)) (Dm M1) (Dm Mz29) cz az (bz + 1) := by
                  first
                  | (refine fw_skip hnc hna hnb h2 hb2 (fun z => ?_)
                     omega)
                  | (refine fw_step hnc hna hnb h2 hb2 (v := x23) ⟨by omega, by omega⟩ ?_ ?_
                     · first
                       | (rw [if_pos (by omega)])
                       | (rw [if_neg (by omega)]; omega)
                     · intro p q hp hq
                       show Mz29 86 (17 * p + q) = _
                       rw [hMz29, st_at, hix, hls]
                       by_cases e : p = az ∧ q = bz
                       · rw [if_pos e, if_pos (by omega)]
                       · rw [if_neg e, if_neg (by omega)]
                         rfl)
                have g1 : ∀ b j, b ≠ 86 → Mz29 b j = M b j := by
                  first
                  | exact hb1
                  | (intro b j q
                     rw [hMz29, st_cell q]
                     exact hb1 b j q)
                refine z_few [fr 60, fi k, fi cz, fi az, fi x30, fu, fu] (by simp [fle, kn]) ?_
                exact ih24 _ (by omega) x30 Mz29 rfl (by omega) (g1) (by rw [hx30]; exact g2)
              · refine z_ldc2 (c := -1000000000000) cn_X8_333 ⟨by decide, by decide⟩ dX8_sumWays_99 ?_
                refine z_goto (tgt := 107) dX8_sumWays_102 (by decide) ?_
                refine z_lstore (loc2 := [fr 60, fi k, fi cz, fi az, fi bz, fl (-1000000000000), fu]) dX8_sumWays_107 (by decide) rfl ?_
                refine z_aload_nr dX8_sumWays_109 rfl ?_
                refine z_getr (b := 86) fl_X8_90 rfl (by decide) rf_60_41 rfl dX8_sumWays_110 ?_
                refine z_iload_n dX8_sumWays_113 rfl ?_
                refine z_iload dX8_sumWays_114 rfl ?_
                refine z_callSip (n2 := 93) (A_X8_cell l g Mb az bz (by omega) (by omega)) cb_X8_cell cl_X8_305 (clr0 rfl rfl (by decide) (by decide)) rfl (by decide) rfl (Nat.le_of_ble_eq_true rfl) rfl dX8_sumWays_116 (fun x31 bx31 hx31 => ?_)
                have c116 := hx31
                refine z_aload_nr dX8_sumWays_119 rfl ?_
                refine z_getr (b := 86) fl_X8_90 rfl (by decide) rf_60_41 rfl dX8_sumWays_120 ?_
                refine z_iload_n dX8_sumWays_123 rfl ?_
                refine z_iload dX8_sumWays_124 rfl ?_
                refine z_callSip (n2 := 93) (A_X8_cell l g Mb az bz (by omega) (by omega)) cb_X8_cell cl_X8_305 (clr0 rfl rfl (by decide) (by decide)) rfl (by decide) rfl (Nat.le_of_ble_eq_true rfl) rfl dX8_sumWays_126 (fun x32 bx32 hx32 => ?_)
                have c126 := hx32
                refine z_lald rfl (by decide) (by omega) (by omega) dX8_sumWays_129 (fun x33 hx33 bx33 => ?_)
                have d5 : x33 = Dm Mb az bz := by rw [hx33, c126]; rfl
                refine z_lload dX8_sumWays_130 rfl ?_
                refine z_callSlp (n2 := 93) (A_X8_least l g Mb x33 (-1000000000000)) cb_X8_least cl_X8_300 (clr0 rfl rfl (by decide) (by decide)) rfl (by decide) rfl (Nat.le_of_ble_eq_true rfl) rfl dX8_sumWays_132 (fun x34 bx34 hx34 => ?_)
                have hls := hx34
                rw [d5] at hls
                have hix : x31 = 17 * az + bz := c116
                refine z_last rfl (by decide) (by omega) (by omega) dX8_sumWays_135 (fun Mz35 hMz35 => ?_)
                refine z_iinc (loc2 := fun vq => [fr 60, fi k, fi cz, fi az, fi vq, fl (-1000000000000), fu]) dX8_sumWays_136 rfl (by decide) (by omega) (fun _ => rfl) (fun x36 hx36 => ?_)
                refine z_goto (tgt := 24) dX8_sumWays_139 (by decide) ?_
                have g2 : FWp (SolK M k (M 60 0)) (Dm M1) (Dm Mz35) cz az (bz + 1) := by
                  first
                  | (refine fw_skip hnc hna hnb h2 hb2 (fun z => ?_)
                     omega)
                  | (refine fw_step hnc hna hnb h2 hb2 (v := (-1000000000000)) ⟨by omega, by omega⟩ ?_ ?_
                     · first
                       | (rw [if_pos (by omega)])
                       | (rw [if_neg (by omega)]; omega)
                     · intro p q hp hq
                       show Mz35 86 (17 * p + q) = _
                       rw [hMz35, st_at, hix, hls]
                       by_cases e : p = az ∧ q = bz
                       · rw [if_pos e, if_pos (by omega)]
                       · rw [if_neg e, if_neg (by omega)]
                         rfl)
                have g1 : ∀ b j, b ≠ 86 → Mz35 b j = M b j := by
                  first
                  | exact hb1
                  | (intro b j q
                     rw [hMz35, st_cell q]
                     exact hb1 b j q)
                refine z_few [fr 60, fi k, fi cz, fi az, fi x36, fu, fu] (by simp [fle, kn]) ?_
                exact ih24 _ (by omega) x36 Mz35 rfl (by omega) (g1) (by rw [hx36]; exact g2)
      refine z_iload_n dX8_sumWays_15 rfl ?_
      refine z_bipush dX8_sumWays_16 ⟨by decide, by decide⟩ (by decide) ?_
      refine z_icmp_ge (tgt := 148) dX8_sumWays_18 (by decide) (fun c37 => ?_) (fun c37 => ?_)
      · refine z_iinc (loc2 := fun vq => [fr 60, fi k, fi vq, fi az, fu, fu, fu]) dX8_sumWays_148 rfl (by decide) (by omega) (fun _ => rfl) (fun x38 hx38 => ?_)
        refine z_goto (tgt := 7) dX8_sumWays_151 (by decide) ?_
        refine z_few [fr 60, fi k, fi x38, fu, fu, fu, fu] (by simp [fle, kn]) ?_
        exact ih7 _ (by omega) x38 Ma D0 rfl (by omega) (ha1) (by rw [hx38]; exact fw_stage ⟨h0.1, by omega⟩ h2 (by rw [show (17 : Int) = az by omega]; exact ha2)) (h3)
      · refine z_iconst dX8_sumWays_21 ⟨by decide, by decide⟩ ?_
        refine z_istore (loc2 := [fr 60, fi k, fi cz, fi az, fi 0, fu, fu]) dX8_sumWays_22 (by decide) rfl ?_
        exact lp24 _ 0 Ma rfl (by omega) (ha1) (ha2)
    refine z_iload_n dX8_sumWays_7 rfl ?_
    refine z_bipush dX8_sumWays_8 ⟨by decide, by decide⟩ (by decide) ?_
    refine z_icmp_ge (tgt := 154) dX8_sumWays_10 (by decide) (fun c39 => ?_) (fun c39 => ?_)
    · refine z_iconst dX8_sumWays_154 ⟨by decide, by decide⟩ ?_
      refine z_istore_n (loc2 := [fr 60, fi k, fi 1, fu, fu, fu, fu]) dX8_sumWays_155 (by decide) rfl ?_
      refine z_iconst dX8_sumWays_156 ⟨by decide, by decide⟩ ?_
      refine z_istore_n (loc2 := [fr 60, fi k, fi 1, fi 0, fu, fu, fu]) dX8_sumWays_157 (by decide) rfl ?_
      exact lp158 _ 1 0 M1 D0 rfl (by omega) (h1) (by rw [show (17 : Int) = cz by omega]; exact h2) (h3) (Or.inl ⟨rfl, fun v a b => by omega⟩)
    · refine z_iconst dX8_sumWays_13 ⟨by decide, by decide⟩ ?_
      refine z_istore_n (loc2 := [fr 60, fi k, fi cz, fi 0, fu, fu, fu]) dX8_sumWays_14 (by decide) rfl ?_
      exact lp15 _ 0 M1 rfl (by omega) (h1) (fw_start h2)
  refine z_aload_nr dX8_sumWays_0 rfl ?_
  refine z_iload_n dX8_sumWays_1 rfl ?_
  refine z_callVv (n2 := 93) (A_X8_layWays l g M k (hT) (hw)) cb_X8_layWays cl_X8_330 (clr0 rfl rfl (by decide) (by decide)) rfl (by decide) ⟨_, rfl, rfl⟩ rfl (by decide) rfl (Nat.le_of_ble_eq_true rfl) rfl dX8_sumWays_2 (fun Mz40 kMz40 hc40 => ?_)
  have hlay := hc40
  have hfi := FWI_0 hlay
  refine z_iconst dX8_sumWays_5 ⟨by decide, by decide⟩ ?_
  refine z_istore_n (loc2 := [fr 60, fi k, fi 0, fu, fu, fu, fu]) dX8_sumWays_6 (by decide) rfl ?_
  exact lp7 _ 0 Mz40 (Dm Mz40) rfl (by omega) (hlay.1) (hfi.1) (hfi.2)
