/-! ===== the reference: steps ===== -/
def inKM (M : FMem) (kd i : Int) : Prop := M 61 i = kd ∧ M 70 i = 0 ∧ M 69 i = 0
def ShM (M : FMem) (n : Int) (k : Nat) : Prop := ∃ i, 0 ≤ i ∧ i < n ∧ inKM M 1 i ∧ M 64 i = (k : Int)
def SoM (M : FMem) (n h : Int) (k : Nat) : Prop := ∃ i, 0 ≤ i ∧ i < n ∧ inKM M 0 i ∧ M 64 i = h ∧ M 63 i = (k : Int)
def PStB (L : Nat → Nat → Prop) (t : Nat) (h : Nat) (q : Int) : Prop := (∃ s : Nat, s ≤ t ∧ q = 2 * (s : Int) ∧ L s h ∧ ∀ s', s' < s → ¬ L s' h) ∨ (q = -1 ∧ ∀ s, s ≤ t → ¬ L s h)
abbrev LvM (M : FMem) : Nat → Nat → Prop := Lv (ShM M (M 60 0)) (SoM M (M 60 0))
def LevOk (M : FMem) (t : Nat) (M1 : FMem) : Prop := ∀ g : Nat, g < 10 → PStB (LvM M) t g (M1 92 (g : Int))
def PairP (M Mo : FMem) (t i j : Int) : Prop := (0 ≤ i ∧ i < M 60 0) ∧ (0 ≤ j ∧ j < M 60 0) ∧ inKM M 0 i ∧ inKM M 0 j ∧ M 63 i = M 63 j ∧ Mo 92 (M 64 i) = 2 * t
def StpB (M Mo M1 : FMem) (t : Nat) : Prop := ∀ g : Nat, g < 10 → M1 92 (g : Int) = Mo 92 (g : Int) ∨ (Mo 92 (g : Int) = -1 ∧ M1 92 (g : Int) = 2 * (t : Int) + 2 ∧ LvM M (t + 1) g)
def StpC (M Mo M1 : FMem) (t iz jz : Int) : Prop := ∀ i j, PairP M Mo t i j → (i < iz ∨ (i = iz ∧ j < jz)) → M1 92 (M 64 j) ≠ -1
theorem lv_up {Sh : Nat → Prop} {So : Int → Nat → Prop} {s t k : Nat} (h : s ≤ t) (hs : Lv Sh So s k) : Lv Sh So t k := by
  induction t with
  | zero => rw [show s = 0 by omega] at hs; exact hs
  | succ t ih =>
    by_cases e : s = t + 1
    · subst e; exact hs
    · exact Or.inl (ih (by omega))
theorem stp_0 {M M1 : FMem} (h1 : ∀ g : Nat, g < 10 → (M1 92 (g : Int) = 0 ∧ ShM M (M 60 0) g) ∨ (M1 92 (g : Int) = -1 ∧ ¬ ShM M (M 60 0) g)) : LevOk M 0 M1 := by
  intro g hg
  rcases h1 g hg with z | z
  · exact Or.inl ⟨0, Nat.le_refl _, by rw [z.1]; rfl, z.2, fun s hs => by omega⟩
  · exact Or.inr ⟨z.1, fun s hs => by rw [show s = 0 by omega]; exact z.2⟩
theorem stp_pair {M Mo : FMem} {t : Nat} (hT : MT0 M) (hL : LevOk M t Mo) {i j : Int} (hp : PairP M Mo t i j) : ∃ g : Nat, g < 10 ∧ M 64 j = (g : Int) ∧ LvM M (t + 1) g := by
  obtain ⟨hi, hj, ki, kj, hs, hst⟩ := hp
  have ti := hT.2.1 i hi.1 hi.2
  have tj := hT.2.1 j hj.1 hj.2
  unfold TelM TelOk at ti tj
  have ki' := ki.1
  have kj' := kj.1
  have h1 : LvM M t (M 64 i).toNat := by
    have := hL (M 64 i).toNat (by omega)
    rw [Int.toNat_of_nonneg (by omega), hst] at this
    rcases this with ⟨s, a, b, c, d⟩ | ⟨a, b⟩
    · rw [show t = s by omega]; exact c
    · omega
  refine ⟨(M 64 j).toNat, by omega, by omega, Or.inr ⟨by omega, (M 63 j).toNat, by omega, ?_, (M 64 i).toNat, by omega, h1, ?_⟩⟩
  · exact ⟨j, hj.1, hj.2, kj, by omega, by omega⟩
  · exact ⟨i, hi.1, hi.2, ki, by omega, by omega⟩
theorem stp_end {M Mo M1 : FMem} {t : Nat} (hT : MT0 M) (hL : LevOk M t Mo) (hB : StpB M Mo M1 t) (hC : StpC M Mo M1 t (M 60 0) 0) : LevOk M (t + 1) M1 := by
  intro g hg
  have hb := hB g hg
  rcases hL g hg with ⟨s, a, b, c, d⟩ | ⟨a, b⟩
  · rcases hb with e | e
    · exact Or.inl ⟨s, by omega, by rw [e]; exact b, c, d⟩
    · omega
  · rcases hb with e | e
    · refine Or.inr ⟨by rw [e]; exact a, fun s hs hl => ?_⟩
      by_cases e2 : s ≤ t
      · exact b s e2 hl
      · have hs1 : s = t + 1 := by omega
        subst hs1
        rcases hl with hl | ⟨-, q, q1, ⟨j, j0, j1, kj, hj, sj⟩, k, k1, k2, ⟨i, i0, i1, ki, hi, si⟩⟩
        · exact b t (Nat.le_refl _) hl
        · have hk := hL k (by omega)
          have hst : Mo 92 (k : Int) = 2 * (t : Int) := by
            rcases hk with ⟨s, s1, s2, s3, s4⟩ | ⟨s1, s2⟩
            · by_cases e3 : s = t
              · rw [s2, e3]
              · exfalso
                refine b (s + 1) (by omega) (Or.inr ⟨by omega, q, q1, ⟨j, j0, j1, kj, hj, sj⟩, k, k1, s3, ⟨i, i0, i1, ki, hi, si⟩⟩)
            · exact absurd k2 (s2 t (Nat.le_refl _))
          have := hC i j ⟨⟨i0, i1⟩, ⟨j0, j1⟩, ki, kj, by omega, by rw [hi]; exact hst⟩ (Or.inl i1)
          rw [hj, e, a] at this
          exact this rfl
    · refine Or.inl ⟨t + 1, Nat.le_refl _, by rw [e.2.1]; omega, e.2.2, fun s hs => b s (by omega)⟩
set_option maxHeartbeats 6400000 in
theorem A_X8_steps (l : Launch) (g : Cx) (M : FMem) (home : Int) (hT : MT M) : AMi l g true fi_X8_steps [fr 60, fi home] 93 M (fun r M2 => (∀ b j, b ≠ 92 → M2 b j = M b j) ∧ if ¬ (0 ≤ home ∧ home ≤ 9) then r = -1000001 else PSt (LvM M) home.toNat r) := by
  refine AMi_intro [fr 60, fi home, fu, fu, fu, fu] (by decide) (knall rfl) (Nat.le_of_ble_eq_true rfl) rfl ?_
  intro hNV hM0 μ
  have bhome : N32 home := hNV (fi home) (by simp)
  have hT0 := hT.1.1
  have lp83 : ∀ (kq : Nat) (tz : Int) (M1 : FMem), (10 - tz).toNat = kq → (0 ≤ home ∧ home ≤ 9) → (0 ≤ tz ∧ tz ≤ 10) → (∀ b j, b ≠ 92 → M1 b j = M b j) → (LevOk M tz.toNat M1) → Wa l g true fi_X8_steps 93 μ (Zi g true fi_X8_steps 93 μ (fun r M2 => (∀ b j, b ≠ 92 → M2 b j = M b j) ∧ if ¬ (0 ≤ home ∧ home ≤ 9) then r = -1000001 else PSt (LvM M) home.toNat r)) 83 [] [fr 60, fi home, fi tz, fu, fu, fu] 93 M1 := by
    intro kq
    induction kq using Nat.strongRecOn with
    | _ kq ih83 =>
    intro tz M1 hk83 hA h0 h1 h2
    have lp91 : ∀ (kq : Nat) (iz : Int) (Mi : FMem), (80 - iz).toNat = kq → ((0 ≤ iz ∧ iz ≤ M 60 0) ∧ tz < 10) → (∀ b j, b ≠ 92 → Mi b j = M b j) → (StpB M M1 Mi tz.toNat) → (StpC M M1 Mi tz iz 0) → Wa l g true fi_X8_steps 93 μ (Zi g true fi_X8_steps 93 μ (fun r M2 => (∀ b j, b ≠ 92 → M2 b j = M b j) ∧ if ¬ (0 ≤ home ∧ home ≤ 9) then r = -1000001 else PSt (LvM M) home.toNat r)) 91 [] [fr 60, fi home, fi tz, fi iz, fu, fu] 93 Mi := by
      intro kq
      induction kq using Nat.strongRecOn with
      | _ kq ih91 =>
      intro iz Mi hk91 hi0 hi1 hi2 hi3
      have qi0 := hi1 60 0 (by decide)
      have lp102 : ∀ (kq : Nat) (jz : Int) (Mj : FMem), (80 - jz).toNat = kq → ((0 ≤ jz ∧ jz ≤ M 60 0) ∧ iz < M 60 0) → (∀ b j, b ≠ 92 → Mj b j = M b j) → (StpB M M1 Mj tz.toNat) → (StpC M M1 Mj tz iz jz) → Wa l g true fi_X8_steps 93 μ (Zi g true fi_X8_steps 93 μ (fun r M2 => (∀ b j, b ≠ 92 → M2 b j = M b j) ∧ if ¬ (0 ≤ home ∧ home ≤ 9) then r = -1000001 else PSt (LvM M) home.toNat r)) 102 [] [fr 60, fi home, fi tz, fi iz, fi jz, fu] 93 Mj := by
        intro kq
        induction kq using Nat.strongRecOn with
        | _ kq ih102 =>
        intro jz Mj hk102 hj0 hj1 hj2 hj3
        have q61iz := hj1 61 iz (by decide)
        have q62iz := hj1 62 iz (by decide)
        have q63iz := hj1 63 iz (by decide)
        have q64iz := hj1 64 iz (by decide)
        have q69iz := hj1 69 iz (by decide)
        have q70iz := hj1 70 iz (by decide)
        have q61jz := hj1 61 jz (by decide)
        have q62jz := hj1 62 jz (by decide)
        have q63jz := hj1 63 jz (by decide)
        have q64jz := hj1 64 jz (by decide)
        have q69jz := hj1 69 jz (by decide)
        have q70jz := hj1 70 jz (by decide)
        have q0 := hj1 60 0 (by decide)
        have q42 := hj1 60 42 (by decide)
        have q43 := hj1 60 43 (by decide)
        have q44 := hj1 60 44 (by decide)
        have o1 := hT.2.1
        have o2 := hT.2.2.1
        have o3 := hT.2.2.2.1
        have ti := hT.1.2.1 iz (by omega) (by omega)
        unfold TelM TelOk at ti
        refine z_iload dX8_steps_102 rfl ?_
        refine z_aload_nr dX8_steps_104 rfl ?_
        refine z_geti (kz := 0) fl_X8_136 rfl (by decide) rfl dX8_steps_105 (fun x1 hx1 bx1 => ?_)
        refine z_icmp_ge (tgt := 238) dX8_steps_108 (by decide) (fun c2 => ?_) (fun c2 => ?_)
        · refine z_iinc (loc2 := fun vq => [fr 60, fi home, fi tz, fi vq, fi jz, fu]) dX8_steps_238 rfl (by decide) (by omega) (fun _ => rfl) (fun x3 hx3 => ?_)
          refine z_goto (tgt := 91) dX8_steps_241 (by decide) ?_
          have g3 : StpC M M1 Mj tz (iz + 1) 0 := by
            intro i j hp hq
            have hj00 := hp.2.1.1
            by_cases e : i < iz
            · exact hj3 i j hp (Or.inl e)
            · have e2 : i = iz := by omega
              first
              | exact hj3 i j hp (Or.inr ⟨e2, by have := hp.2.1.2; omega⟩)
              | (exfalso
                 have hk := hp.2.2.1
                 rw [e2] at hk
                 have htl := hT.1.2.1 iz (by omega) (by omega)
                 unfold TelM TelOk at htl
                 unfold inKM at hk
                 omega)
          refine z_few [fr 60, fi home, fi tz, fi x3, fu, fu] (by simp [fle, kn]) ?_
          exact ih91 _ (by omega) x3 Mj rfl (by omega) (hj1) (hj2) (by rw [hx3]; exact g3)
        · refine z_aload_nr dX8_steps_111 rfl ?_
          refine z_getr (b := 61) fl_X8_7 rfl (by decide) rf_60_1 rfl dX8_steps_112 ?_
          refine z_iload_n dX8_steps_115 rfl ?_
          refine z_iald rfl (by decide) (by omega) (by omega) dX8_steps_116 (fun x4 hx4 bx4 => ?_)
          refine z_if_ne (tgt := 238) dX8_steps_117 (by decide) (fun c5 => ?_) (fun c5 => ?_)
          · refine z_iinc (loc2 := fun vq => [fr 60, fi home, fi tz, fi vq, fi jz, fu]) dX8_steps_238 rfl (by decide) (by omega) (fun _ => rfl) (fun x6 hx6 => ?_)
            refine z_goto (tgt := 91) dX8_steps_241 (by decide) ?_
            have g3 : StpC M M1 Mj tz (iz + 1) 0 := by
              intro i j hp hq
              have hj00 := hp.2.1.1
              by_cases e : i < iz
              · exact hj3 i j hp (Or.inl e)
              · have e2 : i = iz := by omega
                first
                | exact hj3 i j hp (Or.inr ⟨e2, by have := hp.2.1.2; omega⟩)
                | (exfalso
                   have hk := hp.2.2.1
                   rw [e2] at hk
                   have htl := hT.1.2.1 iz (by omega) (by omega)
                   unfold TelM TelOk at htl
                   unfold inKM at hk
                   omega)
            refine z_few [fr 60, fi home, fi tz, fi x6, fu, fu] (by simp [fle, kn]) ?_
            exact ih91 _ (by omega) x6 Mj rfl (by omega) (hj1) (hj2) (by rw [hx6]; exact g3)
          · refine z_aload_nr dX8_steps_120 rfl ?_
            refine z_iload_n dX8_steps_121 rfl ?_
            refine z_aload_nr dX8_steps_122 rfl ?_
            refine z_geti (kz := 0) fl_X8_136 rfl (by decide) rfl dX8_steps_123 (fun x7 hx7 bx7 => ?_)
            refine z_callVip (n2 := 93) (A_X8_isIn l g Mj iz x7 (by omega)) cb_X8_isIn cl_X8_309 (clr0 rfl rfl (by decide) (by decide)) rfl (by decide) ⟨_, rfl, rfl⟩ rfl (by decide) rfl (Nat.le_of_ble_eq_true rfl) rfl dX8_steps_126 (fun x8 bx8 hx8 => ?_)
            have i8 := if01 hx8
            refine z_if_eq (tgt := 238) dX8_steps_129 (by decide) (fun c9 => ?_) (fun c9 => ?_)
            · refine z_iinc (loc2 := fun vq => [fr 60, fi home, fi tz, fi vq, fi jz, fu]) dX8_steps_238 rfl (by decide) (by omega) (fun _ => rfl) (fun x10 hx10 => ?_)
              refine z_goto (tgt := 91) dX8_steps_241 (by decide) ?_
              have g3 : StpC M M1 Mj tz (iz + 1) 0 := by
                intro i j hp hq
                have hj00 := hp.2.1.1
                by_cases e : i < iz
                · exact hj3 i j hp (Or.inl e)
                · have e2 : i = iz := by omega
                  first
                  | exact hj3 i j hp (Or.inr ⟨e2, by have := hp.2.1.2; omega⟩)
                  | (exfalso
                     have hk := hp.2.2.1
                     rw [e2] at hk
                     have htl := hT.1.2.1 iz (by omega) (by omega)
                     unfold TelM TelOk at htl
                     unfold inKM at hk
                     omega)
              refine z_few [fr 60, fi home, fi tz, fi x10, fu, fu] (by simp [fle, kn]) ?_
              exact ih91 _ (by omega) x10 Mj rfl (by omega) (hj1) (hj2) (by rw [hx10]; exact g3)
            · have tj := hT.1.2.1 jz (by omega) (by omega)
              unfold TelM TelOk at tj
              refine z_aload_nr dX8_steps_132 rfl ?_
              refine z_getr (b := 61) fl_X8_7 rfl (by decide) rf_60_1 rfl dX8_steps_133 ?_
              refine z_iload dX8_steps_136 rfl ?_
              refine z_iald rfl (by decide) (by omega) (by omega) dX8_steps_138 (fun x11 hx11 bx11 => ?_)
              refine z_if_ne (tgt := 192) dX8_steps_139 (by decide) (fun c12 => ?_) (fun c12 => ?_)
              · refine z_iconst dX8_steps_192 ⟨by decide, by decide⟩ ?_
                refine z_istore (loc2 := [fr 60, fi home, fi tz, fi iz, fi jz, fi 0]) dX8_steps_193 (by decide) rfl ?_
                refine z_iload dX8_steps_195 rfl ?_
                refine z_if_eq (tgt := 232) dX8_steps_197 (by decide) (fun c13 => ?_) (fun c13 => ?_)
                · refine z_iinc (loc2 := fun vq => [fr 60, fi home, fi tz, fi iz, fi vq, fi 0]) dX8_steps_232 rfl (by decide) (by omega) (fun _ => rfl) (fun x14 hx14 => ?_)
                  refine z_goto (tgt := 102) dX8_steps_235 (by decide) ?_
                  have gN : ¬ PairP M M1 tz iz jz ∨ Mj 92 (M 64 jz) ≠ -1 := by
                    first
                    | (left
                       intro hp
                       have a := hp.2.2.1
                       have b := hp.2.2.2.1
                       have c := hp.2.2.2.2.1
                       have d := hp.2.2.2.2.2
                       unfold inKM at a b
                       omega)
                    | (right
                       omega)
                    | (right
                       rw [hNONE, hixj, st_same]
                       omega)
                  have gM : (∀ g, 0 ≤ g → Mj 92 g ≠ -1 → Mj 92 g ≠ -1) ∧ StpB M M1 Mj tz.toNat ∧ ∀ b j, b ≠ 92 → Mj b j = M b j := by
                    first
                    | exact ⟨fun g _ h => h, hj2, hj1⟩
                    | (refine ⟨fun g g0 h => ?_, fun g hg => ?_, fun b j q => by rw [hNONE, st_cell q]; exact hj1 b j q⟩
                       · rw [hNONE, st_at, hixj]
                         split
                         · omega
                         · exact h
                       · rw [hNONE, st_at, hixj]
                         split
                         · rename_i e
                           obtain ⟨g2, a1, a2, a3⟩ := stp_pair (t := tz.toNat) hT.1 h2 (i := iz) (j := jz) (by rw [Int.toNat_of_nonneg h0.1]; exact hpair)
                           have e2 : g = g2 := by omega
                           subst e2
                           right
                           refine ⟨?_, by rw [Int.toNat_of_nonneg h0.1]; omega, a3⟩
                           have hb := hj2 g hg
                           rw [e] at hb
                           rcases hb with z | z
                           · have hv := h2 g hg
                             rw [e] at hv ⊢
                             rcases hv with ⟨s, s1, s2, s3, s4⟩ | ⟨s1, s2⟩
                             · exfalso; omega
                             · exact s1
                           · rw [e]; exact z.1
                         · exact hj2 g hg)
                  have g3 : StpC M M1 Mj tz iz (jz + 1) := by
                    intro i j hp hq
                    by_cases e : i = iz ∧ j = jz
                    · rw [e.1, e.2] at hp
                      rw [e.2]
                      rcases gN with z | z
                      · exact absurd hp z
                      · exact z
                    · have hp2 := hp
                      have htj := hT.1.2.1 j hp2.2.1.1 hp2.2.1.2
                      have hkj := hp2.2.2.2.1.1
                      unfold TelM TelOk at htj
                      exact gM.1 _ (by omega) (hj3 i j hp (by omega))
                  refine z_few [fr 60, fi home, fi tz, fi iz, fi x14, fu] (by simp [fle, kn]) ?_
                  exact ih102 _ (by omega) x14 Mj rfl (by omega) (gM.2.2) (gM.2.1) (by rw [hx14]; exact g3)
                · exfalso; omega
              · refine z_aload_nr dX8_steps_142 rfl ?_
                refine z_iload dX8_steps_143 rfl ?_
                refine z_aload_nr dX8_steps_145 rfl ?_
                refine z_geti (kz := 0) fl_X8_136 rfl (by decide) rfl dX8_steps_146 (fun x15 hx15 bx15 => ?_)
                refine z_callVip (n2 := 93) (A_X8_isIn l g Mj jz x15 (by omega)) cb_X8_isIn cl_X8_309 (clr0 rfl rfl (by decide) (by decide)) rfl (by decide) ⟨_, rfl, rfl⟩ rfl (by decide) rfl (Nat.le_of_ble_eq_true rfl) rfl dX8_steps_149 (fun x16 bx16 hx16 => ?_)
                have i16 := if01 hx16
                refine z_if_eq (tgt := 192) dX8_steps_152 (by decide) (fun c17 => ?_) (fun c17 => ?_)
                · refine z_iconst dX8_steps_192 ⟨by decide, by decide⟩ ?_
                  refine z_istore (loc2 := [fr 60, fi home, fi tz, fi iz, fi jz, fi 0]) dX8_steps_193 (by decide) rfl ?_
                  refine z_iload dX8_steps_195 rfl ?_
                  refine z_if_eq (tgt := 232) dX8_steps_197 (by decide) (fun c18 => ?_) (fun c18 => ?_)
                  · refine z_iinc (loc2 := fun vq => [fr 60, fi home, fi tz, fi iz, fi vq, fi 0]) dX8_steps_232 rfl (by decide) (by omega) (fun _ => rfl) (fun x19 hx19 => ?_)
                    refine z_goto (tgt := 102) dX8_steps_235 (by decide) ?_
                    have gN : ¬ PairP M M1 tz iz jz ∨ Mj 92 (M 64 jz) ≠ -1 := by
                      first
                      | (left
                         intro hp
                         have a := hp.2.2.1
                         have b := hp.2.2.2.1
                         have c := hp.2.2.2.2.1
                         have d := hp.2.2.2.2.2
                         unfold inKM at a b
                         omega)
                      | (right
                         omega)
                      | (right
                         rw [hNONE, hixj, st_same]
                         omega)
                    have gM : (∀ g, 0 ≤ g → Mj 92 g ≠ -1 → Mj 92 g ≠ -1) ∧ StpB M M1 Mj tz.toNat ∧ ∀ b j, b ≠ 92 → Mj b j = M b j := by
                      first
                      | exact ⟨fun g _ h => h, hj2, hj1⟩
                      | (refine ⟨fun g g0 h => ?_, fun g hg => ?_, fun b j q => by rw [hNONE, st_cell q]; exact hj1 b j q⟩
                         · rw [hNONE, st_at, hixj]
                           split
                           · omega
                           · exact h
                         · rw [hNONE, st_at, hixj]
                           split
                           · rename_i e
                             obtain ⟨g2, a1, a2, a3⟩ := stp_pair (t := tz.toNat) hT.1 h2 (i := iz) (j := jz) (by rw [Int.toNat_of_nonneg h0.1]; exact hpair)
                             have e2 : g = g2 := by omega
                             subst e2
                             right
                             refine ⟨?_, by rw [Int.toNat_of_nonneg h0.1]; omega, a3⟩
                             have hb := hj2 g hg
                             rw [e] at hb
                             rcases hb with z | z
                             · have hv := h2 g hg
                               rw [e] at hv ⊢
                               rcases hv with ⟨s, s1, s2, s3, s4⟩ | ⟨s1, s2⟩
                               · exfalso; omega
                               · exact s1
                             · rw [e]; exact z.1
                           · exact hj2 g hg)
                    have g3 : StpC M M1 Mj tz iz (jz + 1) := by
                      intro i j hp hq
                      by_cases e : i = iz ∧ j = jz
                      · rw [e.1, e.2] at hp
                        rw [e.2]
                        rcases gN with z | z
                        · exact absurd hp z
                        · exact z
                      · have hp2 := hp
                        have htj := hT.1.2.1 j hp2.2.1.1 hp2.2.1.2
                        have hkj := hp2.2.2.2.1.1
                        unfold TelM TelOk at htj
                        exact gM.1 _ (by omega) (hj3 i j hp (by omega))
                    refine z_few [fr 60, fi home, fi tz, fi iz, fi x19, fu] (by simp [fle, kn]) ?_
                    exact ih102 _ (by omega) x19 Mj rfl (by omega) (gM.2.2) (gM.2.1) (by rw [hx19]; exact g3)
                  · exfalso; omega
                · refine z_aload_nr dX8_steps_155 rfl ?_
                  refine z_getr (b := 63) fl_X8_16 rfl (by decide) rf_60_3 rfl dX8_steps_156 ?_
                  refine z_iload_n dX8_steps_159 rfl ?_
                  refine z_iald rfl (by decide) (by omega) (by omega) dX8_steps_160 (fun x20 hx20 bx20 => ?_)
                  refine z_aload_nr dX8_steps_161 rfl ?_
                  refine z_getr (b := 63) fl_X8_16 rfl (by decide) rf_60_3 rfl dX8_steps_162 ?_
                  refine z_iload dX8_steps_165 rfl ?_
                  refine z_iald rfl (by decide) (by omega) (by omega) dX8_steps_167 (fun x21 hx21 bx21 => ?_)
                  refine z_icmp_ne (tgt := 192) dX8_steps_168 (by decide) (fun c22 => ?_) (fun c22 => ?_)
                  · refine z_iconst dX8_steps_192 ⟨by decide, by decide⟩ ?_
                    refine z_istore (loc2 := [fr 60, fi home, fi tz, fi iz, fi jz, fi 0]) dX8_steps_193 (by decide) rfl ?_
                    refine z_iload dX8_steps_195 rfl ?_
                    refine z_if_eq (tgt := 232) dX8_steps_197 (by decide) (fun c23 => ?_) (fun c23 => ?_)
                    · refine z_iinc (loc2 := fun vq => [fr 60, fi home, fi tz, fi iz, fi vq, fi 0]) dX8_steps_232 rfl (by decide) (by omega) (fun _ => rfl) (fun x24 hx24 => ?_)
                      refine z_goto (tgt := 102) dX8_steps_235 (by decide) ?_
                      have gN : ¬ PairP M M1 tz iz jz ∨ Mj 92 (M 64 jz) ≠ -1 := by
                        first
                        | (left
                           intro hp
                           have a := hp.2.2.1
                           have b := hp.2.2.2.1
                           have c := hp.2.2.2.2.1
                           have d := hp.2.2.2.2.2
                           unfold inKM at a b
                           omega)
                        | (right
                           omega)
                        | (right
                           rw [hNONE, hixj, st_same]
                           omega)
                      have gM : (∀ g, 0 ≤ g → Mj 92 g ≠ -1 → Mj 92 g ≠ -1) ∧ StpB M M1 Mj tz.toNat ∧ ∀ b j, b ≠ 92 → Mj b j = M b j := by
                        first
                        | exact ⟨fun g _ h => h, hj2, hj1⟩
                        | (refine ⟨fun g g0 h => ?_, fun g hg => ?_, fun b j q => by rw [hNONE, st_cell q]; exact hj1 b j q⟩
                           · rw [hNONE, st_at, hixj]
                             split
                             · omega
                             · exact h
                           · rw [hNONE, st_at, hixj]
                             split
                             · rename_i e
                               obtain ⟨g2, a1, a2, a3⟩ := stp_pair (t := tz.toNat) hT.1 h2 (i := iz) (j := jz) (by rw [Int.toNat_of_nonneg h0.1]; exact hpair)
                               have e2 : g = g2 := by omega
                               subst e2
                               right
                               refine ⟨?_, by rw [Int.toNat_of_nonneg h0.1]; omega, a3⟩
                               have hb := hj2 g hg
                               rw [e] at hb
                               rcases hb with z | z
                               · have hv := h2 g hg
                                 rw [e] at hv ⊢
                                 rcases hv with ⟨s, s1, s2, s3, s4⟩ | ⟨s1, s2⟩
                                 · exfalso; omega
                                 · exact s1
                               · rw [e]; exact z.1
                             · exact hj2 g hg)
                      have g3 : StpC M M1 Mj tz iz (jz + 1) := by
                        intro i j hp hq
                        by_cases e : i = iz ∧ j = jz
                        · rw [e.1, e.2] at hp
                          rw [e.2]
                          rcases gN with z | z
                          · exact absurd hp z
                          · exact z
                        · have hp2 := hp
                          have htj := hT.1.2.1 j hp2.2.1.1 hp2.2.1.2
                          have hkj := hp2.2.2.2.1.1
                          unfold TelM TelOk at htj
                          exact gM.1 _ (by omega) (hj3 i j hp (by omega))
                      refine z_few [fr 60, fi home, fi tz, fi iz, fi x24, fu] (by simp [fle, kn]) ?_
                      exact ih102 _ (by omega) x24 Mj rfl (by omega) (gM.2.2) (gM.2.1) (by rw [hx24]; exact g3)
                    · exfalso; omega
                  · refine z_aload_nr dX8_steps_171 rfl ?_
                    refine z_getr (b := 92) fl_X8_118 rfl (by decide) rf_60_53 rfl dX8_steps_172 ?_
                    refine z_aload_nr dX8_steps_175 rfl ?_
                    refine z_getr (b := 64) fl_X8_19 rfl (by decide) rf_60_4 rfl dX8_steps_176 ?_
                    refine z_iload_n dX8_steps_179 rfl ?_
                    refine z_iald rfl (by decide) (by omega) (by omega) dX8_steps_180 (fun x25 hx25 bx25 => ?_)
                    have hh3 : x25 = M 64 iz := by omega
                    refine z_iald rfl (by decide) (by omega) (by omega) dX8_steps_181 (fun x26 hx26 bx26 => ?_)
                    have hs3 := hx26
                    rw [hh3] at hs3
                    have hbi := hj2 (M 64 iz).toNat (by omega)
                    rw [Int.toNat_of_nonneg (by omega), Int.toNat_of_nonneg h0.1] at hbi
                    refine z_iconst dX8_steps_182 ⟨by decide, by decide⟩ ?_
                    refine z_iload_n dX8_steps_183 rfl ?_
                    first | refine z_imulN dX8_steps_184 (by omega) (fun x27 hx27 => ?_) | refine z_imul dX8_steps_184 (fun x27 hx27 => ?_)
                    refine z_icmp_ne (tgt := 192) dX8_steps_185 (by decide) (fun c28 => ?_) (fun c28 => ?_)
                    · refine z_iconst dX8_steps_192 ⟨by decide, by decide⟩ ?_
                      refine z_istore (loc2 := [fr 60, fi home, fi tz, fi iz, fi jz, fi 0]) dX8_steps_193 (by decide) rfl ?_
                      refine z_iload dX8_steps_195 rfl ?_
                      refine z_if_eq (tgt := 232) dX8_steps_197 (by decide) (fun c29 => ?_) (fun c29 => ?_)
                      · refine z_iinc (loc2 := fun vq => [fr 60, fi home, fi tz, fi iz, fi vq, fi 0]) dX8_steps_232 rfl (by decide) (by omega) (fun _ => rfl) (fun x30 hx30 => ?_)
                        refine z_goto (tgt := 102) dX8_steps_235 (by decide) ?_
                        have gN : ¬ PairP M M1 tz iz jz ∨ Mj 92 (M 64 jz) ≠ -1 := by
                          first
                          | (left
                             intro hp
                             have a := hp.2.2.1
                             have b := hp.2.2.2.1
                             have c := hp.2.2.2.2.1
                             have d := hp.2.2.2.2.2
                             unfold inKM at a b
                             omega)
                          | (right
                             omega)
                          | (right
                             rw [hNONE, hixj, st_same]
                             omega)
                        have gM : (∀ g, 0 ≤ g → Mj 92 g ≠ -1 → Mj 92 g ≠ -1) ∧ StpB M M1 Mj tz.toNat ∧ ∀ b j, b ≠ 92 → Mj b j = M b j := by
                          first
                          | exact ⟨fun g _ h => h, hj2, hj1⟩
                          | (refine ⟨fun g g0 h => ?_, fun g hg => ?_, fun b j q => by rw [hNONE, st_cell q]; exact hj1 b j q⟩
                             · rw [hNONE, st_at, hixj]
                               split
                               · omega
                               · exact h
                             · rw [hNONE, st_at, hixj]
                               split
                               · rename_i e
                                 obtain ⟨g2, a1, a2, a3⟩ := stp_pair (t := tz.toNat) hT.1 h2 (i := iz) (j := jz) (by rw [Int.toNat_of_nonneg h0.1]; exact hpair)
                                 have e2 : g = g2 := by omega
                                 subst e2
                                 right
                                 refine ⟨?_, by rw [Int.toNat_of_nonneg h0.1]; omega, a3⟩
                                 have hb := hj2 g hg
                                 rw [e] at hb
                                 rcases hb with z | z
                                 · have hv := h2 g hg
                                   rw [e] at hv ⊢
                                   rcases hv with ⟨s, s1, s2, s3, s4⟩ | ⟨s1, s2⟩
                                   · exfalso; omega
                                   · exact s1
                                 · rw [e]; exact z.1
                               · exact hj2 g hg)
                        have g3 : StpC M M1 Mj tz iz (jz + 1) := by
                          intro i j hp hq
                          by_cases e : i = iz ∧ j = jz
                          · rw [e.1, e.2] at hp
                            rw [e.2]
                            rcases gN with z | z
                            · exact absurd hp z
                            · exact z
                          · have hp2 := hp
                            have htj := hT.1.2.1 j hp2.2.1.1 hp2.2.1.2
                            have hkj := hp2.2.2.2.1.1
                            unfold TelM TelOk at htj
                            exact gM.1 _ (by omega) (hj3 i j hp (by omega))
                        refine z_few [fr 60, fi home, fi tz, fi iz, fi x30, fu] (by simp [fle, kn]) ?_
                        exact ih102 _ (by omega) x30 Mj rfl (by omega) (gM.2.2) (gM.2.1) (by rw [hx30]; exact g3)
                      · exfalso; omega
                    · refine z_iconst dX8_steps_188 ⟨by decide, by decide⟩ ?_
                      refine z_goto (tgt := 193) dX8_steps_189 (by decide) ?_
                      refine z_istore (loc2 := [fr 60, fi home, fi tz, fi iz, fi jz, fi 1]) dX8_steps_193 (by decide) rfl ?_
                      refine z_iload dX8_steps_195 rfl ?_
                      refine z_if_eq (tgt := 232) dX8_steps_197 (by decide) (fun c31 => ?_) (fun c31 => ?_)
                      · exfalso; omega
                      · have hpair : PairP M M1 tz iz jz := ⟨by omega, by omega, ⟨by omega, by omega, by omega⟩, ⟨by omega, by omega, by omega⟩, by omega, by omega⟩
                        refine z_aload_nr dX8_steps_200 rfl ?_
                        refine z_getr (b := 92) fl_X8_118 rfl (by decide) rf_60_53 rfl dX8_steps_201 ?_
                        refine z_aload_nr dX8_steps_204 rfl ?_
                        refine z_getr (b := 64) fl_X8_19 rfl (by decide) rf_60_4 rfl dX8_steps_205 ?_
                        refine z_iload dX8_steps_208 rfl ?_
                        refine z_iald rfl (by decide) (by omega) (by omega) dX8_steps_210 (fun x32 hx32 bx32 => ?_)
                        have hh4 : x32 = M 64 jz := by omega
                        refine z_iald rfl (by decide) (by omega) (by omega) dX8_steps_211 (fun x33 hx33 bx33 => ?_)
                        have hs4 := hx33
                        rw [hh4] at hs4
                        refine z_if_ge (tgt := 232) dX8_steps_212 (by decide) (fun c34 => ?_) (fun c34 => ?_)
                        · refine z_iinc (loc2 := fun vq => [fr 60, fi home, fi tz, fi iz, fi vq, fi 1]) dX8_steps_232 rfl (by decide) (by omega) (fun _ => rfl) (fun x35 hx35 => ?_)
                          refine z_goto (tgt := 102) dX8_steps_235 (by decide) ?_
                          have gN : ¬ PairP M M1 tz iz jz ∨ Mj 92 (M 64 jz) ≠ -1 := by
                            first
                            | (left
                               intro hp
                               have a := hp.2.2.1
                               have b := hp.2.2.2.1
                               have c := hp.2.2.2.2.1
                               have d := hp.2.2.2.2.2
                               unfold inKM at a b
                               omega)
                            | (right
                               omega)
                            | (right
                               rw [hNONE, hixj, st_same]
                               omega)
                          have gM : (∀ g, 0 ≤ g → Mj 92 g ≠ -1 → Mj 92 g ≠ -1) ∧ StpB M M1 Mj tz.toNat ∧ ∀ b j, b ≠ 92 → Mj b j = M b j := by
                            first
                            | exact ⟨fun g _ h => h, hj2, hj1⟩
                            | (refine ⟨fun g g0 h => ?_, fun g hg => ?_, fun b j q => by rw [hNONE, st_cell q]; exact hj1 b j q⟩
                               · rw [hNONE, st_at, hixj]
                                 split
                                 · omega
                                 · exact h
                               · rw [hNONE, st_at, hixj]
                                 split
                                 · rename_i e
                                   obtain ⟨g2, a1, a2, a3⟩ := stp_pair (t := tz.toNat) hT.1 h2 (i := iz) (j := jz) (by rw [Int.toNat_of_nonneg h0.1]; exact hpair)
                                   have e2 : g = g2 := by omega
                                   subst e2
                                   right
                                   refine ⟨?_, by rw [Int.toNat_of_nonneg h0.1]; omega, a3⟩
                                   have hb := hj2 g hg
                                   rw [e] at hb
                                   rcases hb with z | z
                                   · have hv := h2 g hg
                                     rw [e] at hv ⊢
                                     rcases hv with ⟨s, s1, s2, s3, s4⟩ | ⟨s1, s2⟩
                                     · exfalso; omega
                                     · exact s1
                                   · rw [e]; exact z.1
                                 · exact hj2 g hg)
                          have g3 : StpC M M1 Mj tz iz (jz + 1) := by
                            intro i j hp hq
                            by_cases e : i = iz ∧ j = jz
                            · rw [e.1, e.2] at hp
                              rw [e.2]
                              rcases gN with z | z
                              · exact absurd hp z
                              · exact z
                            · have hp2 := hp
                              have htj := hT.1.2.1 j hp2.2.1.1 hp2.2.1.2
                              have hkj := hp2.2.2.2.1.1
                              unfold TelM TelOk at htj
                              exact gM.1 _ (by omega) (hj3 i j hp (by omega))
                          refine z_few [fr 60, fi home, fi tz, fi iz, fi x35, fu] (by simp [fle, kn]) ?_
                          exact ih102 _ (by omega) x35 Mj rfl (by omega) (gM.2.2) (gM.2.1) (by rw [hx35]; exact g3)
                        · refine z_aload_nr dX8_steps_215 rfl ?_
                          refine z_getr (b := 92) fl_X8_118 rfl (by decide) rf_60_53 rfl dX8_steps_216 ?_
                          refine z_aload_nr dX8_steps_219 rfl ?_
                          refine z_getr (b := 64) fl_X8_19 rfl (by decide) rf_60_4 rfl dX8_steps_220 ?_
                          refine z_iload dX8_steps_223 rfl ?_
                          refine z_iald rfl (by decide) (by omega) (by omega) dX8_steps_225 (fun x36 hx36 bx36 => ?_)
                          have hixj : x36 = M 64 jz := by omega
                          refine z_iconst dX8_steps_226 ⟨by decide, by decide⟩ ?_
                          refine z_iload_n dX8_steps_227 rfl ?_
                          first | refine z_imulN dX8_steps_228 (by omega) (fun x37 hx37 => ?_) | refine z_imul dX8_steps_228 (fun x37 hx37 => ?_)
                          refine z_iconst dX8_steps_229 ⟨by decide, by decide⟩ ?_
                          first | refine z_iaddN dX8_steps_230 (by omega) (fun x38 hx38 => ?_) | refine z_iadd dX8_steps_230 (fun x38 hx38 => ?_)
                          refine z_iast rfl (by decide) (by omega) (by omega) dX8_steps_231 (fun Mz39 hMz39 => ?_)
                          refine z_iinc (loc2 := fun vq => [fr 60, fi home, fi tz, fi iz, fi vq, fi 1]) dX8_steps_232 rfl (by decide) (by omega) (fun _ => rfl) (fun x40 hx40 => ?_)
                          refine z_goto (tgt := 102) dX8_steps_235 (by decide) ?_
                          have gN : ¬ PairP M M1 tz iz jz ∨ Mz39 92 (M 64 jz) ≠ -1 := by
                            first
                            | (left
                               intro hp
                               have a := hp.2.2.1
                               have b := hp.2.2.2.1
                               have c := hp.2.2.2.2.1
                               have d := hp.2.2.2.2.2
                               unfold inKM at a b
                               omega)
                            | (right
                               omega)
                            | (right
                               rw [hMz39, hixj, st_same]
                               omega)
                          have gM : (∀ g, 0 ≤ g → Mj 92 g ≠ -1 → Mz39 92 g ≠ -1) ∧ StpB M M1 Mz39 tz.toNat ∧ ∀ b j, b ≠ 92 → Mz39 b j = M b j := by
                            first
                            | exact ⟨fun g _ h => h, hj2, hj1⟩
                            | (refine ⟨fun g g0 h => ?_, fun g hg => ?_, fun b j q => by rw [hMz39, st_cell q]; exact hj1 b j q⟩
                               · rw [hMz39, st_at, hixj]
                                 split
                                 · omega
                                 · exact h
                               · rw [hMz39, st_at, hixj]
                                 split
                                 · rename_i e
                                   obtain ⟨g2, a1, a2, a3⟩ := stp_pair (t := tz.toNat) hT.1 h2 (i := iz) (j := jz) (by rw [Int.toNat_of_nonneg h0.1]; exact hpair)
                                   have e2 : g = g2 := by omega
                                   subst e2
                                   right
                                   refine ⟨?_, by rw [Int.toNat_of_nonneg h0.1]; omega, a3⟩
                                   have hb := hj2 g hg
                                   rw [e] at hb
                                   rcases hb with z | z
                                   · have hv := h2 g hg
                                     rw [e] at hv ⊢
                                     rcases hv with ⟨s, s1, s2, s3, s4⟩ | ⟨s1, s2⟩
                                     · exfalso; omega
                                     · exact s1
                                   · rw [e]; exact z.1
                                 · exact hj2 g hg)
                          have g3 : StpC M M1 Mz39 tz iz (jz + 1) := by
                            intro i j hp hq
                            by_cases e : i = iz ∧ j = jz
                            · rw [e.1, e.2] at hp
                              rw [e.2]
                              rcases gN with z | z
                              · exact absurd hp z
                              · exact z
                            · have hp2 := hp
                              have htj := hT.1.2.1 j hp2.2.1.1 hp2.2.1.2
                              have hkj := hp2.2.2.2.1.1
                              unfold TelM TelOk at htj
                              exact gM.1 _ (by omega) (hj3 i j hp (by omega))
                          refine z_few [fr 60, fi home, fi tz, fi iz, fi x40, fu] (by simp [fle, kn]) ?_
                          exact ih102 _ (by omega) x40 Mz39 rfl (by omega) (gM.2.2) (gM.2.1) (by rw [hx40]; exact g3)
      refine z_iload_n dX8_steps_91 rfl ?_
      refine z_aload_nr dX8_steps_92 rfl ?_
      refine z_geti (kz := 0) fl_X8_136 rfl (by decide) rfl dX8_steps_93 (fun x41 hx41 bx41 => ?_)
      refine z_icmp_ge (tgt := 244) dX8_steps_96 (by decide) (fun c42 => ?_) (fun c42 => ?_)
      · refine z_iinc (loc2 := fun vq => [fr 60, fi home, fi vq, fi iz, fu, fu]) dX8_steps_244 rfl (by decide) (by omega) (fun _ => rfl) (fun x43 hx43 => ?_)
        refine z_goto (tgt := 83) dX8_steps_247 (by decide) ?_
        refine z_few [fr 60, fi home, fi x43, fu, fu, fu] (by simp [fle, kn]) ?_
        exact ih83 _ (by omega) x43 Mi rfl (hA) (by omega) (hi1) (by rw [hx43, show (tz + 1).toNat = tz.toNat + 1 by omega]; exact stp_end hT.1 h2 hi2 (by rw [Int.toNat_of_nonneg h0.1, ← show iz = M 60 0 by omega]; exact hi3))
      · refine z_iconst dX8_steps_99 ⟨by decide, by decide⟩ ?_
        refine z_istore (loc2 := [fr 60, fi home, fi tz, fi iz, fi 0, fu]) dX8_steps_100 (by decide) rfl ?_
        exact lp102 _ 0 Mi rfl (by omega) (hi1) (hi2) (hi3)
    refine z_iload_n dX8_steps_83 rfl ?_
    refine z_bipush dX8_steps_84 ⟨by decide, by decide⟩ (by decide) ?_
    refine z_icmp_ge (tgt := 250) dX8_steps_86 (by decide) (fun c44 => ?_) (fun c44 => ?_)
    · refine z_aload_nr dX8_steps_250 rfl ?_
      refine z_getr (b := 92) fl_X8_118 rfl (by decide) rf_60_53 rfl dX8_steps_251 ?_
      refine z_iload_n dX8_steps_254 rfl ?_
      refine z_iald rfl (by decide) (by omega) (by omega) dX8_steps_255 (fun x45 hx45 bx45 => ?_)
      refine z_iret rfl (by decide) rfl (Nat.sub_self _) dX8_steps_256 ?_
      refine ⟨h1, ?_⟩
      rw [if_neg (by omega)]
      have hq := h2 home.toNat (by omega)
      rw [Int.toNat_of_nonneg hA.1, show tz.toNat = 10 by omega] at hq
      rw [hx45]
      exact hq
    · refine z_iconst dX8_steps_89 ⟨by decide, by decide⟩ ?_
      refine z_istore_n (loc2 := [fr 60, fi home, fi tz, fi 0, fu, fu]) dX8_steps_90 (by decide) rfl ?_
      exact lp91 _ 0 M1 rfl (by omega) (h1) (fun g hg => Or.inl rfl) (fun i j hp hq => by have := hp.1.1; have := hp.2.1.1; omega)
  have lp33 : ∀ (kq : Nat) (iz : Int) (M1 : FMem), (80 - iz).toNat = kq → (0 ≤ home ∧ home ≤ 9) → (0 ≤ iz ∧ iz ≤ M 60 0) → (∀ b j, b ≠ 92 → M1 b j = M b j) → (∀ g : Nat, g < 10 → (M1 92 (g : Int) = 0 ∧ ShM M iz g) ∨ (M1 92 (g : Int) = -1 ∧ ¬ ShM M iz g)) → Wa l g true fi_X8_steps 93 μ (Zi g true fi_X8_steps 93 μ (fun r M2 => (∀ b j, b ≠ 92 → M2 b j = M b j) ∧ if ¬ (0 ≤ home ∧ home ≤ 9) then r = -1000001 else PSt (LvM M) home.toNat r)) 33 [] [fr 60, fi home, fi iz, fu, fu, fu] 93 M1 := by
    intro kq
    induction kq using Nat.strongRecOn with
    | _ kq ih33 =>
    intro iz M1 hk33 hA h0 h1 h2
    have hof := fun j => h1 61 j (by decide)
    have q0 := h1 60 0 (by decide)
    have q42 := h1 60 42 (by decide)
    have q43 := h1 60 43 (by decide)
    have q44 := h1 60 44 (by decide)
    have o1 := hT.2.1
    have o2 := hT.2.2.1
    have o3 := hT.2.2.2.1
    have q61iz := h1 61 iz (by decide)
    have q62iz := h1 62 iz (by decide)
    have q63iz := h1 63 iz (by decide)
    have q64iz := h1 64 iz (by decide)
    have q69iz := h1 69 iz (by decide)
    have q70iz := h1 70 iz (by decide)
    refine z_iload_n dX8_steps_33 rfl ?_
    refine z_aload_nr dX8_steps_34 rfl ?_
    refine z_geti (kz := 0) fl_X8_136 rfl (by decide) rfl dX8_steps_35 (fun x46 hx46 bx46 => ?_)
    refine z_icmp_ge (tgt := 81) dX8_steps_38 (by decide) (fun c47 => ?_) (fun c47 => ?_)
    · refine z_iconst dX8_steps_81 ⟨by decide, by decide⟩ ?_
      refine z_istore_n (loc2 := [fr 60, fi home, fi 0, fu, fu, fu]) dX8_steps_82 (by decide) rfl ?_
      exact lp83 _ 0 M1 rfl (hA) (by omega) (h1) (stp_0 (fun g hg => by rw [← show iz = M 60 0 by omega]; exact h2 g hg))
    · refine z_aload_nr dX8_steps_41 rfl ?_
      refine z_getr (b := 61) fl_X8_7 rfl (by decide) rf_60_1 rfl dX8_steps_42 ?_
      refine z_iload_n dX8_steps_45 rfl ?_
      refine z_iald rfl (by decide) (by omega) (by omega) dX8_steps_46 (fun x48 hx48 bx48 => ?_)
      refine z_iconst dX8_steps_47 ⟨by decide, by decide⟩ ?_
      refine z_icmp_ne (tgt := 75) dX8_steps_48 (by decide) (fun c49 => ?_) (fun c49 => ?_)
      · refine z_iinc (loc2 := fun vq => [fr 60, fi home, fi vq, fu, fu, fu]) dX8_steps_75 rfl (by decide) (by omega) (fun _ => rfl) (fun x50 hx50 => ?_)
        refine z_goto (tgt := 33) dX8_steps_78 (by decide) ?_
        have htl := hT.1.2.1 iz (by omega) (by omega)
        unfold TelM TelOk at htl
        have g2 : ∀ g : Nat, g < 10 → (M1 92 (g : Int) = 0 ∧ ShM M (iz + 1) g) ∨ (M1 92 (g : Int) = -1 ∧ ¬ ShM M (iz + 1) g) := by
          intro g hg
          first
          | (have hn : ¬ inKM M 1 iz := by
               intro z
               unfold inKM at z
               omega
             rcases h2 g hg with z | z
             · obtain ⟨z1, i, a, b, c⟩ := z
               exact Or.inl ⟨z1, i, a, by omega, c⟩
             · refine Or.inr ⟨z.1, fun ⟨i, a, b, c⟩ => ?_⟩
               by_cases e : i = iz
               · subst e; exact hn c.1
               · exact z.2 ⟨i, a, by omega, c⟩)
          | (rw [hNONE, st_at, hix]
             by_cases e : (g : Int) = M 64 iz
             · rw [if_pos e]
               exact Or.inl ⟨rfl, iz, h0.1, by omega, ⟨by omega, by omega, by omega⟩, e.symm⟩
             · rw [if_neg e]
               rcases h2 g hg with z | z
               · obtain ⟨z1, i, a, b, c⟩ := z
                 exact Or.inl ⟨z1, i, a, by omega, c⟩
               · refine Or.inr ⟨z.1, fun ⟨i, a, b, c⟩ => ?_⟩
                 by_cases e2 : i = iz
                 · subst e2; exact e c.2.symm
                 · exact z.2 ⟨i, a, by omega, c⟩)
        have g1 : ∀ b j, b ≠ 92 → M1 b j = M b j := by
          first
          | exact h1
          | (intro b j q
             rw [hNONE, st_cell q]
             exact h1 b j q)
        exact ih33 _ (by omega) x50 M1 rfl (hA) (by omega) (g1) (by rw [hx50]; exact g2)
      · refine z_aload_nr dX8_steps_51 rfl ?_
        refine z_iload_n dX8_steps_52 rfl ?_
        refine z_aload_nr dX8_steps_53 rfl ?_
        refine z_geti (kz := 0) fl_X8_136 rfl (by decide) rfl dX8_steps_54 (fun x51 hx51 bx51 => ?_)
        refine z_callVip (n2 := 93) (A_X8_isIn l g M1 iz x51 (by omega)) cb_X8_isIn cl_X8_309 (clr0 rfl rfl (by decide) (by decide)) rfl (by decide) ⟨_, rfl, rfl⟩ rfl (by decide) rfl (Nat.le_of_ble_eq_true rfl) rfl dX8_steps_57 (fun x52 bx52 hx52 => ?_)
        have i52 := if01 hx52
        refine z_if_eq (tgt := 75) dX8_steps_60 (by decide) (fun c53 => ?_) (fun c53 => ?_)
        · refine z_iinc (loc2 := fun vq => [fr 60, fi home, fi vq, fu, fu, fu]) dX8_steps_75 rfl (by decide) (by omega) (fun _ => rfl) (fun x54 hx54 => ?_)
          refine z_goto (tgt := 33) dX8_steps_78 (by decide) ?_
          have htl := hT.1.2.1 iz (by omega) (by omega)
          unfold TelM TelOk at htl
          have g2 : ∀ g : Nat, g < 10 → (M1 92 (g : Int) = 0 ∧ ShM M (iz + 1) g) ∨ (M1 92 (g : Int) = -1 ∧ ¬ ShM M (iz + 1) g) := by
            intro g hg
            first
            | (have hn : ¬ inKM M 1 iz := by
                 intro z
                 unfold inKM at z
                 omega
               rcases h2 g hg with z | z
               · obtain ⟨z1, i, a, b, c⟩ := z
                 exact Or.inl ⟨z1, i, a, by omega, c⟩
               · refine Or.inr ⟨z.1, fun ⟨i, a, b, c⟩ => ?_⟩
                 by_cases e : i = iz
                 · subst e; exact hn c.1
                 · exact z.2 ⟨i, a, by omega, c⟩)
            | (rw [hNONE, st_at, hix]
               by_cases e : (g : Int) = M 64 iz
               · rw [if_pos e]
                 exact Or.inl ⟨rfl, iz, h0.1, by omega, ⟨by omega, by omega, by omega⟩, e.symm⟩
               · rw [if_neg e]
                 rcases h2 g hg with z | z
                 · obtain ⟨z1, i, a, b, c⟩ := z
                   exact Or.inl ⟨z1, i, a, by omega, c⟩
                 · refine Or.inr ⟨z.1, fun ⟨i, a, b, c⟩ => ?_⟩
                   by_cases e2 : i = iz
                   · subst e2; exact e c.2.symm
                   · exact z.2 ⟨i, a, by omega, c⟩)
          have g1 : ∀ b j, b ≠ 92 → M1 b j = M b j := by
            first
            | exact h1
            | (intro b j q
               rw [hNONE, st_cell q]
               exact h1 b j q)
          exact ih33 _ (by omega) x54 M1 rfl (hA) (by omega) (g1) (by rw [hx54]; exact g2)
        · have htl := hT.1.2.1 iz (by omega) (by omega)
          unfold TelM TelOk at htl
          refine z_aload_nr dX8_steps_63 rfl ?_
          refine z_getr (b := 92) fl_X8_118 rfl (by decide) rf_60_53 rfl dX8_steps_64 ?_
          refine z_aload_nr dX8_steps_67 rfl ?_
          refine z_getr (b := 64) fl_X8_19 rfl (by decide) rf_60_4 rfl dX8_steps_68 ?_
          refine z_iload_n dX8_steps_71 rfl ?_
          refine z_iald rfl (by decide) (by omega) (by omega) dX8_steps_72 (fun x55 hx55 bx55 => ?_)
          have hix : x55 = M 64 iz := by omega
          refine z_iconst dX8_steps_73 ⟨by decide, by decide⟩ ?_
          refine z_iast rfl (by decide) (by omega) (by omega) dX8_steps_74 (fun Mz56 hMz56 => ?_)
          refine z_iinc (loc2 := fun vq => [fr 60, fi home, fi vq, fu, fu, fu]) dX8_steps_75 rfl (by decide) (by omega) (fun _ => rfl) (fun x57 hx57 => ?_)
          refine z_goto (tgt := 33) dX8_steps_78 (by decide) ?_
          have htl := hT.1.2.1 iz (by omega) (by omega)
          unfold TelM TelOk at htl
          have g2 : ∀ g : Nat, g < 10 → (Mz56 92 (g : Int) = 0 ∧ ShM M (iz + 1) g) ∨ (Mz56 92 (g : Int) = -1 ∧ ¬ ShM M (iz + 1) g) := by
            intro g hg
            first
            | (have hn : ¬ inKM M 1 iz := by
                 intro z
                 unfold inKM at z
                 omega
               rcases h2 g hg with z | z
               · obtain ⟨z1, i, a, b, c⟩ := z
                 exact Or.inl ⟨z1, i, a, by omega, c⟩
               · refine Or.inr ⟨z.1, fun ⟨i, a, b, c⟩ => ?_⟩
                 by_cases e : i = iz
                 · subst e; exact hn c.1
                 · exact z.2 ⟨i, a, by omega, c⟩)
            | (rw [hMz56, st_at, hix]
               by_cases e : (g : Int) = M 64 iz
               · rw [if_pos e]
                 exact Or.inl ⟨rfl, iz, h0.1, by omega, ⟨by omega, by omega, by omega⟩, e.symm⟩
               · rw [if_neg e]
                 rcases h2 g hg with z | z
                 · obtain ⟨z1, i, a, b, c⟩ := z
                   exact Or.inl ⟨z1, i, a, by omega, c⟩
                 · refine Or.inr ⟨z.1, fun ⟨i, a, b, c⟩ => ?_⟩
                   by_cases e2 : i = iz
                   · subst e2; exact e c.2.symm
                   · exact z.2 ⟨i, a, by omega, c⟩)
          have g1 : ∀ b j, b ≠ 92 → Mz56 b j = M b j := by
            first
            | exact h1
            | (intro b j q
               rw [hMz56, st_cell q]
               exact h1 b j q)
          exact ih33 _ (by omega) x57 Mz56 rfl (hA) (by omega) (g1) (by rw [hx57]; exact g2)
  have lp12 : ∀ (kq : Nat) (gz : Int) (M1 : FMem), (10 - gz).toNat = kq → (0 ≤ home ∧ home ≤ 9) → (0 ≤ gz ∧ gz ≤ 10) → (∀ b j, b ≠ 92 → M1 b j = M b j) → (∀ v, 0 ≤ v → v < gz → M1 92 v = -1) → Wa l g true fi_X8_steps 93 μ (Zi g true fi_X8_steps 93 μ (fun r M2 => (∀ b j, b ≠ 92 → M2 b j = M b j) ∧ if ¬ (0 ≤ home ∧ home ≤ 9) then r = -1000001 else PSt (LvM M) home.toNat r)) 12 [] [fr 60, fi home, fi gz, fu, fu, fu] 93 M1 := by
    intro kq
    induction kq using Nat.strongRecOn with
    | _ kq ih12 =>
    intro gz M1 hk12 hA h0 h1 h2
    refine z_iload_n dX8_steps_12 rfl ?_
    refine z_bipush dX8_steps_13 ⟨by decide, by decide⟩ (by decide) ?_
    refine z_icmp_ge (tgt := 31) dX8_steps_15 (by decide) (fun c58 => ?_) (fun c58 => ?_)
    · refine z_iconst dX8_steps_31 ⟨by decide, by decide⟩ ?_
      refine z_istore_n (loc2 := [fr 60, fi home, fi 0, fu, fu, fu]) dX8_steps_32 (by decide) rfl ?_
      exact lp33 _ 0 M1 rfl (hA) (⟨by omega, hT.1.1.1⟩) (h1) (fun g hg => Or.inr ⟨h2 g (by omega) (by omega), fun ⟨i, a, b, _⟩ => by omega⟩)
    · refine z_aload_nr dX8_steps_18 rfl ?_
      refine z_getr (b := 92) fl_X8_118 rfl (by decide) rf_60_53 rfl dX8_steps_19 ?_
      refine z_iload_n dX8_steps_22 rfl ?_
      refine z_iconst dX8_steps_23 ⟨by decide, by decide⟩ ?_
      refine z_iast rfl (by decide) (by omega) (by omega) dX8_steps_24 (fun Mz59 hMz59 => ?_)
      refine z_iinc (loc2 := fun vq => [fr 60, fi home, fi vq, fu, fu, fu]) dX8_steps_25 rfl (by decide) (by omega) (fun _ => rfl) (fun x60 hx60 => ?_)
      refine z_goto (tgt := 12) dX8_steps_28 (by decide) ?_
      exact ih12 _ (by omega) x60 Mz59 rfl (hA) (by omega) (fun b j q => by rw [hMz59, st_cell q]; exact h1 b j q) (fun v q1 q2 => by rw [hMz59, st_at]; split; rfl; exact h2 v q1 (by omega))
  refine z_iload_n dX8_steps_0 rfl ?_
  refine z_callSip (n2 := 93) (A_X8_isHome l g M home) cb_X8_isHome cl_X8_150 (clr0 rfl rfl (by decide) (by decide)) rfl (by decide) rfl (Nat.le_of_ble_eq_true rfl) rfl dX8_steps_1 (fun x61 bx61 hx61 => ?_)
  have i61 := if01 hx61
  refine z_if_ne (tgt := 10) dX8_steps_4 (by decide) (fun c62 => ?_) (fun c62 => ?_)
  · refine z_iconst dX8_steps_10 ⟨by decide, by decide⟩ ?_
    refine z_istore_n (loc2 := [fr 60, fi home, fi 0, fu, fu, fu]) dX8_steps_11 (by decide) rfl ?_
    exact lp12 _ 0 M rfl (by omega) (by omega) (fun b j _ => rfl) (fun v _ h => by omega)
  · refine z_ldc (c := -1000001) cn_X8_153 ⟨by decide, by decide⟩ dX8_steps_7 ?_
    refine z_iret rfl (by decide) rfl (Nat.sub_self _) dX8_steps_9 ?_
    refine ⟨fun _ _ _ => rfl, ?_⟩
    rw [if_pos (by omega)]
