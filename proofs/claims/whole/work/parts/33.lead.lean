/-! ===== lead ===== -/
/-- telling t carries the end: left out alone, the end isn't the same -/
def LdO (I : Int → Prop) (S : (Int → Int) → Prop) (St : Int → (Int → Int) → Prop) (what home t : Int) : Prop := I t ∧ ¬ ∃ d, EndR S what home d ∧ EndR (St t) what home d
noncomputable def ALead (n : Int) (O : Int → Prop) (i q : Int) : Prop := (i = -1 ∧ q = sumI (fun t => c01 (O t)) n) ∨ (i ≠ -1 ∧ ((∃ t, 0 ≤ t ∧ t < n ∧ O t ∧ sumI (fun t => c01 (O t)) t = i ∧ q = t) ∨ ((∀ t, 0 ≤ t → t < n → O t → sumI (fun t => c01 (O t)) t ≠ i) ∧ q = -1)))
theorem sum_lt {O : Int → Prop} {a b : Int} (h0 : 0 ≤ a) (h : a < b) (ha : O a) : sumI (fun t => c01 (O t)) a < sumI (fun t => c01 (O t)) b := by
  obtain ⟨k, rfl⟩ : ∃ k : Nat, b = a + 1 + k := ⟨(b - a - 1).toNat, by omega⟩
  clear h
  induction k with
  | zero => rw [show a + 1 + ((0 : Nat) : Int) = a + 1 by omega, sumI_succ h0, c01_t ha]; omega
  | succ k ih =>
    rw [show a + 1 + ((k + 1 : Nat) : Int) = (a + 1 + (k : Int)) + 1 by omega, sumI_succ (by omega)]
    have := c01_r (O (a + 1 + (k : Int)))
    omega
theorem ALead_eq {n : Int} {O : Int → Prop} {i q q' : Int} (a : ALead n O i q) (b : ALead n O i q') : q = q' := by
  rcases a with ⟨a1, a2⟩ | ⟨a1, ⟨t, t0, t1, t2, t3, t4⟩ | ⟨a2, a3⟩⟩ <;> rcases b with ⟨b1, b2⟩ | ⟨b1, ⟨u, u0, u1, u2, u3, u4⟩ | ⟨b2, b3⟩⟩ <;> first | omega | (exact absurd t3 (b2 t t0 t1 t2)) | (exact absurd u3 (a2 u u0 u1 u2)) | skip
  by_cases h : t < u
  · have := sum_lt t0 h t2; omega
  · by_cases h2 : u < t
    · have := sum_lt u0 h2 u2; omega
    · omega
def PLead (n : Int) (I : Int → Prop) (S : (Int → Int) → Prop) (St : Int → (Int → Int) → Prop) (home what i q : Int) : Prop := if ¬ (0 ≤ home ∧ home ≤ 9) then q = -1000001 else if ¬ (what = 0 ∨ what = 1) then q = -1000002 else (¬ Feas S ∧ q = -1000005) ∨ (Feas S ∧ FreeD S 16 home ∧ q = -1000006) ∨ (Feas S ∧ ¬ FreeD S 16 home ∧ ALead n (LdO I S St what home) i q)
theorem PLead_eq {n : Int} {I : Int → Prop} {S : (Int → Int) → Prop} {St : Int → (Int → Int) → Prop} {home what i q q' : Int} (a : PLead n I S St home what i q) (b : PLead n I S St home what i q') : q = q' := by
  unfold PLead at a b
  split at a
  · rename_i h; rw [if_pos h] at b; omega
  · rename_i h
    rw [if_neg h] at b
    split at a
    · rename_i h2; rw [if_pos h2] at b; omega
    · rename_i h2
      rw [if_neg h2] at b
      rcases a with ⟨a1, a2⟩ | ⟨a1, a2, a3⟩ | ⟨a1, a2, a3⟩ <;> rcases b with ⟨b1, b2⟩ | ⟨b1, b2, b3⟩ | ⟨b1, b2, b3⟩ <;> first | omega | exact absurd a1 b1 | exact absurd b1 a1 | exact absurd a2 b2 | exact absurd b2 a2 | exact ALead_eq a3 b3
theorem SolT_one {M : FMem} {r : Nat} {kw t w : Int} {x : Int → Int} (h : SolT M r kw (-1) (-1) (-1) w x) : SolT M r kw (-1) t (-1) w x := fun i i0 i1 it il io iw => h i i0 i1 it il (by omega) iw
/-- what isn't on the way doesn't carry the end -/
theorem lead_off {M0 Ma M Mw : FMem} {r : Nat} {kw wl home t : Int} (hwl : wl = 1 ∨ wl = 0) (hk : kw ≤ 80) (hR : RD M0 r kw (-1) (-1) (-1) Ma) (hTr : TR (-1) (-1) (-1) Ma) (hf : Feas (SolT M0 r kw (-1) (-1) (-1) 0)) (hh : nd home) (hE : EndR (SolT M0 r kw (-1) (-1) (-1) 0) wl home (if wl = 1 then M 28 home else -(M 28 home))) (hW : MW Ma wl 16 home M Mw) (ht : Mw 30 t ≠ 1) : ∃ d, EndR (SolT M0 r kw (-1) (-1) (-1) 0) wl home d ∧ EndR (SolT M0 r kw (-1) t (-1) 0) wl home d := by
  refine ⟨_, hE, ?_⟩
  have key : ∀ x, SolT M0 r kw (-1) t (-1) 0 x → ∀ p a b w, EdX Ma wl p a b w → Mw 30 (Ma 27 (p / 2)) = 1 → (if wl = 1 then x b ≤ x a + w else -(x b) ≤ -(x a) + w) := by
    intro x hx p a b w he hon
    have hs := hTr (p / 2) (by have := he.1; omega) (by have := he.1; have := he.2.1; omega)
    have hts := (LD_sol hR.1 hk (-1) t (-1) x).mpr hx _ ⟨hs.1, hs.2.1, hs.2.2.1, hs.2.2.2.1, fun z => ht (by rw [← z]; exact hon), hs.2.2.2.2.2⟩
    rcases hwl with rfl | rfl
    · rw [if_pos rfl]; exact TS_edge he hts
    · rw [if_neg (by decide)]
      obtain ⟨-, -, he⟩ := he
      rcases he with ⟨-, rfl, rfl, rfl⟩ | ⟨-, rfl, rfl, rfl⟩
      · have := hts.2; simp [onW]; omega
      · have := hts.1; simp [baW]; omega
  rcases hwl with rfl | rfl
  · rw [if_pos rfl] at hE ⊢
    rcases hE with ⟨-, e1, x, e2, e3⟩ | ⟨z, -⟩
    · exact Or.inl ⟨rfl, fun y hy => hW.2.2 y (fun p a b w he hon => by have := key y hy p a b w he hon; rwa [if_pos rfl] at this), x, SolT_one e2, e3⟩
    · omega
  · rw [if_neg (by decide)] at hE ⊢
    rcases hE with ⟨z, -⟩ | ⟨-, e1, x, e2, e3⟩
    · omega
    · refine Or.inr ⟨rfl, fun y hy => ?_, x, SolT_one e2, e3⟩
      have := hW.2.2 (fun v => -(y v)) (fun p a b w he hon => by have := key y hy p a b w he hon; rwa [if_neg (by decide)] at this)
      omega
theorem on_in {M0 Ma M Mw : FMem} {r : Nat} {kw wl home t : Int} (hR : RD M0 r kw (-1) (-1) (-1) Ma) (hTr : TR (-1) (-1) (-1) Ma) (hW : MW Ma wl 16 home M Mw) (h0 : 0 ≤ t) (h1 : t < 80) (ht : Mw 30 t = 1) : t < kw ∧ inT M0 t := by
  obtain ⟨q, q0, q1, rfl⟩ := hW.2.1 t h0 h1 ht
  have hs := hTr q q0 q1
  exact (hR.1.2.2.2.1 _ hs.1 hs.2.1).mp hs.2.2.1
set_option maxHeartbeats 400000 in
theorem A_X7_leadOf42_1 (l : Launch) (g : Cx) (M : FMem) (home i : Int) (M0 Ma : FMem) (hT : XT M0 42) (hh : 0 ≤ home ∧ home ≤ 9) (hR : RD M0 42 (M0 1 13) (-1) (-1) (-1) Ma) (hTr : TR (-1) (-1) (-1) Ma) (hF : RF Ma 1 16 M) (hf : Feas (SolT M0 42 (M0 1 13) (-1) (-1) (-1) 0)) (hw : M 28 home ≠ 2000000000) : AMi l g true fi_X7_leadOf [fr 0, fi home, fi 1, fi i] 93 M (fun q M2 => OffX M0 M2 ∧ ALead (M0 1 13) (LdO (inT M0) (SolT M0 42 (M0 1 13) (-1) (-1) (-1) 0) (fun t => SolT M0 42 (M0 1 13) (-1) t (-1) 0) 1 home) i q) := by
  refine AMi_intro [fr 0, fi home, fi 1, fi i, fu, fu, fu] (by decide) (knall rfl) (Nat.le_of_ble_eq_true rfl) rfl ?_
  intro hNV hM0 μ
  have bhome : N32 home := hNV (fi home) (by simp)
  have bi : N32 i := hNV (fi i) (by simp)
  have hts := hT.1
  have hRm := RD_way hR hF.1
  have hend := (RF_end hR hf (by omega) hF (v := home) (by omega)).resolve_left (fun z => hw z.1)
  have hE : EndR (SolT M0 42 (M0 1 13) (-1) (-1) (-1) 0) 1 home (if (1 : Int) = 1 then M 28 home else -(M 28 home)) := by
    exact Or.inl ⟨rfl, hend.2.1⟩
  refine z_aload_nr dX7_leadOf_0 rfl ?_
  refine z_getr (b := 20) fl_X7_33 rfl (by decide) rf_0_3 rfl dX7_leadOf_1 ?_
  refine z_iload_n dX7_leadOf_4 rfl ?_
  refine z_iload_n dX7_leadOf_5 rfl ?_
  refine z_callVip (n2 := 93) (A_X1_bound1 l g M home (by omega)) cb_X1_bound cl_X7_231 (clr0 rfl rfl (by decide) (by decide)) rfl (by decide) ⟨_, rfl, rfl⟩ rfl (by decide) rfl (Nat.le_of_ble_eq_true rfl) rfl dX7_leadOf_6 (fun x1 bx1 hx1 => ?_)
  refine z_istore (loc2 := [fr 0, fi home, fi 1, fi i, fi x1, fu, fu]) dX7_leadOf_9 (by decide) rfl ?_
  refine z_aload_nr dX7_leadOf_11 rfl ?_
  refine z_getr (b := 20) fl_X7_33 rfl (by decide) rf_0_3 rfl dX7_leadOf_12 ?_
  refine z_iload_n dX7_leadOf_15 rfl ?_
  refine z_callVv (n2 := 93) (A_X1_markWay1 l g M home Ma 16 (by omega) (by omega) (hR.2.1) (hF) (feas1 hR hf) (hw)) cb_X1_markWay cl_X7_373 (clr0 rfl rfl (by decide) (by decide)) rfl (by decide) ⟨_, rfl, rfl⟩ rfl (by decide) rfl (Nat.le_of_ble_eq_true rfl) rfl dX7_leadOf_16 (fun Mz2 kMz2 hc2 => ?_)
  have hW := hc2
  have hRw : RD M0 42 (M0 1 13) (-1) (-1) (-1) Mz2 := RD_off hRm (fun b j q => hc2.1 b j (by omega))
  have lp25 : ∀ (kq : Nat) (fo t : Int) (M1 : FMem) (li1 one1 two1 : Int), (M0 1 13 - t).toNat = kq → (0 ≤ t ∧ t ≤ M0 1 13) → (fo = sumI (fun t => c01 ((LdO (inT M0) (SolT M0 42 (M0 1 13) (-1) (-1) (-1) 0) (fun t => SolT M0 42 (M0 1 13) (-1) t (-1) 0) 1 home) t)) t) → (RD M0 42 (M0 1 13) li1 one1 two1 M1) → (∀ j, M1 30 j = Mz2 30 j) → (∀ u, 0 ≤ u → u < t → (LdO (inT M0) (SolT M0 42 (M0 1 13) (-1) (-1) (-1) 0) (fun t => SolT M0 42 (M0 1 13) (-1) t (-1) 0) 1 home) u → sumI (fun t => c01 ((LdO (inT M0) (SolT M0 42 (M0 1 13) (-1) (-1) (-1) 0) (fun t => SolT M0 42 (M0 1 13) (-1) t (-1) 0) 1 home) t)) u ≠ i) → (0 ≤ fo ∧ fo ≤ t) → Wa l g true fi_X7_leadOf 93 μ (Zi g true fi_X7_leadOf 93 μ (fun q M2 => OffX M0 M2 ∧ ALead (M0 1 13) (LdO (inT M0) (SolT M0 42 (M0 1 13) (-1) (-1) (-1) 0) (fun t => SolT M0 42 (M0 1 13) (-1) t (-1) 0) 1 home) i q)) 25 [] [fr 0, fi home, fi 1, fi i, fi x1, fi fo, fi t] 93 M1 := by
    intro kq
    induction kq using Nat.strongRecOn with
    | _ kq ih25 =>
    intro fo t M1 li1 one1 two1 hk25 h0 h1 h2 h3 h4 h5
    have e13 := RD_X h2 1 13 (by omega)
    have e30 := h3 t
    refine z_iload dX7_leadOf_25 rfl ?_
    refine z_aload_nr dX7_leadOf_27 rfl ?_
    refine z_getr (b := 1) fl_X7_10 rfl (by decide) rf_0_0 rfl dX7_leadOf_28 ?_
    refine z_geti (kz := 13) fl_X7_157 rfl (by decide) rfl dX7_leadOf_31 (fun x3 hx3 bx3 => ?_)
    refine z_icmp_ge (tgt := 114) dX7_leadOf_34 (by decide) (fun c4 => ?_) (fun c4 => ?_)
    · refine z_iload_n dX7_leadOf_114 rfl ?_
      refine z_iconst dX7_leadOf_115 ⟨by decide, by decide⟩ ?_
      refine z_icmp_ne (tgt := 124) dX7_leadOf_116 (by decide) (fun c5 => ?_) (fun c5 => ?_)
      · refine z_iconst dX7_leadOf_124 ⟨by decide, by decide⟩ ?_
        refine z_iret rfl (by decide) rfl (Nat.sub_self _) dX7_leadOf_125 ?_
        have htn : t = M0 1 13 := by omega
        first
        | (refine ⟨RD_X h2, Or.inl ⟨by omega, ?_⟩⟩; rw [h1, htn])
        | (refine ⟨RD_X h2, Or.inr ⟨by omega, Or.inr ⟨fun u u0 u1 hu => h4 u u0 (by omega) hu, rfl⟩⟩⟩)
      · refine z_iload dX7_leadOf_119 rfl ?_
        refine z_goto (tgt := 125) dX7_leadOf_121 (by decide) ?_
        refine z_iret rfl (by decide) rfl (Nat.sub_self _) dX7_leadOf_125 ?_
        have htn : t = M0 1 13 := by omega
        first
        | (refine ⟨RD_X h2, Or.inl ⟨by omega, ?_⟩⟩; rw [h1, htn])
        | (refine ⟨RD_X h2, Or.inr ⟨by omega, Or.inr ⟨fun u u0 u1 hu => h4 u u0 (by omega) hu, rfl⟩⟩⟩)
    · refine z_aload_nr dX7_leadOf_37 rfl ?_
      refine z_getr (b := 20) fl_X7_33 rfl (by decide) rf_0_3 rfl dX7_leadOf_38 ?_
      refine z_getr (b := 30) fl_X7_376 rfl (by decide) rf_20_11 rfl dX7_leadOf_41 ?_
      refine z_iload dX7_leadOf_44 rfl ?_
      refine z_zald rfl (by decide) (by omega) (by omega) dX7_leadOf_46 (fun x6 hx6 bx6 => ?_)
      refine z_if_eq (tgt := 108) dX7_leadOf_47 (by decide) (fun c7 => ?_) (fun c7 => ?_)
      · try (have hOf : ¬ (LdO (inT M0) (SolT M0 42 (M0 1 13) (-1) (-1) (-1) 0) (fun t => SolT M0 42 (M0 1 13) (-1) t (-1) 0) 1 home) t := by
              rintro ⟨_, z2⟩
              first
              | exact z2 (lead_off (by omega) hts.2 hR hTr hf (by omega) hE hW (by omega))
              | exact z2 ⟨_, hE, hE5 (by omega)⟩)
        refine z_iinc (loc2 := fun vq => [fr 0, fi home, fi 1, fi i, fi x1, fi fo, fi vq]) dX7_leadOf_108 rfl (by decide) (by omega) (fun _ => rfl) (fun x8 hx8 => ?_)
        refine z_goto (tgt := 25) dX7_leadOf_111 (by decide) ?_
        have hcc : c01 ((LdO (inT M0) (SolT M0 42 (M0 1 13) (-1) (-1) (-1) 0) (fun t => SolT M0 42 (M0 1 13) (-1) t (-1) 0) 1 home) t) = fo - fo := by
          first
          | (rw [c01_t hOt]; omega)
          | (rw [c01_f hOf]; omega)
        have hRz : ∃ la oa ta, RD M0 42 (M0 1 13) la oa ta M1 := by
          first
          | exact ⟨_, _, _, hR5⟩
          | exact ⟨_, _, _, h2⟩
        obtain ⟨la, oa, ta, hRz⟩ := hRz
        have h30z : ∀ j, M1 30 j = Mz2 30 j := by
          first
          | exact h30b
          | exact h3
        exact ih25 _ (by omega) fo x8 M1 la oa ta rfl (by omega) (by rw [hx8, sumI_succ h0.1, ← h1, hcc]; omega) (hRz) (h30z) (fun u u0 u1 hu => by by_cases e : u = t; (subst e; rw [← h1]; first | omega | (exfalso; exact hOf hu)); exact h4 u u0 (by omega) hu) (by have := c01_r ((LdO (inT M0) (SolT M0 42 (M0 1 13) (-1) (-1) (-1) 0) (fun t => SolT M0 42 (M0 1 13) (-1) t (-1) 0) 1 home) t); omega)
      · have hin := on_in hR hTr hW h0.1 (by omega) (by omega)
        refine z_aload_nr dX7_leadOf_50 rfl ?_
        refine z_getr (b := 20) fl_X7_33 rfl (by decide) rf_0_3 rfl dX7_leadOf_51 ?_
        refine z_iconst dX7_leadOf_54 ⟨by decide, by decide⟩ ?_
        refine z_iload dX7_leadOf_55 rfl ?_
        refine z_iconst dX7_leadOf_57 ⟨by decide, by decide⟩ ?_
        refine z_callVv (n2 := 93) (A_X1_leaveOut l g M1 (-1) t (-1)) cb_X1_leaveOut cl_X7_270 (clr0 rfl rfl (by decide) (by decide)) rfl (by decide) ⟨_, rfl, rfl⟩ rfl (by decide) rfl (Nat.le_of_ble_eq_true rfl) rfl dX7_leadOf_58 (fun Mz9 kMz9 hc9 => ?_)
        have hR4 := RD_leave (li' := -1) (one' := t) (two' := -1) h2 hts.2 hc9
        have hf4 : Feas (SolT M0 42 (M0 1 13) (-1) t (-1) 0) := by obtain ⟨x, hx⟩ := hf; exact ⟨x, SolT_one hx⟩
        have h30a : ∀ j, Mz9 30 j = Mz2 30 j := fun j => (hc9.1 30 j (by decide) (by omega)).trans (h3 j)
        refine z_aload_nr dX7_leadOf_61 rfl ?_
        refine z_getr (b := 20) fl_X7_33 rfl (by decide) rf_0_3 rfl dX7_leadOf_62 ?_
        refine z_bipush dX7_leadOf_65 ⟨by decide, by decide⟩ (by decide) ?_
        refine z_iload_n dX7_leadOf_67 rfl ?_
        refine z_callVv (n2 := 93) (A_X1_reach1 l g Mz9 16 (by omega) (hR4.2.1) (feas1 hR4 hf4)) cb_X1_reach cl_X7_223 (clr0 rfl rfl (by decide) (by decide)) rfl (by decide) ⟨_, rfl, rfl⟩ rfl (by decide) rfl (Nat.le_of_ble_eq_true rfl) rfl dX7_leadOf_68 (fun Mz10 kMz10 hc10 => ?_)
        have hF5 := hc10
        have hR5 := RD_way hR4 hF5.1
        have hend5 := RF_end hR4 hf4 (by omega) hF5 (v := home) (by omega)
        have h30b : ∀ j, Mz10 30 j = Mz2 30 j := fun j => (hF5.1 30 j (by decide) (by decide)).trans (h30a j)
        have hEt : Mz10 28 home ≠ 2000000000 ∧ MaxD (SolT M0 42 (M0 1 13) (-1) t (-1) 0) 16 home (Mz10 28 home) ∧ -1000000000 ≤ Mz10 28 home ∧ Mz10 28 home ≤ 1000000000 → EndR (SolT M0 42 (M0 1 13) (-1) t (-1) 0) 1 home ((Mz10 28 home)) := fun z => Or.inl ⟨rfl, z.2.1⟩
        refine z_aload_nr dX7_leadOf_71 rfl ?_
        refine z_getr (b := 20) fl_X7_33 rfl (by decide) rf_0_3 rfl dX7_leadOf_72 ?_
        refine z_iload_n dX7_leadOf_75 rfl ?_
        refine z_callVip (n2 := 93) (A_X1_isReached l g Mz10 home (by omega)) cb_X1_isReached cl_X7_227 (clr0 rfl rfl (by decide) (by decide)) rfl (by decide) ⟨_, rfl, rfl⟩ rfl (by decide) rfl (Nat.le_of_ble_eq_true rfl) rfl dX7_leadOf_76 (fun x11 bx11 hx11 => ?_)
        have i11 := if10 hx11
        refine z_if_eq (tgt := 96) dX7_leadOf_79 (by decide) (fun c12 => ?_) (fun c12 => ?_)
        · have hOt : (LdO (inT M0) (SolT M0 42 (M0 1 13) (-1) (-1) (-1) 0) (fun t => SolT M0 42 (M0 1 13) (-1) t (-1) 0) 1 home) t := by
            refine ⟨hin.2, ?_⟩
            rintro ⟨d, d1, d2⟩
            have dd := EndR_eq d1 hE
            rcases hend5 with z | z
            · exact EndR_free d2 z.2
            · have d3 := EndR_eq d2 (hEt z)
              rw [if_pos rfl] at dd
              omega
          refine z_iload dX7_leadOf_96 rfl ?_
          refine z_iload_n dX7_leadOf_98 rfl ?_
          refine z_icmp_ne (tgt := 105) dX7_leadOf_99 (by decide) (fun c13 => ?_) (fun c13 => ?_)
          · refine z_iinc (loc2 := fun vq => [fr 0, fi home, fi 1, fi i, fi x1, fi vq, fi t]) dX7_leadOf_105 rfl (by decide) (by omega) (fun _ => rfl) (fun x14 hx14 => ?_)
            try (have hOf : ¬ (LdO (inT M0) (SolT M0 42 (M0 1 13) (-1) (-1) (-1) 0) (fun t => SolT M0 42 (M0 1 13) (-1) t (-1) 0) 1 home) t := by
                  rintro ⟨_, z2⟩
                  first
                  | exact z2 (lead_off (by omega) hts.2 hR hTr hf (by omega) hE hW (by omega))
                  | exact z2 ⟨_, hE, hE5 (by omega)⟩)
            refine z_iinc (loc2 := fun vq => [fr 0, fi home, fi 1, fi i, fi x1, fi x14, fi vq]) dX7_leadOf_108 rfl (by decide) (by omega) (fun _ => rfl) (fun x15 hx15 => ?_)
            refine z_goto (tgt := 25) dX7_leadOf_111 (by decide) ?_
            have hcc : c01 ((LdO (inT M0) (SolT M0 42 (M0 1 13) (-1) (-1) (-1) 0) (fun t => SolT M0 42 (M0 1 13) (-1) t (-1) 0) 1 home) t) = x14 - fo := by
              first
              | (rw [c01_t hOt]; omega)
              | (rw [c01_f hOf]; omega)
            have hRz : ∃ la oa ta, RD M0 42 (M0 1 13) la oa ta Mz10 := by
              first
              | exact ⟨_, _, _, hR5⟩
              | exact ⟨_, _, _, h2⟩
            obtain ⟨la, oa, ta, hRz⟩ := hRz
            have h30z : ∀ j, Mz10 30 j = Mz2 30 j := by
              first
              | exact h30b
              | exact h3
            exact ih25 _ (by omega) x14 x15 Mz10 la oa ta rfl (by omega) (by rw [hx15, sumI_succ h0.1, ← h1, hcc]; omega) (hRz) (h30z) (fun u u0 u1 hu => by by_cases e : u = t; (subst e; rw [← h1]; first | omega | (exfalso; exact hOf hu)); exact h4 u u0 (by omega) hu) (by have := c01_r ((LdO (inT M0) (SolT M0 42 (M0 1 13) (-1) (-1) (-1) 0) (fun t => SolT M0 42 (M0 1 13) (-1) t (-1) 0) 1 home) t); omega)
          · refine z_iload dX7_leadOf_102 rfl ?_
            refine z_iret rfl (by decide) rfl (Nat.sub_self _) dX7_leadOf_104 ?_
            refine ⟨RD_X hR5, Or.inr ⟨by omega, Or.inl ⟨t, h0.1, by omega, hOt, by rw [← h1]; omega, rfl⟩⟩⟩
        · refine z_aload_nr dX7_leadOf_82 rfl ?_
          refine z_getr (b := 20) fl_X7_33 rfl (by decide) rf_0_3 rfl dX7_leadOf_83 ?_
          refine z_iload_n dX7_leadOf_86 rfl ?_
          refine z_iload_n dX7_leadOf_87 rfl ?_
          refine z_callVip (n2 := 93) (A_X1_bound1 l g Mz10 home (by omega)) cb_X1_bound cl_X7_231 (clr0 rfl rfl (by decide) (by decide)) rfl (by decide) ⟨_, rfl, rfl⟩ rfl (by decide) rfl (Nat.le_of_ble_eq_true rfl) rfl dX7_leadOf_88 (fun x16 bx16 hx16 => ?_)
          have hE5 : x16 = x1 → EndR (SolT M0 42 (M0 1 13) (-1) t (-1) 0) 1 home (if (1 : Int) = 1 then M 28 home else -(M 28 home)) := fun z => by
            have w := hEt (hend5.resolve_left (fun y => by omega))
            rw [if_pos rfl]
            rw [show M 28 home = (Mz10 28 home) by omega]
            exact w
          refine z_iload dX7_leadOf_91 rfl ?_
          refine z_icmp_eq (tgt := 108) dX7_leadOf_93 (by decide) (fun c17 => ?_) (fun c17 => ?_)
          · try (have hOf : ¬ (LdO (inT M0) (SolT M0 42 (M0 1 13) (-1) (-1) (-1) 0) (fun t => SolT M0 42 (M0 1 13) (-1) t (-1) 0) 1 home) t := by
                  rintro ⟨_, z2⟩
                  first
                  | exact z2 (lead_off (by omega) hts.2 hR hTr hf (by omega) hE hW (by omega))
                  | exact z2 ⟨_, hE, hE5 (by omega)⟩)
            refine z_iinc (loc2 := fun vq => [fr 0, fi home, fi 1, fi i, fi x1, fi fo, fi vq]) dX7_leadOf_108 rfl (by decide) (by omega) (fun _ => rfl) (fun x18 hx18 => ?_)
            refine z_goto (tgt := 25) dX7_leadOf_111 (by decide) ?_
            have hcc : c01 ((LdO (inT M0) (SolT M0 42 (M0 1 13) (-1) (-1) (-1) 0) (fun t => SolT M0 42 (M0 1 13) (-1) t (-1) 0) 1 home) t) = fo - fo := by
              first
              | (rw [c01_t hOt]; omega)
              | (rw [c01_f hOf]; omega)
            have hRz : ∃ la oa ta, RD M0 42 (M0 1 13) la oa ta Mz10 := by
              first
              | exact ⟨_, _, _, hR5⟩
              | exact ⟨_, _, _, h2⟩
            obtain ⟨la, oa, ta, hRz⟩ := hRz
            have h30z : ∀ j, Mz10 30 j = Mz2 30 j := by
              first
              | exact h30b
              | exact h3
            exact ih25 _ (by omega) fo x18 Mz10 la oa ta rfl (by omega) (by rw [hx18, sumI_succ h0.1, ← h1, hcc]; omega) (hRz) (h30z) (fun u u0 u1 hu => by by_cases e : u = t; (subst e; rw [← h1]; first | omega | (exfalso; exact hOf hu)); exact h4 u u0 (by omega) hu) (by have := c01_r ((LdO (inT M0) (SolT M0 42 (M0 1 13) (-1) (-1) (-1) 0) (fun t => SolT M0 42 (M0 1 13) (-1) t (-1) 0) 1 home) t); omega)
          · have hOt : (LdO (inT M0) (SolT M0 42 (M0 1 13) (-1) (-1) (-1) 0) (fun t => SolT M0 42 (M0 1 13) (-1) t (-1) 0) 1 home) t := by
              refine ⟨hin.2, ?_⟩
              rintro ⟨d, d1, d2⟩
              have dd := EndR_eq d1 hE
              rcases hend5 with z | z
              · exact EndR_free d2 z.2
              · have d3 := EndR_eq d2 (hEt z)
                rw [if_pos rfl] at dd
                omega
            refine z_iload dX7_leadOf_96 rfl ?_
            refine z_iload_n dX7_leadOf_98 rfl ?_
            refine z_icmp_ne (tgt := 105) dX7_leadOf_99 (by decide) (fun c19 => ?_) (fun c19 => ?_)
            · refine z_iinc (loc2 := fun vq => [fr 0, fi home, fi 1, fi i, fi x1, fi vq, fi t]) dX7_leadOf_105 rfl (by decide) (by omega) (fun _ => rfl) (fun x20 hx20 => ?_)
              try (have hOf : ¬ (LdO (inT M0) (SolT M0 42 (M0 1 13) (-1) (-1) (-1) 0) (fun t => SolT M0 42 (M0 1 13) (-1) t (-1) 0) 1 home) t := by
                    rintro ⟨_, z2⟩
                    first
                    | exact z2 (lead_off (by omega) hts.2 hR hTr hf (by omega) hE hW (by omega))
                    | exact z2 ⟨_, hE, hE5 (by omega)⟩)
              refine z_iinc (loc2 := fun vq => [fr 0, fi home, fi 1, fi i, fi x1, fi x20, fi vq]) dX7_leadOf_108 rfl (by decide) (by omega) (fun _ => rfl) (fun x21 hx21 => ?_)
              refine z_goto (tgt := 25) dX7_leadOf_111 (by decide) ?_
              have hcc : c01 ((LdO (inT M0) (SolT M0 42 (M0 1 13) (-1) (-1) (-1) 0) (fun t => SolT M0 42 (M0 1 13) (-1) t (-1) 0) 1 home) t) = x20 - fo := by
                first
                | (rw [c01_t hOt]; omega)
                | (rw [c01_f hOf]; omega)
              have hRz : ∃ la oa ta, RD M0 42 (M0 1 13) la oa ta Mz10 := by
                first
                | exact ⟨_, _, _, hR5⟩
                | exact ⟨_, _, _, h2⟩
              obtain ⟨la, oa, ta, hRz⟩ := hRz
              have h30z : ∀ j, Mz10 30 j = Mz2 30 j := by
                first
                | exact h30b
                | exact h3
              exact ih25 _ (by omega) x20 x21 Mz10 la oa ta rfl (by omega) (by rw [hx21, sumI_succ h0.1, ← h1, hcc]; omega) (hRz) (h30z) (fun u u0 u1 hu => by by_cases e : u = t; (subst e; rw [← h1]; first | omega | (exfalso; exact hOf hu)); exact h4 u u0 (by omega) hu) (by have := c01_r ((LdO (inT M0) (SolT M0 42 (M0 1 13) (-1) (-1) (-1) 0) (fun t => SolT M0 42 (M0 1 13) (-1) t (-1) 0) 1 home) t); omega)
            · refine z_iload dX7_leadOf_102 rfl ?_
              refine z_iret rfl (by decide) rfl (Nat.sub_self _) dX7_leadOf_104 ?_
              refine ⟨RD_X hR5, Or.inr ⟨by omega, Or.inl ⟨t, h0.1, by omega, hOt, by rw [← h1]; omega, rfl⟩⟩⟩
  refine z_iconst dX7_leadOf_19 ⟨by decide, by decide⟩ ?_
  refine z_istore (loc2 := [fr 0, fi home, fi 1, fi i, fi x1, fi 0, fu]) dX7_leadOf_20 (by decide) rfl ?_
  refine z_iconst dX7_leadOf_22 ⟨by decide, by decide⟩ ?_
  refine z_istore (loc2 := [fr 0, fi home, fi 1, fi i, fi x1, fi 0, fi 0]) dX7_leadOf_23 (by decide) rfl ?_
  exact lp25 _ 0 0 Mz2 (-1) (-1) (-1) rfl (by omega) ((sumI_0 _).symm) (hRw) (fun j => rfl) (fun u u0 u1 => by omega) (by omega)
set_option maxHeartbeats 400000 in
theorem A_X7_leadOf42_0 (l : Launch) (g : Cx) (M : FMem) (home i : Int) (M0 Ma : FMem) (hT : XT M0 42) (hh : 0 ≤ home ∧ home ≤ 9) (hR : RD M0 42 (M0 1 13) (-1) (-1) (-1) Ma) (hTr : TR (-1) (-1) (-1) Ma) (hF : RF Ma 0 16 M) (hf : Feas (SolT M0 42 (M0 1 13) (-1) (-1) (-1) 0)) (hw : M 28 home ≠ 2000000000) : AMi l g true fi_X7_leadOf [fr 0, fi home, fi 0, fi i] 93 M (fun q M2 => OffX M0 M2 ∧ ALead (M0 1 13) (LdO (inT M0) (SolT M0 42 (M0 1 13) (-1) (-1) (-1) 0) (fun t => SolT M0 42 (M0 1 13) (-1) t (-1) 0) 0 home) i q) := by
  refine AMi_intro [fr 0, fi home, fi 0, fi i, fu, fu, fu] (by decide) (knall rfl) (Nat.le_of_ble_eq_true rfl) rfl ?_
  intro hNV hM0 μ
  have bhome : N32 home := hNV (fi home) (by simp)
  have bi : N32 i := hNV (fi i) (by simp)
  have hts := hT.1
  have hRm := RD_way hR hF.1
  have hend := (RF_end0 hR hf (by omega) hF (v := home) (by omega)).resolve_left (fun z => hw z.1)
  have hE : EndR (SolT M0 42 (M0 1 13) (-1) (-1) (-1) 0) 0 home (if (0 : Int) = 1 then M 28 home else -(M 28 home)) := by
    refine Or.inr ⟨rfl, ?_⟩; rw [if_neg (by decide), Int.neg_neg]; exact hend.2.1
  refine z_aload_nr dX7_leadOf_0 rfl ?_
  refine z_getr (b := 20) fl_X7_33 rfl (by decide) rf_0_3 rfl dX7_leadOf_1 ?_
  refine z_iload_n dX7_leadOf_4 rfl ?_
  refine z_iload_n dX7_leadOf_5 rfl ?_
  refine z_callVip (n2 := 93) (A_X1_bound0 l g M home (by omega) (by omega)) cb_X1_bound cl_X7_231 (clr0 rfl rfl (by decide) (by decide)) rfl (by decide) ⟨_, rfl, rfl⟩ rfl (by decide) rfl (Nat.le_of_ble_eq_true rfl) rfl dX7_leadOf_6 (fun x1 bx1 hx1 => ?_)
  refine z_istore (loc2 := [fr 0, fi home, fi 0, fi i, fi x1, fu, fu]) dX7_leadOf_9 (by decide) rfl ?_
  refine z_aload_nr dX7_leadOf_11 rfl ?_
  refine z_getr (b := 20) fl_X7_33 rfl (by decide) rf_0_3 rfl dX7_leadOf_12 ?_
  refine z_iload_n dX7_leadOf_15 rfl ?_
  refine z_callVv (n2 := 93) (A_X1_markWay0 l g M home Ma 16 (by omega) (by omega) (hR.2.1) (hF) (feas0 hR hf) (hw)) cb_X1_markWay cl_X7_373 (clr0 rfl rfl (by decide) (by decide)) rfl (by decide) ⟨_, rfl, rfl⟩ rfl (by decide) rfl (Nat.le_of_ble_eq_true rfl) rfl dX7_leadOf_16 (fun Mz2 kMz2 hc2 => ?_)
  have hW := hc2
  have hRw : RD M0 42 (M0 1 13) (-1) (-1) (-1) Mz2 := RD_off hRm (fun b j q => hc2.1 b j (by omega))
  have lp25 : ∀ (kq : Nat) (fo t : Int) (M1 : FMem) (li1 one1 two1 : Int), (M0 1 13 - t).toNat = kq → (0 ≤ t ∧ t ≤ M0 1 13) → (fo = sumI (fun t => c01 ((LdO (inT M0) (SolT M0 42 (M0 1 13) (-1) (-1) (-1) 0) (fun t => SolT M0 42 (M0 1 13) (-1) t (-1) 0) 0 home) t)) t) → (RD M0 42 (M0 1 13) li1 one1 two1 M1) → (∀ j, M1 30 j = Mz2 30 j) → (∀ u, 0 ≤ u → u < t → (LdO (inT M0) (SolT M0 42 (M0 1 13) (-1) (-1) (-1) 0) (fun t => SolT M0 42 (M0 1 13) (-1) t (-1) 0) 0 home) u → sumI (fun t => c01 ((LdO (inT M0) (SolT M0 42 (M0 1 13) (-1) (-1) (-1) 0) (fun t => SolT M0 42 (M0 1 13) (-1) t (-1) 0) 0 home) t)) u ≠ i) → (0 ≤ fo ∧ fo ≤ t) → Wa l g true fi_X7_leadOf 93 μ (Zi g true fi_X7_leadOf 93 μ (fun q M2 => OffX M0 M2 ∧ ALead (M0 1 13) (LdO (inT M0) (SolT M0 42 (M0 1 13) (-1) (-1) (-1) 0) (fun t => SolT M0 42 (M0 1 13) (-1) t (-1) 0) 0 home) i q)) 25 [] [fr 0, fi home, fi 0, fi i, fi x1, fi fo, fi t] 93 M1 := by
    intro kq
    induction kq using Nat.strongRecOn with
    | _ kq ih25 =>
    intro fo t M1 li1 one1 two1 hk25 h0 h1 h2 h3 h4 h5
    have e13 := RD_X h2 1 13 (by omega)
    have e30 := h3 t
    refine z_iload dX7_leadOf_25 rfl ?_
    refine z_aload_nr dX7_leadOf_27 rfl ?_
    refine z_getr (b := 1) fl_X7_10 rfl (by decide) rf_0_0 rfl dX7_leadOf_28 ?_
    refine z_geti (kz := 13) fl_X7_157 rfl (by decide) rfl dX7_leadOf_31 (fun x3 hx3 bx3 => ?_)
    refine z_icmp_ge (tgt := 114) dX7_leadOf_34 (by decide) (fun c4 => ?_) (fun c4 => ?_)
    · refine z_iload_n dX7_leadOf_114 rfl ?_
      refine z_iconst dX7_leadOf_115 ⟨by decide, by decide⟩ ?_
      refine z_icmp_ne (tgt := 124) dX7_leadOf_116 (by decide) (fun c5 => ?_) (fun c5 => ?_)
      · refine z_iconst dX7_leadOf_124 ⟨by decide, by decide⟩ ?_
        refine z_iret rfl (by decide) rfl (Nat.sub_self _) dX7_leadOf_125 ?_
        have htn : t = M0 1 13 := by omega
        first
        | (refine ⟨RD_X h2, Or.inl ⟨by omega, ?_⟩⟩; rw [h1, htn])
        | (refine ⟨RD_X h2, Or.inr ⟨by omega, Or.inr ⟨fun u u0 u1 hu => h4 u u0 (by omega) hu, rfl⟩⟩⟩)
      · refine z_iload dX7_leadOf_119 rfl ?_
        refine z_goto (tgt := 125) dX7_leadOf_121 (by decide) ?_
        refine z_iret rfl (by decide) rfl (Nat.sub_self _) dX7_leadOf_125 ?_
        have htn : t = M0 1 13 := by omega
        first
        | (refine ⟨RD_X h2, Or.inl ⟨by omega, ?_⟩⟩; rw [h1, htn])
        | (refine ⟨RD_X h2, Or.inr ⟨by omega, Or.inr ⟨fun u u0 u1 hu => h4 u u0 (by omega) hu, rfl⟩⟩⟩)
    · refine z_aload_nr dX7_leadOf_37 rfl ?_
      refine z_getr (b := 20) fl_X7_33 rfl (by decide) rf_0_3 rfl dX7_leadOf_38 ?_
      refine z_getr (b := 30) fl_X7_376 rfl (by decide) rf_20_11 rfl dX7_leadOf_41 ?_
      refine z_iload dX7_leadOf_44 rfl ?_
      refine z_zald rfl (by decide) (by omega) (by omega) dX7_leadOf_46 (fun x6 hx6 bx6 => ?_)
      refine z_if_eq (tgt := 108) dX7_leadOf_47 (by decide) (fun c7 => ?_) (fun c7 => ?_)
      · try (have hOf : ¬ (LdO (inT M0) (SolT M0 42 (M0 1 13) (-1) (-1) (-1) 0) (fun t => SolT M0 42 (M0 1 13) (-1) t (-1) 0) 0 home) t := by
              rintro ⟨_, z2⟩
              first
              | exact z2 (lead_off (by omega) hts.2 hR hTr hf (by omega) hE hW (by omega))
              | exact z2 ⟨_, hE, hE5 (by omega)⟩)
        refine z_iinc (loc2 := fun vq => [fr 0, fi home, fi 0, fi i, fi x1, fi fo, fi vq]) dX7_leadOf_108 rfl (by decide) (by omega) (fun _ => rfl) (fun x8 hx8 => ?_)
        refine z_goto (tgt := 25) dX7_leadOf_111 (by decide) ?_
        have hcc : c01 ((LdO (inT M0) (SolT M0 42 (M0 1 13) (-1) (-1) (-1) 0) (fun t => SolT M0 42 (M0 1 13) (-1) t (-1) 0) 0 home) t) = fo - fo := by
          first
          | (rw [c01_t hOt]; omega)
          | (rw [c01_f hOf]; omega)
        have hRz : ∃ la oa ta, RD M0 42 (M0 1 13) la oa ta M1 := by
          first
          | exact ⟨_, _, _, hR5⟩
          | exact ⟨_, _, _, h2⟩
        obtain ⟨la, oa, ta, hRz⟩ := hRz
        have h30z : ∀ j, M1 30 j = Mz2 30 j := by
          first
          | exact h30b
          | exact h3
        exact ih25 _ (by omega) fo x8 M1 la oa ta rfl (by omega) (by rw [hx8, sumI_succ h0.1, ← h1, hcc]; omega) (hRz) (h30z) (fun u u0 u1 hu => by by_cases e : u = t; (subst e; rw [← h1]; first | omega | (exfalso; exact hOf hu)); exact h4 u u0 (by omega) hu) (by have := c01_r ((LdO (inT M0) (SolT M0 42 (M0 1 13) (-1) (-1) (-1) 0) (fun t => SolT M0 42 (M0 1 13) (-1) t (-1) 0) 0 home) t); omega)
      · have hin := on_in hR hTr hW h0.1 (by omega) (by omega)
        refine z_aload_nr dX7_leadOf_50 rfl ?_
        refine z_getr (b := 20) fl_X7_33 rfl (by decide) rf_0_3 rfl dX7_leadOf_51 ?_
        refine z_iconst dX7_leadOf_54 ⟨by decide, by decide⟩ ?_
        refine z_iload dX7_leadOf_55 rfl ?_
        refine z_iconst dX7_leadOf_57 ⟨by decide, by decide⟩ ?_
        refine z_callVv (n2 := 93) (A_X1_leaveOut l g M1 (-1) t (-1)) cb_X1_leaveOut cl_X7_270 (clr0 rfl rfl (by decide) (by decide)) rfl (by decide) ⟨_, rfl, rfl⟩ rfl (by decide) rfl (Nat.le_of_ble_eq_true rfl) rfl dX7_leadOf_58 (fun Mz9 kMz9 hc9 => ?_)
        have hR4 := RD_leave (li' := -1) (one' := t) (two' := -1) h2 hts.2 hc9
        have hf4 : Feas (SolT M0 42 (M0 1 13) (-1) t (-1) 0) := by obtain ⟨x, hx⟩ := hf; exact ⟨x, SolT_one hx⟩
        have h30a : ∀ j, Mz9 30 j = Mz2 30 j := fun j => (hc9.1 30 j (by decide) (by omega)).trans (h3 j)
        refine z_aload_nr dX7_leadOf_61 rfl ?_
        refine z_getr (b := 20) fl_X7_33 rfl (by decide) rf_0_3 rfl dX7_leadOf_62 ?_
        refine z_bipush dX7_leadOf_65 ⟨by decide, by decide⟩ (by decide) ?_
        refine z_iload_n dX7_leadOf_67 rfl ?_
        refine z_callVv (n2 := 93) (A_X1_reach0 l g Mz9 16 (by omega) (hR4.2.1) (feas0 hR4 hf4)) cb_X1_reach cl_X7_223 (clr0 rfl rfl (by decide) (by decide)) rfl (by decide) ⟨_, rfl, rfl⟩ rfl (by decide) rfl (Nat.le_of_ble_eq_true rfl) rfl dX7_leadOf_68 (fun Mz10 kMz10 hc10 => ?_)
        have hF5 := hc10
        have hR5 := RD_way hR4 hF5.1
        have hend5 := RF_end0 hR4 hf4 (by omega) hF5 (v := home) (by omega)
        have h30b : ∀ j, Mz10 30 j = Mz2 30 j := fun j => (hF5.1 30 j (by decide) (by decide)).trans (h30a j)
        have hEt : Mz10 28 home ≠ 2000000000 ∧ MaxD (SolT M0 42 (M0 1 13) (-1) t (-1) 0) home 16 (Mz10 28 home) ∧ -1000000000 ≤ Mz10 28 home ∧ Mz10 28 home ≤ 1000000000 → EndR (SolT M0 42 (M0 1 13) (-1) t (-1) 0) 0 home (-(Mz10 28 home)) := fun z => Or.inr ⟨rfl, by rw [Int.neg_neg]; exact z.2.1⟩
        refine z_aload_nr dX7_leadOf_71 rfl ?_
        refine z_getr (b := 20) fl_X7_33 rfl (by decide) rf_0_3 rfl dX7_leadOf_72 ?_
        refine z_iload_n dX7_leadOf_75 rfl ?_
        refine z_callVip (n2 := 93) (A_X1_isReached l g Mz10 home (by omega)) cb_X1_isReached cl_X7_227 (clr0 rfl rfl (by decide) (by decide)) rfl (by decide) ⟨_, rfl, rfl⟩ rfl (by decide) rfl (Nat.le_of_ble_eq_true rfl) rfl dX7_leadOf_76 (fun x11 bx11 hx11 => ?_)
        have i11 := if10 hx11
        refine z_if_eq (tgt := 96) dX7_leadOf_79 (by decide) (fun c12 => ?_) (fun c12 => ?_)
        · have hOt : (LdO (inT M0) (SolT M0 42 (M0 1 13) (-1) (-1) (-1) 0) (fun t => SolT M0 42 (M0 1 13) (-1) t (-1) 0) 0 home) t := by
            refine ⟨hin.2, ?_⟩
            rintro ⟨d, d1, d2⟩
            have dd := EndR_eq d1 hE
            rcases hend5 with z | z
            · exact EndR_free d2 z.2
            · have d3 := EndR_eq d2 (hEt z)
              rw [if_neg (by decide)] at dd
              omega
          refine z_iload dX7_leadOf_96 rfl ?_
          refine z_iload_n dX7_leadOf_98 rfl ?_
          refine z_icmp_ne (tgt := 105) dX7_leadOf_99 (by decide) (fun c13 => ?_) (fun c13 => ?_)
          · refine z_iinc (loc2 := fun vq => [fr 0, fi home, fi 0, fi i, fi x1, fi vq, fi t]) dX7_leadOf_105 rfl (by decide) (by omega) (fun _ => rfl) (fun x14 hx14 => ?_)
            try (have hOf : ¬ (LdO (inT M0) (SolT M0 42 (M0 1 13) (-1) (-1) (-1) 0) (fun t => SolT M0 42 (M0 1 13) (-1) t (-1) 0) 0 home) t := by
                  rintro ⟨_, z2⟩
                  first
                  | exact z2 (lead_off (by omega) hts.2 hR hTr hf (by omega) hE hW (by omega))
                  | exact z2 ⟨_, hE, hE5 (by omega)⟩)
            refine z_iinc (loc2 := fun vq => [fr 0, fi home, fi 0, fi i, fi x1, fi x14, fi vq]) dX7_leadOf_108 rfl (by decide) (by omega) (fun _ => rfl) (fun x15 hx15 => ?_)
            refine z_goto (tgt := 25) dX7_leadOf_111 (by decide) ?_
            have hcc : c01 ((LdO (inT M0) (SolT M0 42 (M0 1 13) (-1) (-1) (-1) 0) (fun t => SolT M0 42 (M0 1 13) (-1) t (-1) 0) 0 home) t) = x14 - fo := by
              first
              | (rw [c01_t hOt]; omega)
              | (rw [c01_f hOf]; omega)
            have hRz : ∃ la oa ta, RD M0 42 (M0 1 13) la oa ta Mz10 := by
              first
              | exact ⟨_, _, _, hR5⟩
              | exact ⟨_, _, _, h2⟩
            obtain ⟨la, oa, ta, hRz⟩ := hRz
            have h30z : ∀ j, Mz10 30 j = Mz2 30 j := by
              first
              | exact h30b
              | exact h3
            exact ih25 _ (by omega) x14 x15 Mz10 la oa ta rfl (by omega) (by rw [hx15, sumI_succ h0.1, ← h1, hcc]; omega) (hRz) (h30z) (fun u u0 u1 hu => by by_cases e : u = t; (subst e; rw [← h1]; first | omega | (exfalso; exact hOf hu)); exact h4 u u0 (by omega) hu) (by have := c01_r ((LdO (inT M0) (SolT M0 42 (M0 1 13) (-1) (-1) (-1) 0) (fun t => SolT M0 42 (M0 1 13) (-1) t (-1) 0) 0 home) t); omega)
          · refine z_iload dX7_leadOf_102 rfl ?_
            refine z_iret rfl (by decide) rfl (Nat.sub_self _) dX7_leadOf_104 ?_
            refine ⟨RD_X hR5, Or.inr ⟨by omega, Or.inl ⟨t, h0.1, by omega, hOt, by rw [← h1]; omega, rfl⟩⟩⟩
        · refine z_aload_nr dX7_leadOf_82 rfl ?_
          refine z_getr (b := 20) fl_X7_33 rfl (by decide) rf_0_3 rfl dX7_leadOf_83 ?_
          refine z_iload_n dX7_leadOf_86 rfl ?_
          refine z_iload_n dX7_leadOf_87 rfl ?_
          refine z_callVip (n2 := 93) (A_X1_bound0 l g Mz10 home (by omega) (by omega)) cb_X1_bound cl_X7_231 (clr0 rfl rfl (by decide) (by decide)) rfl (by decide) ⟨_, rfl, rfl⟩ rfl (by decide) rfl (Nat.le_of_ble_eq_true rfl) rfl dX7_leadOf_88 (fun x16 bx16 hx16 => ?_)
          have hE5 : x16 = x1 → EndR (SolT M0 42 (M0 1 13) (-1) t (-1) 0) 0 home (if (0 : Int) = 1 then M 28 home else -(M 28 home)) := fun z => by
            have w := hEt (hend5.resolve_left (fun y => by omega))
            rw [if_neg (by decide)]
            rw [show -(M 28 home) = -(Mz10 28 home) by omega]
            exact w
          refine z_iload dX7_leadOf_91 rfl ?_
          refine z_icmp_eq (tgt := 108) dX7_leadOf_93 (by decide) (fun c17 => ?_) (fun c17 => ?_)
          · try (have hOf : ¬ (LdO (inT M0) (SolT M0 42 (M0 1 13) (-1) (-1) (-1) 0) (fun t => SolT M0 42 (M0 1 13) (-1) t (-1) 0) 0 home) t := by
                  rintro ⟨_, z2⟩
                  first
                  | exact z2 (lead_off (by omega) hts.2 hR hTr hf (by omega) hE hW (by omega))
                  | exact z2 ⟨_, hE, hE5 (by omega)⟩)
            refine z_iinc (loc2 := fun vq => [fr 0, fi home, fi 0, fi i, fi x1, fi fo, fi vq]) dX7_leadOf_108 rfl (by decide) (by omega) (fun _ => rfl) (fun x18 hx18 => ?_)
            refine z_goto (tgt := 25) dX7_leadOf_111 (by decide) ?_
            have hcc : c01 ((LdO (inT M0) (SolT M0 42 (M0 1 13) (-1) (-1) (-1) 0) (fun t => SolT M0 42 (M0 1 13) (-1) t (-1) 0) 0 home) t) = fo - fo := by
              first
              | (rw [c01_t hOt]; omega)
              | (rw [c01_f hOf]; omega)
            have hRz : ∃ la oa ta, RD M0 42 (M0 1 13) la oa ta Mz10 := by
              first
              | exact ⟨_, _, _, hR5⟩
              | exact ⟨_, _, _, h2⟩
            obtain ⟨la, oa, ta, hRz⟩ := hRz
            have h30z : ∀ j, Mz10 30 j = Mz2 30 j := by
              first
              | exact h30b
              | exact h3
            exact ih25 _ (by omega) fo x18 Mz10 la oa ta rfl (by omega) (by rw [hx18, sumI_succ h0.1, ← h1, hcc]; omega) (hRz) (h30z) (fun u u0 u1 hu => by by_cases e : u = t; (subst e; rw [← h1]; first | omega | (exfalso; exact hOf hu)); exact h4 u u0 (by omega) hu) (by have := c01_r ((LdO (inT M0) (SolT M0 42 (M0 1 13) (-1) (-1) (-1) 0) (fun t => SolT M0 42 (M0 1 13) (-1) t (-1) 0) 0 home) t); omega)
          · have hOt : (LdO (inT M0) (SolT M0 42 (M0 1 13) (-1) (-1) (-1) 0) (fun t => SolT M0 42 (M0 1 13) (-1) t (-1) 0) 0 home) t := by
              refine ⟨hin.2, ?_⟩
              rintro ⟨d, d1, d2⟩
              have dd := EndR_eq d1 hE
              rcases hend5 with z | z
              · exact EndR_free d2 z.2
              · have d3 := EndR_eq d2 (hEt z)
                rw [if_neg (by decide)] at dd
                omega
            refine z_iload dX7_leadOf_96 rfl ?_
            refine z_iload_n dX7_leadOf_98 rfl ?_
            refine z_icmp_ne (tgt := 105) dX7_leadOf_99 (by decide) (fun c19 => ?_) (fun c19 => ?_)
            · refine z_iinc (loc2 := fun vq => [fr 0, fi home, fi 0, fi i, fi x1, fi vq, fi t]) dX7_leadOf_105 rfl (by decide) (by omega) (fun _ => rfl) (fun x20 hx20 => ?_)
              try (have hOf : ¬ (LdO (inT M0) (SolT M0 42 (M0 1 13) (-1) (-1) (-1) 0) (fun t => SolT M0 42 (M0 1 13) (-1) t (-1) 0) 0 home) t := by
                    rintro ⟨_, z2⟩
                    first
                    | exact z2 (lead_off (by omega) hts.2 hR hTr hf (by omega) hE hW (by omega))
                    | exact z2 ⟨_, hE, hE5 (by omega)⟩)
              refine z_iinc (loc2 := fun vq => [fr 0, fi home, fi 0, fi i, fi x1, fi x20, fi vq]) dX7_leadOf_108 rfl (by decide) (by omega) (fun _ => rfl) (fun x21 hx21 => ?_)
              refine z_goto (tgt := 25) dX7_leadOf_111 (by decide) ?_
              have hcc : c01 ((LdO (inT M0) (SolT M0 42 (M0 1 13) (-1) (-1) (-1) 0) (fun t => SolT M0 42 (M0 1 13) (-1) t (-1) 0) 0 home) t) = x20 - fo := by
                first
                | (rw [c01_t hOt]; omega)
                | (rw [c01_f hOf]; omega)
              have hRz : ∃ la oa ta, RD M0 42 (M0 1 13) la oa ta Mz10 := by
                first
                | exact ⟨_, _, _, hR5⟩
                | exact ⟨_, _, _, h2⟩
              obtain ⟨la, oa, ta, hRz⟩ := hRz
              have h30z : ∀ j, Mz10 30 j = Mz2 30 j := by
                first
                | exact h30b
                | exact h3
              exact ih25 _ (by omega) x20 x21 Mz10 la oa ta rfl (by omega) (by rw [hx21, sumI_succ h0.1, ← h1, hcc]; omega) (hRz) (h30z) (fun u u0 u1 hu => by by_cases e : u = t; (subst e; rw [← h1]; first | omega | (exfalso; exact hOf hu)); exact h4 u u0 (by omega) hu) (by have := c01_r ((LdO (inT M0) (SolT M0 42 (M0 1 13) (-1) (-1) (-1) 0) (fun t => SolT M0 42 (M0 1 13) (-1) t (-1) 0) 0 home) t); omega)
            · refine z_iload dX7_leadOf_102 rfl ?_
              refine z_iret rfl (by decide) rfl (Nat.sub_self _) dX7_leadOf_104 ?_
              refine ⟨RD_X hR5, Or.inr ⟨by omega, Or.inl ⟨t, h0.1, by omega, hOt, by rw [← h1]; omega, rfl⟩⟩⟩
  refine z_iconst dX7_leadOf_19 ⟨by decide, by decide⟩ ?_
  refine z_istore (loc2 := [fr 0, fi home, fi 0, fi i, fi x1, fi 0, fu]) dX7_leadOf_20 (by decide) rfl ?_
  refine z_iconst dX7_leadOf_22 ⟨by decide, by decide⟩ ?_
  refine z_istore (loc2 := [fr 0, fi home, fi 0, fi i, fi x1, fi 0, fi 0]) dX7_leadOf_23 (by decide) rfl ?_
  exact lp25 _ 0 0 Mz2 (-1) (-1) (-1) rfl (by omega) ((sumI_0 _).symm) (hRw) (fun j => rfl) (fun u u0 u1 => by omega) (by omega)
set_option maxHeartbeats 400000 in
theorem A_X7_leadOf51_1 (l : Launch) (g : Cx) (M : FMem) (home i : Int) (M0 Ma : FMem) (hT : XT M0 51) (hh : 0 ≤ home ∧ home ≤ 9) (hR : RD M0 51 (M0 1 13) (-1) (-1) (-1) Ma) (hTr : TR (-1) (-1) (-1) Ma) (hF : RF Ma 1 16 M) (hf : Feas (SolT M0 51 (M0 1 13) (-1) (-1) (-1) 0)) (hw : M 28 home ≠ 2000000000) : AMi l g true fi_X7_leadOf [fr 0, fi home, fi 1, fi i] 93 M (fun q M2 => OffX M0 M2 ∧ ALead (M0 1 13) (LdO (inT M0) (SolT M0 51 (M0 1 13) (-1) (-1) (-1) 0) (fun t => SolT M0 51 (M0 1 13) (-1) t (-1) 0) 1 home) i q) := by
  refine AMi_intro [fr 0, fi home, fi 1, fi i, fu, fu, fu] (by decide) (knall rfl) (Nat.le_of_ble_eq_true rfl) rfl ?_
  intro hNV hM0 μ
  have bhome : N32 home := hNV (fi home) (by simp)
  have bi : N32 i := hNV (fi i) (by simp)
  have hts := hT.1
  have hRm := RD_way hR hF.1
  have hend := (RF_end hR hf (by omega) hF (v := home) (by omega)).resolve_left (fun z => hw z.1)
  have hE : EndR (SolT M0 51 (M0 1 13) (-1) (-1) (-1) 0) 1 home (if (1 : Int) = 1 then M 28 home else -(M 28 home)) := by
    exact Or.inl ⟨rfl, hend.2.1⟩
  refine z_aload_nr dX7_leadOf_0 rfl ?_
  refine z_getr (b := 20) fl_X7_33 rfl (by decide) rf_0_3 rfl dX7_leadOf_1 ?_
  refine z_iload_n dX7_leadOf_4 rfl ?_
  refine z_iload_n dX7_leadOf_5 rfl ?_
  refine z_callVip (n2 := 93) (A_X1_bound1 l g M home (by omega)) cb_X1_bound cl_X7_231 (clr0 rfl rfl (by decide) (by decide)) rfl (by decide) ⟨_, rfl, rfl⟩ rfl (by decide) rfl (Nat.le_of_ble_eq_true rfl) rfl dX7_leadOf_6 (fun x1 bx1 hx1 => ?_)
  refine z_istore (loc2 := [fr 0, fi home, fi 1, fi i, fi x1, fu, fu]) dX7_leadOf_9 (by decide) rfl ?_
  refine z_aload_nr dX7_leadOf_11 rfl ?_
  refine z_getr (b := 20) fl_X7_33 rfl (by decide) rf_0_3 rfl dX7_leadOf_12 ?_
  refine z_iload_n dX7_leadOf_15 rfl ?_
  refine z_callVv (n2 := 93) (A_X1_markWay1 l g M home Ma 16 (by omega) (by omega) (hR.2.1) (hF) (feas1 hR hf) (hw)) cb_X1_markWay cl_X7_373 (clr0 rfl rfl (by decide) (by decide)) rfl (by decide) ⟨_, rfl, rfl⟩ rfl (by decide) rfl (Nat.le_of_ble_eq_true rfl) rfl dX7_leadOf_16 (fun Mz2 kMz2 hc2 => ?_)
  have hW := hc2
  have hRw : RD M0 51 (M0 1 13) (-1) (-1) (-1) Mz2 := RD_off hRm (fun b j q => hc2.1 b j (by omega))
  have lp25 : ∀ (kq : Nat) (fo t : Int) (M1 : FMem) (li1 one1 two1 : Int), (M0 1 13 - t).toNat = kq → (0 ≤ t ∧ t ≤ M0 1 13) → (fo = sumI (fun t => c01 ((LdO (inT M0) (SolT M0 51 (M0 1 13) (-1) (-1) (-1) 0) (fun t => SolT M0 51 (M0 1 13) (-1) t (-1) 0) 1 home) t)) t) → (RD M0 51 (M0 1 13) li1 one1 two1 M1) → (∀ j, M1 30 j = Mz2 30 j) → (∀ u, 0 ≤ u → u < t → (LdO (inT M0) (SolT M0 51 (M0 1 13) (-1) (-1) (-1) 0) (fun t => SolT M0 51 (M0 1 13) (-1) t (-1) 0) 1 home) u → sumI (fun t => c01 ((LdO (inT M0) (SolT M0 51 (M0 1 13) (-1) (-1) (-1) 0) (fun t => SolT M0 51 (M0 1 13) (-1) t (-1) 0) 1 home) t)) u ≠ i) → (0 ≤ fo ∧ fo ≤ t) → Wa l g true fi_X7_leadOf 93 μ (Zi g true fi_X7_leadOf 93 μ (fun q M2 => OffX M0 M2 ∧ ALead (M0 1 13) (LdO (inT M0) (SolT M0 51 (M0 1 13) (-1) (-1) (-1) 0) (fun t => SolT M0 51 (M0 1 13) (-1) t (-1) 0) 1 home) i q)) 25 [] [fr 0, fi home, fi 1, fi i, fi x1, fi fo, fi t] 93 M1 := by
    intro kq
    induction kq using Nat.strongRecOn with
    | _ kq ih25 =>
    intro fo t M1 li1 one1 two1 hk25 h0 h1 h2 h3 h4 h5
    have e13 := RD_X h2 1 13 (by omega)
    have e30 := h3 t
    refine z_iload dX7_leadOf_25 rfl ?_
    refine z_aload_nr dX7_leadOf_27 rfl ?_
    refine z_getr (b := 1) fl_X7_10 rfl (by decide) rf_0_0 rfl dX7_leadOf_28 ?_
    refine z_geti (kz := 13) fl_X7_157 rfl (by decide) rfl dX7_leadOf_31 (fun x3 hx3 bx3 => ?_)
    refine z_icmp_ge (tgt := 114) dX7_leadOf_34 (by decide) (fun c4 => ?_) (fun c4 => ?_)
    · refine z_iload_n dX7_leadOf_114 rfl ?_
      refine z_iconst dX7_leadOf_115 ⟨by decide, by decide⟩ ?_
      refine z_icmp_ne (tgt := 124) dX7_leadOf_116 (by decide) (fun c5 => ?_) (fun c5 => ?_)
      · refine z_iconst dX7_leadOf_124 ⟨by decide, by decide⟩ ?_
        refine z_iret rfl (by decide) rfl (Nat.sub_self _) dX7_leadOf_125 ?_
        have htn : t = M0 1 13 := by omega
        first
        | (refine ⟨RD_X h2, Or.inl ⟨by omega, ?_⟩⟩; rw [h1, htn])
        | (refine ⟨RD_X h2, Or.inr ⟨by omega, Or.inr ⟨fun u u0 u1 hu => h4 u u0 (by omega) hu, rfl⟩⟩⟩)
      · refine z_iload dX7_leadOf_119 rfl ?_
        refine z_goto (tgt := 125) dX7_leadOf_121 (by decide) ?_
        refine z_iret rfl (by decide) rfl (Nat.sub_self _) dX7_leadOf_125 ?_
        have htn : t = M0 1 13 := by omega
        first
        | (refine ⟨RD_X h2, Or.inl ⟨by omega, ?_⟩⟩; rw [h1, htn])
        | (refine ⟨RD_X h2, Or.inr ⟨by omega, Or.inr ⟨fun u u0 u1 hu => h4 u u0 (by omega) hu, rfl⟩⟩⟩)
    · refine z_aload_nr dX7_leadOf_37 rfl ?_
      refine z_getr (b := 20) fl_X7_33 rfl (by decide) rf_0_3 rfl dX7_leadOf_38 ?_
      refine z_getr (b := 30) fl_X7_376 rfl (by decide) rf_20_11 rfl dX7_leadOf_41 ?_
      refine z_iload dX7_leadOf_44 rfl ?_
      refine z_zald rfl (by decide) (by omega) (by omega) dX7_leadOf_46 (fun x6 hx6 bx6 => ?_)
      refine z_if_eq (tgt := 108) dX7_leadOf_47 (by decide) (fun c7 => ?_) (fun c7 => ?_)
      · try (have hOf : ¬ (LdO (inT M0) (SolT M0 51 (M0 1 13) (-1) (-1) (-1) 0) (fun t => SolT M0 51 (M0 1 13) (-1) t (-1) 0) 1 home) t := by
              rintro ⟨_, z2⟩
              first
              | exact z2 (lead_off (by omega) hts.2 hR hTr hf (by omega) hE hW (by omega))
              | exact z2 ⟨_, hE, hE5 (by omega)⟩)
        refine z_iinc (loc2 := fun vq => [fr 0, fi home, fi 1, fi i, fi x1, fi fo, fi vq]) dX7_leadOf_108 rfl (by decide) (by omega) (fun _ => rfl) (fun x8 hx8 => ?_)
        refine z_goto (tgt := 25) dX7_leadOf_111 (by decide) ?_
        have hcc : c01 ((LdO (inT M0) (SolT M0 51 (M0 1 13) (-1) (-1) (-1) 0) (fun t => SolT M0 51 (M0 1 13) (-1) t (-1) 0) 1 home) t) = fo - fo := by
          first
          | (rw [c01_t hOt]; omega)
          | (rw [c01_f hOf]; omega)
        have hRz : ∃ la oa ta, RD M0 51 (M0 1 13) la oa ta M1 := by
          first
          | exact ⟨_, _, _, hR5⟩
          | exact ⟨_, _, _, h2⟩
        obtain ⟨la, oa, ta, hRz⟩ := hRz
        have h30z : ∀ j, M1 30 j = Mz2 30 j := by
          first
          | exact h30b
          | exact h3
        exact ih25 _ (by omega) fo x8 M1 la oa ta rfl (by omega) (by rw [hx8, sumI_succ h0.1, ← h1, hcc]; omega) (hRz) (h30z) (fun u u0 u1 hu => by by_cases e : u = t; (subst e; rw [← h1]; first | omega | (exfalso; exact hOf hu)); exact h4 u u0 (by omega) hu) (by have := c01_r ((LdO (inT M0) (SolT M0 51 (M0 1 13) (-1) (-1) (-1) 0) (fun t => SolT M0 51 (M0 1 13) (-1) t (-1) 0) 1 home) t); omega)
      · have hin := on_in hR hTr hW h0.1 (by omega) (by omega)
        refine z_aload_nr dX7_leadOf_50 rfl ?_
        refine z_getr (b := 20) fl_X7_33 rfl (by decide) rf_0_3 rfl dX7_leadOf_51 ?_
        refine z_iconst dX7_leadOf_54 ⟨by decide, by decide⟩ ?_
        refine z_iload dX7_leadOf_55 rfl ?_
        refine z_iconst dX7_leadOf_57 ⟨by decide, by decide⟩ ?_
        refine z_callVv (n2 := 93) (A_X1_leaveOut l g M1 (-1) t (-1)) cb_X1_leaveOut cl_X7_270 (clr0 rfl rfl (by decide) (by decide)) rfl (by decide) ⟨_, rfl, rfl⟩ rfl (by decide) rfl (Nat.le_of_ble_eq_true rfl) rfl dX7_leadOf_58 (fun Mz9 kMz9 hc9 => ?_)
        have hR4 := RD_leave (li' := -1) (one' := t) (two' := -1) h2 hts.2 hc9
        have hf4 : Feas (SolT M0 51 (M0 1 13) (-1) t (-1) 0) := by obtain ⟨x, hx⟩ := hf; exact ⟨x, SolT_one hx⟩
        have h30a : ∀ j, Mz9 30 j = Mz2 30 j := fun j => (hc9.1 30 j (by decide) (by omega)).trans (h3 j)
        refine z_aload_nr dX7_leadOf_61 rfl ?_
        refine z_getr (b := 20) fl_X7_33 rfl (by decide) rf_0_3 rfl dX7_leadOf_62 ?_
        refine z_bipush dX7_leadOf_65 ⟨by decide, by decide⟩ (by decide) ?_
        refine z_iload_n dX7_leadOf_67 rfl ?_
        refine z_callVv (n2 := 93) (A_X1_reach1 l g Mz9 16 (by omega) (hR4.2.1) (feas1 hR4 hf4)) cb_X1_reach cl_X7_223 (clr0 rfl rfl (by decide) (by decide)) rfl (by decide) ⟨_, rfl, rfl⟩ rfl (by decide) rfl (Nat.le_of_ble_eq_true rfl) rfl dX7_leadOf_68 (fun Mz10 kMz10 hc10 => ?_)
        have hF5 := hc10
        have hR5 := RD_way hR4 hF5.1
        have hend5 := RF_end hR4 hf4 (by omega) hF5 (v := home) (by omega)
        have h30b : ∀ j, Mz10 30 j = Mz2 30 j := fun j => (hF5.1 30 j (by decide) (by decide)).trans (h30a j)
        have hEt : Mz10 28 home ≠ 2000000000 ∧ MaxD (SolT M0 51 (M0 1 13) (-1) t (-1) 0) 16 home (Mz10 28 home) ∧ -1000000000 ≤ Mz10 28 home ∧ Mz10 28 home ≤ 1000000000 → EndR (SolT M0 51 (M0 1 13) (-1) t (-1) 0) 1 home ((Mz10 28 home)) := fun z => Or.inl ⟨rfl, z.2.1⟩
        refine z_aload_nr dX7_leadOf_71 rfl ?_
        refine z_getr (b := 20) fl_X7_33 rfl (by decide) rf_0_3 rfl dX7_leadOf_72 ?_
        refine z_iload_n dX7_leadOf_75 rfl ?_
        refine z_callVip (n2 := 93) (A_X1_isReached l g Mz10 home (by omega)) cb_X1_isReached cl_X7_227 (clr0 rfl rfl (by decide) (by decide)) rfl (by decide) ⟨_, rfl, rfl⟩ rfl (by decide) rfl (Nat.le_of_ble_eq_true rfl) rfl dX7_leadOf_76 (fun x11 bx11 hx11 => ?_)
        have i11 := if10 hx11
        refine z_if_eq (tgt := 96) dX7_leadOf_79 (by decide) (fun c12 => ?_) (fun c12 => ?_)
        · have hOt : (LdO (inT M0) (SolT M0 51 (M0 1 13) (-1) (-1) (-1) 0) (fun t => SolT M0 51 (M0 1 13) (-1) t (-1) 0) 1 home) t := by
            refine ⟨hin.2, ?_⟩
            rintro ⟨d, d1, d2⟩
            have dd := EndR_eq d1 hE
            rcases hend5 with z | z
            · exact EndR_free d2 z.2
            · have d3 := EndR_eq d2 (hEt z)
              rw [if_pos rfl] at dd
              omega
          refine z_iload dX7_leadOf_96 rfl ?_
          refine z_iload_n dX7_leadOf_98 rfl ?_
          refine z_icmp_ne (tgt := 105) dX7_leadOf_99 (by decide) (fun c13 => ?_) (fun c13 => ?_)
          · refine z_iinc (loc2 := fun vq => [fr 0, fi home, fi 1, fi i, fi x1, fi vq, fi t]) dX7_leadOf_105 rfl (by decide) (by omega) (fun _ => rfl) (fun x14 hx14 => ?_)
            try (have hOf : ¬ (LdO (inT M0) (SolT M0 51 (M0 1 13) (-1) (-1) (-1) 0) (fun t => SolT M0 51 (M0 1 13) (-1) t (-1) 0) 1 home) t := by
                  rintro ⟨_, z2⟩
                  first
                  | exact z2 (lead_off (by omega) hts.2 hR hTr hf (by omega) hE hW (by omega))
                  | exact z2 ⟨_, hE, hE5 (by omega)⟩)
            refine z_iinc (loc2 := fun vq => [fr 0, fi home, fi 1, fi i, fi x1, fi x14, fi vq]) dX7_leadOf_108 rfl (by decide) (by omega) (fun _ => rfl) (fun x15 hx15 => ?_)
            refine z_goto (tgt := 25) dX7_leadOf_111 (by decide) ?_
            have hcc : c01 ((LdO (inT M0) (SolT M0 51 (M0 1 13) (-1) (-1) (-1) 0) (fun t => SolT M0 51 (M0 1 13) (-1) t (-1) 0) 1 home) t) = x14 - fo := by
              first
              | (rw [c01_t hOt]; omega)
              | (rw [c01_f hOf]; omega)
            have hRz : ∃ la oa ta, RD M0 51 (M0 1 13) la oa ta Mz10 := by
              first
              | exact ⟨_, _, _, hR5⟩
              | exact ⟨_, _, _, h2⟩
            obtain ⟨la, oa, ta, hRz⟩ := hRz
            have h30z : ∀ j, Mz10 30 j = Mz2 30 j := by
              first
              | exact h30b
              | exact h3
            exact ih25 _ (by omega) x14 x15 Mz10 la oa ta rfl (by omega) (by rw [hx15, sumI_succ h0.1, ← h1, hcc]; omega) (hRz) (h30z) (fun u u0 u1 hu => by by_cases e : u = t; (subst e; rw [← h1]; first | omega | (exfalso; exact hOf hu)); exact h4 u u0 (by omega) hu) (by have := c01_r ((LdO (inT M0) (SolT M0 51 (M0 1 13) (-1) (-1) (-1) 0) (fun t => SolT M0 51 (M0 1 13) (-1) t (-1) 0) 1 home) t); omega)
          · refine z_iload dX7_leadOf_102 rfl ?_
            refine z_iret rfl (by decide) rfl (Nat.sub_self _) dX7_leadOf_104 ?_
            refine ⟨RD_X hR5, Or.inr ⟨by omega, Or.inl ⟨t, h0.1, by omega, hOt, by rw [← h1]; omega, rfl⟩⟩⟩
        · refine z_aload_nr dX7_leadOf_82 rfl ?_
          refine z_getr (b := 20) fl_X7_33 rfl (by decide) rf_0_3 rfl dX7_leadOf_83 ?_
          refine z_iload_n dX7_leadOf_86 rfl ?_
          refine z_iload_n dX7_leadOf_87 rfl ?_
          refine z_callVip (n2 := 93) (A_X1_bound1 l g Mz10 home (by omega)) cb_X1_bound cl_X7_231 (clr0 rfl rfl (by decide) (by decide)) rfl (by decide) ⟨_, rfl, rfl⟩ rfl (by decide) rfl (Nat.le_of_ble_eq_true rfl) rfl dX7_leadOf_88 (fun x16 bx16 hx16 => ?_)
          have hE5 : x16 = x1 → EndR (SolT M0 51 (M0 1 13) (-1) t (-1) 0) 1 home (if (1 : Int) = 1 then M 28 home else -(M 28 home)) := fun z => by
            have w := hEt (hend5.resolve_left (fun y => by omega))
            rw [if_pos rfl]
            rw [show M 28 home = (Mz10 28 home) by omega]
            exact w
          refine z_iload dX7_leadOf_91 rfl ?_
          refine z_icmp_eq (tgt := 108) dX7_leadOf_93 (by decide) (fun c17 => ?_) (fun c17 => ?_)
          · try (have hOf : ¬ (LdO (inT M0) (SolT M0 51 (M0 1 13) (-1) (-1) (-1) 0) (fun t => SolT M0 51 (M0 1 13) (-1) t (-1) 0) 1 home) t := by
                  rintro ⟨_, z2⟩
                  first
                  | exact z2 (lead_off (by omega) hts.2 hR hTr hf (by omega) hE hW (by omega))
                  | exact z2 ⟨_, hE, hE5 (by omega)⟩)
            refine z_iinc (loc2 := fun vq => [fr 0, fi home, fi 1, fi i, fi x1, fi fo, fi vq]) dX7_leadOf_108 rfl (by decide) (by omega) (fun _ => rfl) (fun x18 hx18 => ?_)
            refine z_goto (tgt := 25) dX7_leadOf_111 (by decide) ?_
            have hcc : c01 ((LdO (inT M0) (SolT M0 51 (M0 1 13) (-1) (-1) (-1) 0) (fun t => SolT M0 51 (M0 1 13) (-1) t (-1) 0) 1 home) t) = fo - fo := by
              first
              | (rw [c01_t hOt]; omega)
              | (rw [c01_f hOf]; omega)
            have hRz : ∃ la oa ta, RD M0 51 (M0 1 13) la oa ta Mz10 := by
              first
              | exact ⟨_, _, _, hR5⟩
              | exact ⟨_, _, _, h2⟩
            obtain ⟨la, oa, ta, hRz⟩ := hRz
            have h30z : ∀ j, Mz10 30 j = Mz2 30 j := by
              first
              | exact h30b
              | exact h3
            exact ih25 _ (by omega) fo x18 Mz10 la oa ta rfl (by omega) (by rw [hx18, sumI_succ h0.1, ← h1, hcc]; omega) (hRz) (h30z) (fun u u0 u1 hu => by by_cases e : u = t; (subst e; rw [← h1]; first | omega | (exfalso; exact hOf hu)); exact h4 u u0 (by omega) hu) (by have := c01_r ((LdO (inT M0) (SolT M0 51 (M0 1 13) (-1) (-1) (-1) 0) (fun t => SolT M0 51 (M0 1 13) (-1) t (-1) 0) 1 home) t); omega)
          · have hOt : (LdO (inT M0) (SolT M0 51 (M0 1 13) (-1) (-1) (-1) 0) (fun t => SolT M0 51 (M0 1 13) (-1) t (-1) 0) 1 home) t := by
              refine ⟨hin.2, ?_⟩
              rintro ⟨d, d1, d2⟩
              have dd := EndR_eq d1 hE
              rcases hend5 with z | z
              · exact EndR_free d2 z.2
              · have d3 := EndR_eq d2 (hEt z)
                rw [if_pos rfl] at dd
                omega
            refine z_iload dX7_leadOf_96 rfl ?_
            refine z_iload_n dX7_leadOf_98 rfl ?_
            refine z_icmp_ne (tgt := 105) dX7_leadOf_99 (by decide) (fun c19 => ?_) (fun c19 => ?_)
            · refine z_iinc (loc2 := fun vq => [fr 0, fi home, fi 1, fi i, fi x1, fi vq, fi t]) dX7_leadOf_105 rfl (by decide) (by omega) (fun _ => rfl) (fun x20 hx20 => ?_)
              try (have hOf : ¬ (LdO (inT M0) (SolT M0 51 (M0 1 13) (-1) (-1) (-1) 0) (fun t => SolT M0 51 (M0 1 13) (-1) t (-1) 0) 1 home) t := by
                    rintro ⟨_, z2⟩
                    first
                    | exact z2 (lead_off (by omega) hts.2 hR hTr hf (by omega) hE hW (by omega))
                    | exact z2 ⟨_, hE, hE5 (by omega)⟩)
              refine z_iinc (loc2 := fun vq => [fr 0, fi home, fi 1, fi i, fi x1, fi x20, fi vq]) dX7_leadOf_108 rfl (by decide) (by omega) (fun _ => rfl) (fun x21 hx21 => ?_)
              refine z_goto (tgt := 25) dX7_leadOf_111 (by decide) ?_
              have hcc : c01 ((LdO (inT M0) (SolT M0 51 (M0 1 13) (-1) (-1) (-1) 0) (fun t => SolT M0 51 (M0 1 13) (-1) t (-1) 0) 1 home) t) = x20 - fo := by
                first
                | (rw [c01_t hOt]; omega)
                | (rw [c01_f hOf]; omega)
              have hRz : ∃ la oa ta, RD M0 51 (M0 1 13) la oa ta Mz10 := by
                first
                | exact ⟨_, _, _, hR5⟩
                | exact ⟨_, _, _, h2⟩
              obtain ⟨la, oa, ta, hRz⟩ := hRz
              have h30z : ∀ j, Mz10 30 j = Mz2 30 j := by
                first
                | exact h30b
                | exact h3
              exact ih25 _ (by omega) x20 x21 Mz10 la oa ta rfl (by omega) (by rw [hx21, sumI_succ h0.1, ← h1, hcc]; omega) (hRz) (h30z) (fun u u0 u1 hu => by by_cases e : u = t; (subst e; rw [← h1]; first | omega | (exfalso; exact hOf hu)); exact h4 u u0 (by omega) hu) (by have := c01_r ((LdO (inT M0) (SolT M0 51 (M0 1 13) (-1) (-1) (-1) 0) (fun t => SolT M0 51 (M0 1 13) (-1) t (-1) 0) 1 home) t); omega)
            · refine z_iload dX7_leadOf_102 rfl ?_
              refine z_iret rfl (by decide) rfl (Nat.sub_self _) dX7_leadOf_104 ?_
              refine ⟨RD_X hR5, Or.inr ⟨by omega, Or.inl ⟨t, h0.1, by omega, hOt, by rw [← h1]; omega, rfl⟩⟩⟩
  refine z_iconst dX7_leadOf_19 ⟨by decide, by decide⟩ ?_
  refine z_istore (loc2 := [fr 0, fi home, fi 1, fi i, fi x1, fi 0, fu]) dX7_leadOf_20 (by decide) rfl ?_
  refine z_iconst dX7_leadOf_22 ⟨by decide, by decide⟩ ?_
  refine z_istore (loc2 := [fr 0, fi home, fi 1, fi i, fi x1, fi 0, fi 0]) dX7_leadOf_23 (by decide) rfl ?_
  exact lp25 _ 0 0 Mz2 (-1) (-1) (-1) rfl (by omega) ((sumI_0 _).symm) (hRw) (fun j => rfl) (fun u u0 u1 => by omega) (by omega)
set_option maxHeartbeats 400000 in
theorem A_X7_leadOf51_0 (l : Launch) (g : Cx) (M : FMem) (home i : Int) (M0 Ma : FMem) (hT : XT M0 51) (hh : 0 ≤ home ∧ home ≤ 9) (hR : RD M0 51 (M0 1 13) (-1) (-1) (-1) Ma) (hTr : TR (-1) (-1) (-1) Ma) (hF : RF Ma 0 16 M) (hf : Feas (SolT M0 51 (M0 1 13) (-1) (-1) (-1) 0)) (hw : M 28 home ≠ 2000000000) : AMi l g true fi_X7_leadOf [fr 0, fi home, fi 0, fi i] 93 M (fun q M2 => OffX M0 M2 ∧ ALead (M0 1 13) (LdO (inT M0) (SolT M0 51 (M0 1 13) (-1) (-1) (-1) 0) (fun t => SolT M0 51 (M0 1 13) (-1) t (-1) 0) 0 home) i q) := by
  refine AMi_intro [fr 0, fi home, fi 0, fi i, fu, fu, fu] (by decide) (knall rfl) (Nat.le_of_ble_eq_true rfl) rfl ?_
  intro hNV hM0 μ
  have bhome : N32 home := hNV (fi home) (by simp)
  have bi : N32 i := hNV (fi i) (by simp)
  have hts := hT.1
  have hRm := RD_way hR hF.1
  have hend := (RF_end0 hR hf (by omega) hF (v := home) (by omega)).resolve_left (fun z => hw z.1)
  have hE : EndR (SolT M0 51 (M0 1 13) (-1) (-1) (-1) 0) 0 home (if (0 : Int) = 1 then M 28 home else -(M 28 home)) := by
    refine Or.inr ⟨rfl, ?_⟩; rw [if_neg (by decide), Int.neg_neg]; exact hend.2.1
  refine z_aload_nr dX7_leadOf_0 rfl ?_
  refine z_getr (b := 20) fl_X7_33 rfl (by decide) rf_0_3 rfl dX7_leadOf_1 ?_
  refine z_iload_n dX7_leadOf_4 rfl ?_
  refine z_iload_n dX7_leadOf_5 rfl ?_
  refine z_callVip (n2 := 93) (A_X1_bound0 l g M home (by omega) (by omega)) cb_X1_bound cl_X7_231 (clr0 rfl rfl (by decide) (by decide)) rfl (by decide) ⟨_, rfl, rfl⟩ rfl (by decide) rfl (Nat.le_of_ble_eq_true rfl) rfl dX7_leadOf_6 (fun x1 bx1 hx1 => ?_)
  refine z_istore (loc2 := [fr 0, fi home, fi 0, fi i, fi x1, fu, fu]) dX7_leadOf_9 (by decide) rfl ?_
  refine z_aload_nr dX7_leadOf_11 rfl ?_
  refine z_getr (b := 20) fl_X7_33 rfl (by decide) rf_0_3 rfl dX7_leadOf_12 ?_
  refine z_iload_n dX7_leadOf_15 rfl ?_
  refine z_callVv (n2 := 93) (A_X1_markWay0 l g M home Ma 16 (by omega) (by omega) (hR.2.1) (hF) (feas0 hR hf) (hw)) cb_X1_markWay cl_X7_373 (clr0 rfl rfl (by decide) (by decide)) rfl (by decide) ⟨_, rfl, rfl⟩ rfl (by decide) rfl (Nat.le_of_ble_eq_true rfl) rfl dX7_leadOf_16 (fun Mz2 kMz2 hc2 => ?_)
  have hW := hc2
  have hRw : RD M0 51 (M0 1 13) (-1) (-1) (-1) Mz2 := RD_off hRm (fun b j q => hc2.1 b j (by omega))
  have lp25 : ∀ (kq : Nat) (fo t : Int) (M1 : FMem) (li1 one1 two1 : Int), (M0 1 13 - t).toNat = kq → (0 ≤ t ∧ t ≤ M0 1 13) → (fo = sumI (fun t => c01 ((LdO (inT M0) (SolT M0 51 (M0 1 13) (-1) (-1) (-1) 0) (fun t => SolT M0 51 (M0 1 13) (-1) t (-1) 0) 0 home) t)) t) → (RD M0 51 (M0 1 13) li1 one1 two1 M1) → (∀ j, M1 30 j = Mz2 30 j) → (∀ u, 0 ≤ u → u < t → (LdO (inT M0) (SolT M0 51 (M0 1 13) (-1) (-1) (-1) 0) (fun t => SolT M0 51 (M0 1 13) (-1) t (-1) 0) 0 home) u → sumI (fun t => c01 ((LdO (inT M0) (SolT M0 51 (M0 1 13) (-1) (-1) (-1) 0) (fun t => SolT M0 51 (M0 1 13) (-1) t (-1) 0) 0 home) t)) u ≠ i) → (0 ≤ fo ∧ fo ≤ t) → Wa l g true fi_X7_leadOf 93 μ (Zi g true fi_X7_leadOf 93 μ (fun q M2 => OffX M0 M2 ∧ ALead (M0 1 13) (LdO (inT M0) (SolT M0 51 (M0 1 13) (-1) (-1) (-1) 0) (fun t => SolT M0 51 (M0 1 13) (-1) t (-1) 0) 0 home) i q)) 25 [] [fr 0, fi home, fi 0, fi i, fi x1, fi fo, fi t] 93 M1 := by
    intro kq
    induction kq using Nat.strongRecOn with
    | _ kq ih25 =>
    intro fo t M1 li1 one1 two1 hk25 h0 h1 h2 h3 h4 h5
    have e13 := RD_X h2 1 13 (by omega)
    have e30 := h3 t
    refine z_iload dX7_leadOf_25 rfl ?_
    refine z_aload_nr dX7_leadOf_27 rfl ?_
    refine z_getr (b := 1) fl_X7_10 rfl (by decide) rf_0_0 rfl dX7_leadOf_28 ?_
    refine z_geti (kz := 13) fl_X7_157 rfl (by decide) rfl dX7_leadOf_31 (fun x3 hx3 bx3 => ?_)
    refine z_icmp_ge (tgt := 114) dX7_leadOf_34 (by decide) (fun c4 => ?_) (fun c4 => ?_)
    · refine z_iload_n dX7_leadOf_114 rfl ?_
      refine z_iconst dX7_leadOf_115 ⟨by decide, by decide⟩ ?_
      refine z_icmp_ne (tgt := 124) dX7_leadOf_116 (by decide) (fun c5 => ?_) (fun c5 => ?_)
      · refine z_iconst dX7_leadOf_124 ⟨by decide, by decide⟩ ?_
        refine z_iret rfl (by decide) rfl (Nat.sub_self _) dX7_leadOf_125 ?_
        have htn : t = M0 1 13 := by omega
        first
        | (refine ⟨RD_X h2, Or.inl ⟨by omega, ?_⟩⟩; rw [h1, htn])
        | (refine ⟨RD_X h2, Or.inr ⟨by omega, Or.inr ⟨fun u u0 u1 hu => h4 u u0 (by omega) hu, rfl⟩⟩⟩)
      · refine z_iload dX7_leadOf_119 rfl ?_
        refine z_goto (tgt := 125) dX7_leadOf_121 (by decide) ?_
        refine z_iret rfl (by decide) rfl (Nat.sub_self _) dX7_leadOf_125 ?_
        have htn : t = M0 1 13 := by omega
        first
        | (refine ⟨RD_X h2, Or.inl ⟨by omega, ?_⟩⟩; rw [h1, htn])
        | (refine ⟨RD_X h2, Or.inr ⟨by omega, Or.inr ⟨fun u u0 u1 hu => h4 u u0 (by omega) hu, rfl⟩⟩⟩)
    · refine z_aload_nr dX7_leadOf_37 rfl ?_
      refine z_getr (b := 20) fl_X7_33 rfl (by decide) rf_0_3 rfl dX7_leadOf_38 ?_
      refine z_getr (b := 30) fl_X7_376 rfl (by decide) rf_20_11 rfl dX7_leadOf_41 ?_
      refine z_iload dX7_leadOf_44 rfl ?_
      refine z_zald rfl (by decide) (by omega) (by omega) dX7_leadOf_46 (fun x6 hx6 bx6 => ?_)
      refine z_if_eq (tgt := 108) dX7_leadOf_47 (by decide) (fun c7 => ?_) (fun c7 => ?_)
      · try (have hOf : ¬ (LdO (inT M0) (SolT M0 51 (M0 1 13) (-1) (-1) (-1) 0) (fun t => SolT M0 51 (M0 1 13) (-1) t (-1) 0) 0 home) t := by
              rintro ⟨_, z2⟩
              first
              | exact z2 (lead_off (by omega) hts.2 hR hTr hf (by omega) hE hW (by omega))
              | exact z2 ⟨_, hE, hE5 (by omega)⟩)
        refine z_iinc (loc2 := fun vq => [fr 0, fi home, fi 0, fi i, fi x1, fi fo, fi vq]) dX7_leadOf_108 rfl (by decide) (by omega) (fun _ => rfl) (fun x8 hx8 => ?_)
        refine z_goto (tgt := 25) dX7_leadOf_111 (by decide) ?_
        have hcc : c01 ((LdO (inT M0) (SolT M0 51 (M0 1 13) (-1) (-1) (-1) 0) (fun t => SolT M0 51 (M0 1 13) (-1) t (-1) 0) 0 home) t) = fo - fo := by
          first
          | (rw [c01_t hOt]; omega)
          | (rw [c01_f hOf]; omega)
        have hRz : ∃ la oa ta, RD M0 51 (M0 1 13) la oa ta M1 := by
          first
          | exact ⟨_, _, _, hR5⟩
          | exact ⟨_, _, _, h2⟩
        obtain ⟨la, oa, ta, hRz⟩ := hRz
        have h30z : ∀ j, M1 30 j = Mz2 30 j := by
          first
          | exact h30b
          | exact h3
        exact ih25 _ (by omega) fo x8 M1 la oa ta rfl (by omega) (by rw [hx8, sumI_succ h0.1, ← h1, hcc]; omega) (hRz) (h30z) (fun u u0 u1 hu => by by_cases e : u = t; (subst e; rw [← h1]; first | omega | (exfalso; exact hOf hu)); exact h4 u u0 (by omega) hu) (by have := c01_r ((LdO (inT M0) (SolT M0 51 (M0 1 13) (-1) (-1) (-1) 0) (fun t => SolT M0 51 (M0 1 13) (-1) t (-1) 0) 0 home) t); omega)
      · have hin := on_in hR hTr hW h0.1 (by omega) (by omega)
        refine z_aload_nr dX7_leadOf_50 rfl ?_
        refine z_getr (b := 20) fl_X7_33 rfl (by decide) rf_0_3 rfl dX7_leadOf_51 ?_
        refine z_iconst dX7_leadOf_54 ⟨by decide, by decide⟩ ?_
        refine z_iload dX7_leadOf_55 rfl ?_
        refine z_iconst dX7_leadOf_57 ⟨by decide, by decide⟩ ?_
        refine z_callVv (n2 := 93) (A_X1_leaveOut l g M1 (-1) t (-1)) cb_X1_leaveOut cl_X7_270 (clr0 rfl rfl (by decide) (by decide)) rfl (by decide) ⟨_, rfl, rfl⟩ rfl (by decide) rfl (Nat.le_of_ble_eq_true rfl) rfl dX7_leadOf_58 (fun Mz9 kMz9 hc9 => ?_)
        have hR4 := RD_leave (li' := -1) (one' := t) (two' := -1) h2 hts.2 hc9
        have hf4 : Feas (SolT M0 51 (M0 1 13) (-1) t (-1) 0) := by obtain ⟨x, hx⟩ := hf; exact ⟨x, SolT_one hx⟩
        have h30a : ∀ j, Mz9 30 j = Mz2 30 j := fun j => (hc9.1 30 j (by decide) (by omega)).trans (h3 j)
        refine z_aload_nr dX7_leadOf_61 rfl ?_
        refine z_getr (b := 20) fl_X7_33 rfl (by decide) rf_0_3 rfl dX7_leadOf_62 ?_
        refine z_bipush dX7_leadOf_65 ⟨by decide, by decide⟩ (by decide) ?_
        refine z_iload_n dX7_leadOf_67 rfl ?_
        refine z_callVv (n2 := 93) (A_X1_reach0 l g Mz9 16 (by omega) (hR4.2.1) (feas0 hR4 hf4)) cb_X1_reach cl_X7_223 (clr0 rfl rfl (by decide) (by decide)) rfl (by decide) ⟨_, rfl, rfl⟩ rfl (by decide) rfl (Nat.le_of_ble_eq_true rfl) rfl dX7_leadOf_68 (fun Mz10 kMz10 hc10 => ?_)
        have hF5 := hc10
        have hR5 := RD_way hR4 hF5.1
        have hend5 := RF_end0 hR4 hf4 (by omega) hF5 (v := home) (by omega)
        have h30b : ∀ j, Mz10 30 j = Mz2 30 j := fun j => (hF5.1 30 j (by decide) (by decide)).trans (h30a j)
        have hEt : Mz10 28 home ≠ 2000000000 ∧ MaxD (SolT M0 51 (M0 1 13) (-1) t (-1) 0) home 16 (Mz10 28 home) ∧ -1000000000 ≤ Mz10 28 home ∧ Mz10 28 home ≤ 1000000000 → EndR (SolT M0 51 (M0 1 13) (-1) t (-1) 0) 0 home (-(Mz10 28 home)) := fun z => Or.inr ⟨rfl, by rw [Int.neg_neg]; exact z.2.1⟩
        refine z_aload_nr dX7_leadOf_71 rfl ?_
        refine z_getr (b := 20) fl_X7_33 rfl (by decide) rf_0_3 rfl dX7_leadOf_72 ?_
        refine z_iload_n dX7_leadOf_75 rfl ?_
        refine z_callVip (n2 := 93) (A_X1_isReached l g Mz10 home (by omega)) cb_X1_isReached cl_X7_227 (clr0 rfl rfl (by decide) (by decide)) rfl (by decide) ⟨_, rfl, rfl⟩ rfl (by decide) rfl (Nat.le_of_ble_eq_true rfl) rfl dX7_leadOf_76 (fun x11 bx11 hx11 => ?_)
        have i11 := if10 hx11
        refine z_if_eq (tgt := 96) dX7_leadOf_79 (by decide) (fun c12 => ?_) (fun c12 => ?_)
        · have hOt : (LdO (inT M0) (SolT M0 51 (M0 1 13) (-1) (-1) (-1) 0) (fun t => SolT M0 51 (M0 1 13) (-1) t (-1) 0) 0 home) t := by
            refine ⟨hin.2, ?_⟩
            rintro ⟨d, d1, d2⟩
            have dd := EndR_eq d1 hE
            rcases hend5 with z | z
            · exact EndR_free d2 z.2
            · have d3 := EndR_eq d2 (hEt z)
              rw [if_neg (by decide)] at dd
              omega
          refine z_iload dX7_leadOf_96 rfl ?_
          refine z_iload_n dX7_leadOf_98 rfl ?_
          refine z_icmp_ne (tgt := 105) dX7_leadOf_99 (by decide) (fun c13 => ?_) (fun c13 => ?_)
          · refine z_iinc (loc2 := fun vq => [fr 0, fi home, fi 0, fi i, fi x1, fi vq, fi t]) dX7_leadOf_105 rfl (by decide) (by omega) (fun _ => rfl) (fun x14 hx14 => ?_)
            try (have hOf : ¬ (LdO (inT M0) (SolT M0 51 (M0 1 13) (-1) (-1) (-1) 0) (fun t => SolT M0 51 (M0 1 13) (-1) t (-1) 0) 0 home) t := by
                  rintro ⟨_, z2⟩
                  first
                  | exact z2 (lead_off (by omega) hts.2 hR hTr hf (by omega) hE hW (by omega))
                  | exact z2 ⟨_, hE, hE5 (by omega)⟩)
            refine z_iinc (loc2 := fun vq => [fr 0, fi home, fi 0, fi i, fi x1, fi x14, fi vq]) dX7_leadOf_108 rfl (by decide) (by omega) (fun _ => rfl) (fun x15 hx15 => ?_)
            refine z_goto (tgt := 25) dX7_leadOf_111 (by decide) ?_
            have hcc : c01 ((LdO (inT M0) (SolT M0 51 (M0 1 13) (-1) (-1) (-1) 0) (fun t => SolT M0 51 (M0 1 13) (-1) t (-1) 0) 0 home) t) = x14 - fo := by
              first
              | (rw [c01_t hOt]; omega)
              | (rw [c01_f hOf]; omega)
            have hRz : ∃ la oa ta, RD M0 51 (M0 1 13) la oa ta Mz10 := by
              first
              | exact ⟨_, _, _, hR5⟩
              | exact ⟨_, _, _, h2⟩
            obtain ⟨la, oa, ta, hRz⟩ := hRz
            have h30z : ∀ j, Mz10 30 j = Mz2 30 j := by
              first
              | exact h30b
              | exact h3
            exact ih25 _ (by omega) x14 x15 Mz10 la oa ta rfl (by omega) (by rw [hx15, sumI_succ h0.1, ← h1, hcc]; omega) (hRz) (h30z) (fun u u0 u1 hu => by by_cases e : u = t; (subst e; rw [← h1]; first | omega | (exfalso; exact hOf hu)); exact h4 u u0 (by omega) hu) (by have := c01_r ((LdO (inT M0) (SolT M0 51 (M0 1 13) (-1) (-1) (-1) 0) (fun t => SolT M0 51 (M0 1 13) (-1) t (-1) 0) 0 home) t); omega)
          · refine z_iload dX7_leadOf_102 rfl ?_
            refine z_iret rfl (by decide) rfl (Nat.sub_self _) dX7_leadOf_104 ?_
            refine ⟨RD_X hR5, Or.inr ⟨by omega, Or.inl ⟨t, h0.1, by omega, hOt, by rw [← h1]; omega, rfl⟩⟩⟩
        · refine z_aload_nr dX7_leadOf_82 rfl ?_
          refine z_getr (b := 20) fl_X7_33 rfl (by decide) rf_0_3 rfl dX7_leadOf_83 ?_
          refine z_iload_n dX7_leadOf_86 rfl ?_
          refine z_iload_n dX7_leadOf_87 rfl ?_
          refine z_callVip (n2 := 93) (A_X1_bound0 l g Mz10 home (by omega) (by omega)) cb_X1_bound cl_X7_231 (clr0 rfl rfl (by decide) (by decide)) rfl (by decide) ⟨_, rfl, rfl⟩ rfl (by decide) rfl (Nat.le_of_ble_eq_true rfl) rfl dX7_leadOf_88 (fun x16 bx16 hx16 => ?_)
          have hE5 : x16 = x1 → EndR (SolT M0 51 (M0 1 13) (-1) t (-1) 0) 0 home (if (0 : Int) = 1 then M 28 home else -(M 28 home)) := fun z => by
            have w := hEt (hend5.resolve_left (fun y => by omega))
            rw [if_neg (by decide)]
            rw [show -(M 28 home) = -(Mz10 28 home) by omega]
            exact w
          refine z_iload dX7_leadOf_91 rfl ?_
          refine z_icmp_eq (tgt := 108) dX7_leadOf_93 (by decide) (fun c17 => ?_) (fun c17 => ?_)
          · try (have hOf : ¬ (LdO (inT M0) (SolT M0 51 (M0 1 13) (-1) (-1) (-1) 0) (fun t => SolT M0 51 (M0 1 13) (-1) t (-1) 0) 0 home) t := by
                  rintro ⟨_, z2⟩
                  first
                  | exact z2 (lead_off (by omega) hts.2 hR hTr hf (by omega) hE hW (by omega))
                  | exact z2 ⟨_, hE, hE5 (by omega)⟩)
            refine z_iinc (loc2 := fun vq => [fr 0, fi home, fi 0, fi i, fi x1, fi fo, fi vq]) dX7_leadOf_108 rfl (by decide) (by omega) (fun _ => rfl) (fun x18 hx18 => ?_)
            refine z_goto (tgt := 25) dX7_leadOf_111 (by decide) ?_
            have hcc : c01 ((LdO (inT M0) (SolT M0 51 (M0 1 13) (-1) (-1) (-1) 0) (fun t => SolT M0 51 (M0 1 13) (-1) t (-1) 0) 0 home) t) = fo - fo := by
              first
              | (rw [c01_t hOt]; omega)
              | (rw [c01_f hOf]; omega)
            have hRz : ∃ la oa ta, RD M0 51 (M0 1 13) la oa ta Mz10 := by
              first
              | exact ⟨_, _, _, hR5⟩
              | exact ⟨_, _, _, h2⟩
            obtain ⟨la, oa, ta, hRz⟩ := hRz
            have h30z : ∀ j, Mz10 30 j = Mz2 30 j := by
              first
              | exact h30b
              | exact h3
            exact ih25 _ (by omega) fo x18 Mz10 la oa ta rfl (by omega) (by rw [hx18, sumI_succ h0.1, ← h1, hcc]; omega) (hRz) (h30z) (fun u u0 u1 hu => by by_cases e : u = t; (subst e; rw [← h1]; first | omega | (exfalso; exact hOf hu)); exact h4 u u0 (by omega) hu) (by have := c01_r ((LdO (inT M0) (SolT M0 51 (M0 1 13) (-1) (-1) (-1) 0) (fun t => SolT M0 51 (M0 1 13) (-1) t (-1) 0) 0 home) t); omega)
          · have hOt : (LdO (inT M0) (SolT M0 51 (M0 1 13) (-1) (-1) (-1) 0) (fun t => SolT M0 51 (M0 1 13) (-1) t (-1) 0) 0 home) t := by
              refine ⟨hin.2, ?_⟩
              rintro ⟨d, d1, d2⟩
              have dd := EndR_eq d1 hE
              rcases hend5 with z | z
              · exact EndR_free d2 z.2
              · have d3 := EndR_eq d2 (hEt z)
                rw [if_neg (by decide)] at dd
                omega
            refine z_iload dX7_leadOf_96 rfl ?_
            refine z_iload_n dX7_leadOf_98 rfl ?_
            refine z_icmp_ne (tgt := 105) dX7_leadOf_99 (by decide) (fun c19 => ?_) (fun c19 => ?_)
            · refine z_iinc (loc2 := fun vq => [fr 0, fi home, fi 0, fi i, fi x1, fi vq, fi t]) dX7_leadOf_105 rfl (by decide) (by omega) (fun _ => rfl) (fun x20 hx20 => ?_)
              try (have hOf : ¬ (LdO (inT M0) (SolT M0 51 (M0 1 13) (-1) (-1) (-1) 0) (fun t => SolT M0 51 (M0 1 13) (-1) t (-1) 0) 0 home) t := by
                    rintro ⟨_, z2⟩
                    first
                    | exact z2 (lead_off (by omega) hts.2 hR hTr hf (by omega) hE hW (by omega))
                    | exact z2 ⟨_, hE, hE5 (by omega)⟩)
              refine z_iinc (loc2 := fun vq => [fr 0, fi home, fi 0, fi i, fi x1, fi x20, fi vq]) dX7_leadOf_108 rfl (by decide) (by omega) (fun _ => rfl) (fun x21 hx21 => ?_)
              refine z_goto (tgt := 25) dX7_leadOf_111 (by decide) ?_
              have hcc : c01 ((LdO (inT M0) (SolT M0 51 (M0 1 13) (-1) (-1) (-1) 0) (fun t => SolT M0 51 (M0 1 13) (-1) t (-1) 0) 0 home) t) = x20 - fo := by
                first
                | (rw [c01_t hOt]; omega)
                | (rw [c01_f hOf]; omega)
              have hRz : ∃ la oa ta, RD M0 51 (M0 1 13) la oa ta Mz10 := by
                first
                | exact ⟨_, _, _, hR5⟩
                | exact ⟨_, _, _, h2⟩
              obtain ⟨la, oa, ta, hRz⟩ := hRz
              have h30z : ∀ j, Mz10 30 j = Mz2 30 j := by
                first
                | exact h30b
                | exact h3
              exact ih25 _ (by omega) x20 x21 Mz10 la oa ta rfl (by omega) (by rw [hx21, sumI_succ h0.1, ← h1, hcc]; omega) (hRz) (h30z) (fun u u0 u1 hu => by by_cases e : u = t; (subst e; rw [← h1]; first | omega | (exfalso; exact hOf hu)); exact h4 u u0 (by omega) hu) (by have := c01_r ((LdO (inT M0) (SolT M0 51 (M0 1 13) (-1) (-1) (-1) 0) (fun t => SolT M0 51 (M0 1 13) (-1) t (-1) 0) 0 home) t); omega)
            · refine z_iload dX7_leadOf_102 rfl ?_
              refine z_iret rfl (by decide) rfl (Nat.sub_self _) dX7_leadOf_104 ?_
              refine ⟨RD_X hR5, Or.inr ⟨by omega, Or.inl ⟨t, h0.1, by omega, hOt, by rw [← h1]; omega, rfl⟩⟩⟩
  refine z_iconst dX7_leadOf_19 ⟨by decide, by decide⟩ ?_
  refine z_istore (loc2 := [fr 0, fi home, fi 0, fi i, fi x1, fi 0, fu]) dX7_leadOf_20 (by decide) rfl ?_
  refine z_iconst dX7_leadOf_22 ⟨by decide, by decide⟩ ?_
  refine z_istore (loc2 := [fr 0, fi home, fi 0, fi i, fi x1, fi 0, fi 0]) dX7_leadOf_23 (by decide) rfl ?_
  exact lp25 _ 0 0 Mz2 (-1) (-1) (-1) rfl (by omega) ((sumI_0 _).symm) (hRw) (fun j => rfl) (fun u u0 u1 => by omega) (by omega)
