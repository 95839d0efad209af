/-! ===== loose homes, worth, claims ===== -/
noncomputable def c01 (p : Prop) : Int := @ite _ p (Classical.propDecidable p) 1 0
theorem c01_t {p : Prop} (h : p) : c01 p = 1 := by unfold c01; exact if_pos h
theorem c01_f {p : Prop} (h : ¬ p) : c01 p = 0 := by unfold c01; exact if_neg h
theorem c01_r (p : Prop) : 0 ≤ c01 p ∧ c01 p ≤ 1 := by unfold c01; split <;> omega
noncomputable def ALoose (S : (Int → Int) → Prop) (q : Int) : Prop := (¬ Feas S ∧ q = -1) ∨ (Feas S ∧ q = sumI (fun h => c01 (FreeD S 16 h)) 10)
theorem ALoose_eq {S : (Int → Int) → Prop} {q q' : Int} (a : ALoose S q) (b : ALoose S q') : q = q' := by
  rcases a with ⟨a1, a2⟩ | ⟨a1, a2⟩ <;> rcases b with ⟨b1, b2⟩ | ⟨b1, b2⟩
  · omega
  · exact absurd b1 a1
  · exact absurd a1 b1
  · rw [a2, b2]
/-- both ends of a home -/
def Ends2 (S : (Int → Int) → Prop) (h lo up : Int) : Prop := MaxD S 16 h up ∧ MaxD S h 16 (-lo)
theorem Ends2_eq {S : (Int → Int) → Prop} {h lo up lo' up' : Int} (a : Ends2 S h lo up) (b : Ends2 S h lo' up') : lo = lo' ∧ up = up' := by
  have := MaxD_eq a.1 b.1
  have := MaxD_eq a.2 b.2
  omega
theorem Ends2_free {S : (Int → Int) → Prop} {h lo up : Int} (a : Ends2 S h lo up) (b : FreeD S 16 h) : False := MaxD_free a.1 b
/-- findEnds in terms of the rows -/
def FES (S : (Int → Int) → Prop) (M : FMem) : Prop := ∀ h, 0 ≤ h → h < 10 → (M 33 h = 0 ∧ FreeD S 16 h) ∨ (M 33 h = 1 ∧ Ends2 S h (M 31 h) (M 32 h) ∧ -1000000000 ≤ M 32 h ∧ M 32 h ≤ 1000000000 ∧ -1000000000 ≤ M 31 h ∧ M 31 h ≤ 1000000000)
theorem Ends2_le {S : (Int → Int) → Prop} {h lo up : Int} (hf : Feas S) (a : Ends2 S h lo up) : lo ≤ up := by
  obtain ⟨x, hx⟩ := hf
  have := a.1.1 x hx
  have := a.2.1 x hx
  omega
theorem FES_of {M M2 M3 : FMem} {r : Nat} {kw li one two : Int} (h : RD M r kw li one two M2) (hE : FE M2 M3) : FES (SolT M r kw li one two 0) M3 := by
  intro v v0 v1
  rw [← Sat_eqS h]
  rcases hE.2 v v0 v1 with q | ⟨q1, q2, q3, q4⟩
  · exact Or.inl q
  · exact Or.inr ⟨q1, ⟨q2, q3⟩, q4⟩
theorem FE_RD {M M2 M3 : FMem} {r : Nat} {kw li one two : Int} (h : RD M r kw li one two M2) (hE : FE M2 M3) : RD M r kw li one two M3 :=
  RD_off h (fun b j q => hE.1 b j (by omega) (by omega) (by omega) (by omega) (by omega))
theorem RD_X {M M2 : FMem} {r : Nat} {kw li one two : Int} (h : RD M r kw li one two M2) : OffX M M2 := fun b j q => h.1.1 b j (by omega)
theorem SolT_sub {M : FMem} {r : Nat} {kw li one two w : Int} {x : Int → Int} (h : SolT M r kw (-1) (-1) (-1) w x) (hT : XT M r) (hk : kw ≤ M 1 13) : SolT M r kw li one two w x := by
  intro i i0 i1 it il io iw
  have ht := hT.2.1 i i0 (by omega)
  exact h i i0 i1 it (by have := ht.1; omega) (by omega) (by omega)
def PWorth (S S1 : (Int → Int) → Prop) (list home q : Int) : Prop := if ¬ ((0 ≤ list ∧ list ≤ 5) ∧ (0 ≤ home ∧ home ≤ 9)) then q = -1000001 else (¬ Feas S ∧ q = -1000005) ∨ (Feas S ∧ FreeD S 16 home ∧ q = -1000006) ∨ (Feas S ∧ ∃ lo up, Ends2 S home lo up ∧ ((FreeD S1 16 home ∧ q = -1000007) ∨ ∃ lo1 up1, Ends2 S1 home lo1 up1 ∧ q = up1 - lo1 - (up - lo)))
theorem PWorth_eq {S S1 : (Int → Int) → Prop} {list home q q' : Int} (a : PWorth S S1 list home q) (b : PWorth S S1 list home q') : q = q' := by
  unfold PWorth at a b
  split at a
  · rename_i h; rw [if_pos h] at b; omega
  · rename_i h
    rw [if_neg h] at b
    rcases a with ⟨a1, a2⟩ | ⟨a1, a2, a3⟩ | ⟨a1, lo, up, a2, a3⟩ <;> rcases b with ⟨b1, b2⟩ | ⟨b1, b2, b3⟩ | ⟨b1, lo', up', b2, b3⟩ <;> first | omega | exact absurd a1 b1 | exact absurd b1 a1 | exact (Ends2_free a2 b2).elim | exact (Ends2_free b2 a2).elim | skip
    have e := Ends2_eq a2 b2
    rcases a3 with ⟨a4, a5⟩ | ⟨l1, u1, a4, a5⟩ <;> rcases b3 with ⟨b4, b5⟩ | ⟨l2, u2, b4, b5⟩ <;> first | omega | exact (Ends2_free a4 b4).elim | exact (Ends2_free b4 a4).elim | (have := Ends2_eq a4 b4; omega)
/-- how a claim stands -/
def AClaim (S : (Int → Int) → Prop) (home mark above q : Int) : Prop := (¬ Feas S ∧ q = -1000005) ∨ (Feas S ∧ FreeD S 16 home ∧ q = 0) ∨ (Feas S ∧ ∃ lo up, Ends2 S home lo up ∧ q = if above = 1 then (if mark < lo then 1 else if up ≤ mark then 2 else 0) else (if up < mark then 1 else if mark ≤ lo then 2 else 0))
theorem AClaim_eq {S : (Int → Int) → Prop} {home mark above q q' : Int} (a : AClaim S home mark above q) (b : AClaim S home mark above q') : q = q' := by
  rcases a with ⟨a1, a2⟩ | ⟨a1, a2, a3⟩ | ⟨a1, lo, up, a2, a3⟩ <;> rcases b with ⟨b1, b2⟩ | ⟨b1, b2, b3⟩ | ⟨b1, lo', up', b2, b3⟩ <;> first | omega | exact absurd a1 b1 | exact absurd b1 a1 | exact (Ends2_free a2 b2).elim | exact (Ends2_free b2 a2).elim | skip
  obtain ⟨rfl, rfl⟩ := Ends2_eq a2 b2
  rw [a3, b3]
set_option maxHeartbeats 400000 in
theorem A_X7_howManyLoose42 (l : Launch) (g : Cx) (M : FMem) (hT : XT M 42) : AMi l g true fi_X7_howManyLoose [fr 0] 93 M (fun q M2 => OffX M M2 ∧ ALoose (SolT M 42 (M 1 13) (-1) (-1) (-1) 0) q) := by
  refine AMi_intro [fr 0, fu, fu] (by decide) (knall rfl) (Nat.le_of_ble_eq_true rfl) rfl ?_
  intro hNV hM0 μ
  refine z_aload_nr dX7_howManyLoose_0 rfl ?_
  refine z_callVi (n2 := 93) (A_X7_quarrelsNow42 l g M (hT)) cb_X7_quarrelsNow cl_X7_235 (clr0 rfl rfl (by decide) (by decide)) rfl (by decide) ⟨_, rfl, rfl⟩ rfl (by decide) rfl (Nat.le_of_ble_eq_true rfl) rfl dX7_howManyLoose_1 (fun x1 Mz1 bx1 kMz1 hc1 => ?_)
  have hRD := hc1.1.1
  have hTR := hc1.1.2
  have hqq := hc1.2
  refine z_if_eq (tgt := 9) dX7_howManyLoose_4 (by decide) (fun c2 => ?_) (fun c2 => ?_)
  · have hfe : Feas (SolT M 42 (M 1 13) (-1) (-1) (-1) 0) := by rcases hqq with q | q; exact q.2; omega
    refine z_aload_nr dX7_howManyLoose_9 rfl ?_
    refine z_getr (b := 20) fl_X7_33 rfl (by decide) rf_0_3 rfl dX7_howManyLoose_10 ?_
    refine z_bipush dX7_howManyLoose_13 ⟨by decide, by decide⟩ (by decide) ?_
    refine z_iconst dX7_howManyLoose_15 ⟨by decide, by decide⟩ ?_
    refine z_callVv (n2 := 93) (A_X1_reach1 l g Mz1 16 (by omega) (hRD.2.1) (feas1 hRD hfe)) cb_X1_reach cl_X7_223 (clr0 rfl rfl (by decide) (by decide)) rfl (by decide) ⟨_, rfl, rfl⟩ rfl (by decide) rfl (Nat.le_of_ble_eq_true rfl) rfl dX7_howManyLoose_16 (fun Mz3 kMz3 hc3 => ?_)
    have hF := hc3
    have hofx : OffX M Mz3 := fun b j q => (hF.1 b j (by omega) (by omega)).trans (hRD.1.1 b j (by omega))
    have lp23 : ∀ (kq : Nat) (h c : Int), (10 - h).toNat = kq → (0 ≤ h ∧ h ≤ 10) → (c = sumI (fun h => c01 (FreeD (SolT M 42 (M 1 13) (-1) (-1) (-1) 0) 16 h)) h) → (0 ≤ c ∧ c ≤ h) → Wa l g true fi_X7_howManyLoose 93 μ (Zi g true fi_X7_howManyLoose 93 μ (fun q M2 => OffX M M2 ∧ ALoose (SolT M 42 (M 1 13) (-1) (-1) (-1) 0) q)) 23 [] [fr 0, fi c, fi h] 93 Mz3 := by
      intro kq
      induction kq using Nat.strongRecOn with
      | _ kq ih23 =>
      intro h c hk23 h0 h1 h2
      refine z_iload_n dX7_howManyLoose_23 rfl ?_
      refine z_bipush dX7_howManyLoose_24 ⟨by decide, by decide⟩ (by decide) ?_
      refine z_icmp_ge (tgt := 57) dX7_howManyLoose_26 (by decide) (fun c4 => ?_) (fun c4 => ?_)
      · refine z_iload_n dX7_howManyLoose_57 rfl ?_
        refine z_iret rfl (by decide) rfl (Nat.sub_self _) dX7_howManyLoose_58 ?_
        refine ⟨hofx, Or.inr ⟨hfe, ?_⟩⟩
        rw [h1, show h = 10 by omega]
      · refine z_iload_n dX7_howManyLoose_29 rfl ?_
        refine z_aload_nr dX7_howManyLoose_30 rfl ?_
        refine z_getr (b := 20) fl_X7_33 rfl (by decide) rf_0_3 rfl dX7_howManyLoose_31 ?_
        refine z_iload_n dX7_howManyLoose_34 rfl ?_
        refine z_callVip (n2 := 93) (A_X1_isReached l g Mz3 h (by omega)) cb_X1_isReached cl_X7_227 (clr0 rfl rfl (by decide) (by decide)) rfl (by decide) ⟨_, rfl, rfl⟩ rfl (by decide) rfl (Nat.le_of_ble_eq_true rfl) rfl dX7_howManyLoose_35 (fun x5 bx5 hx5 => ?_)
        have i5 := if10 hx5
        refine z_if_ne (tgt := 45) dX7_howManyLoose_38 (by decide) (fun c6 => ?_) (fun c6 => ?_)
        · refine z_iconst dX7_howManyLoose_45 ⟨by decide, by decide⟩ ?_
          refine z_callSip (n2 := 93) (A_X7_asNumber l g Mz3 0 (by omega)) cb_X7_asNumber cl_X7_123 (clr0 rfl rfl (by decide) (by decide)) rfl (by decide) rfl (Nat.le_of_ble_eq_true rfl) rfl dX7_howManyLoose_46 (fun x7 bx7 hx7 => ?_)
          first | refine z_iaddN dX7_howManyLoose_49 (by omega) (fun x8 hx8 => ?_) | refine z_iadd dX7_howManyLoose_49 (fun x8 hx8 => ?_)
          refine z_istore_n (loc2 := [fr 0, fi x8, fi h]) dX7_howManyLoose_50 (by decide) rfl ?_
          refine z_iinc (loc2 := fun vq => [fr 0, fi x8, fi vq]) dX7_howManyLoose_51 rfl (by decide) (by omega) (fun _ => rfl) (fun x9 hx9 => ?_)
          refine z_goto (tgt := 23) dX7_howManyLoose_54 (by decide) ?_
          have hcc : c01 (FreeD (SolT M 42 (M 1 13) (-1) (-1) (-1) 0) 16 h) = x8 - c := by
            rcases RF_end hRD hfe (by omega) hF (v := h) (by omega) with q | q
            · rw [c01_t q.2]; omega
            · rw [c01_f (fun z => MaxD_free q.2.1 z)]; omega
          exact ih23 _ (by omega) x9 x8 rfl (by omega) (by rw [hx9, sumI_succ h0.1, ← h1, hcc]; omega) (by have := c01_r (FreeD (SolT M 42 (M 1 13) (-1) (-1) (-1) 0) 16 h); omega)
        · refine z_iconst dX7_howManyLoose_41 ⟨by decide, by decide⟩ ?_
          refine z_goto (tgt := 46) dX7_howManyLoose_42 (by decide) ?_
          refine z_callSip (n2 := 93) (A_X7_asNumber l g Mz3 1 (by omega)) cb_X7_asNumber cl_X7_123 (clr0 rfl rfl (by decide) (by decide)) rfl (by decide) rfl (Nat.le_of_ble_eq_true rfl) rfl dX7_howManyLoose_46 (fun x10 bx10 hx10 => ?_)
          first | refine z_iaddN dX7_howManyLoose_49 (by omega) (fun x11 hx11 => ?_) | refine z_iadd dX7_howManyLoose_49 (fun x11 hx11 => ?_)
          refine z_istore_n (loc2 := [fr 0, fi x11, fi h]) dX7_howManyLoose_50 (by decide) rfl ?_
          refine z_iinc (loc2 := fun vq => [fr 0, fi x11, fi vq]) dX7_howManyLoose_51 rfl (by decide) (by omega) (fun _ => rfl) (fun x12 hx12 => ?_)
          refine z_goto (tgt := 23) dX7_howManyLoose_54 (by decide) ?_
          have hcc : c01 (FreeD (SolT M 42 (M 1 13) (-1) (-1) (-1) 0) 16 h) = x11 - c := by
            rcases RF_end hRD hfe (by omega) hF (v := h) (by omega) with q | q
            · rw [c01_t q.2]; omega
            · rw [c01_f (fun z => MaxD_free q.2.1 z)]; omega
          exact ih23 _ (by omega) x12 x11 rfl (by omega) (by rw [hx12, sumI_succ h0.1, ← h1, hcc]; omega) (by have := c01_r (FreeD (SolT M 42 (M 1 13) (-1) (-1) (-1) 0) 16 h); omega)
    refine z_iconst dX7_howManyLoose_19 ⟨by decide, by decide⟩ ?_
    refine z_istore_n (loc2 := [fr 0, fi 0, fu]) dX7_howManyLoose_20 (by decide) rfl ?_
    refine z_iconst dX7_howManyLoose_21 ⟨by decide, by decide⟩ ?_
    refine z_istore_n (loc2 := [fr 0, fi 0, fi 0]) dX7_howManyLoose_22 (by decide) rfl ?_
    exact lp23 _ 0 0 rfl (by omega) ((sumI_0 _).symm) (by omega)
  · refine z_iconst dX7_howManyLoose_7 ⟨by decide, by decide⟩ ?_
    refine z_iret rfl (by decide) rfl (Nat.sub_self _) dX7_howManyLoose_8 ?_
    refine ⟨RD_X hRD, Or.inl ⟨?_, rfl⟩⟩
    rcases hqq with q | q
    · omega
    · exact q.2
set_option maxHeartbeats 400000 in
theorem A_X7_worth42 (l : Launch) (g : Cx) (M : FMem) (list home : Int) (hT : XT M 42) : AMi l g true fi_X7_worth [fr 0, fi list, fi home] 93 M (fun q M2 => OffX M M2 ∧ PWorth (SolT M 42 (M 1 13) (-1) (-1) (-1) 0) (SolT M 42 (M 1 13) list (-1) (-1) 0) list home q) := by
  refine AMi_intro [fr 0, fi list, fi home, fu] (by decide) (knall rfl) (Nat.le_of_ble_eq_true rfl) rfl ?_
  intro hNV hM0 μ
  have blist : N32 list := hNV (fi list) (by simp)
  have bhome : N32 home := hNV (fi home) (by simp)
  unfold PWorth
  refine z_iload_n dX7_worth_0 rfl ?_
  refine z_callSip (n2 := 93) (A_X7_isList l g M list) cb_X7_isList cl_X7_72 (clr0 rfl rfl (by decide) (by decide)) rfl (by decide) rfl (Nat.le_of_ble_eq_true rfl) rfl dX7_worth_1 (fun x1 bx1 hx1 => ?_)
  have i1 := if01 hx1
  refine z_if_eq (tgt := 14) dX7_worth_4 (by decide) (fun c2 => ?_) (fun c2 => ?_)
  · refine z_ldc (c := -1000001) cn_X7_82 ⟨by decide, by decide⟩ dX7_worth_14 ?_
    refine z_iret rfl (by decide) rfl (Nat.sub_self _) dX7_worth_16 ?_
    refine ⟨OffX_rfl M, ?_⟩
    rw [if_pos (by omega)]
  · refine z_iload_n dX7_worth_7 rfl ?_
    refine z_callSip (n2 := 93) (A_X7_isHome l g M home) cb_X7_isHome cl_X7_79 (clr0 rfl rfl (by decide) (by decide)) rfl (by decide) rfl (Nat.le_of_ble_eq_true rfl) rfl dX7_worth_8 (fun x3 bx3 hx3 => ?_)
    have i3 := if01 hx3
    refine z_if_ne (tgt := 17) dX7_worth_11 (by decide) (fun c4 => ?_) (fun c4 => ?_)
    · refine z_aload_nr dX7_worth_17 rfl ?_
      refine z_callVi (n2 := 93) (A_X7_quarrelsNow42 l g M (hT)) cb_X7_quarrelsNow cl_X7_235 (clr0 rfl rfl (by decide) (by decide)) rfl (by decide) ⟨_, rfl, rfl⟩ rfl (by decide) rfl (Nat.le_of_ble_eq_true rfl) rfl dX7_worth_18 (fun x5 Mz5 bx5 kMz5 hc5 => ?_)
      have hRD := hc5.1.1
      have hTR := hc5.1.2
      have hqq := hc5.2
      refine z_if_eq (tgt := 27) dX7_worth_21 (by decide) (fun c6 => ?_) (fun c6 => ?_)
      · have hfe : Feas (SolT M 42 (M 1 13) (-1) (-1) (-1) 0) := by rcases hqq with q | q; exact q.2; omega
        refine z_aload_nr dX7_worth_27 rfl ?_
        refine z_getr (b := 20) fl_X7_33 rfl (by decide) rf_0_3 rfl dX7_worth_28 ?_
        refine z_callVv (n2 := 93) (A_X1_findEnds l g Mz5 (hRD.2.1) (feas1 hRD hfe)) cb_X1_findEnds cl_X7_258 (clr0 rfl rfl (by decide) (by decide)) rfl (by decide) ⟨_, rfl, rfl⟩ rfl (by decide) rfl (Nat.le_of_ble_eq_true rfl) rfl dX7_worth_31 (fun Mz7 kMz7 hc7 => ?_)
        have hFE := hc7
        have hRD3 := FE_RD hRD hFE
        have hES := FES_of hRD hFE home (by omega) (by omega)
        refine z_aload_nr dX7_worth_34 rfl ?_
        refine z_getr (b := 20) fl_X7_33 rfl (by decide) rf_0_3 rfl dX7_worth_35 ?_
        refine z_getr (b := 33) fl_X7_261 rfl (by decide) rf_20_14 rfl dX7_worth_38 ?_
        refine z_iload_n dX7_worth_41 rfl ?_
        refine z_zald rfl (by decide) (by omega) (by omega) dX7_worth_42 (fun x8 hx8 bx8 => ?_)
        refine z_if_ne (tgt := 49) dX7_worth_43 (by decide) (fun c9 => ?_) (fun c9 => ?_)
        · have hE2 := hES.resolve_left (fun q => by omega)
          have hle2 := Ends2_le hfe hE2.2.1
          refine z_aload_nr dX7_worth_49 rfl ?_
          refine z_getr (b := 20) fl_X7_33 rfl (by decide) rf_0_3 rfl dX7_worth_50 ?_
          refine z_getr (b := 32) fl_X7_264 rfl (by decide) rf_20_13 rfl dX7_worth_53 ?_
          refine z_iload_n dX7_worth_56 rfl ?_
          refine z_iald rfl (by decide) (by omega) (by omega) dX7_worth_57 (fun x10 hx10 bx10 => ?_)
          refine z_aload_nr dX7_worth_58 rfl ?_
          refine z_getr (b := 20) fl_X7_33 rfl (by decide) rf_0_3 rfl dX7_worth_59 ?_
          refine z_getr (b := 31) fl_X7_267 rfl (by decide) rf_20_12 rfl dX7_worth_62 ?_
          refine z_iload_n dX7_worth_65 rfl ?_
          refine z_iald rfl (by decide) (by omega) (by omega) dX7_worth_66 (fun x11 hx11 bx11 => ?_)
          first | refine z_isubN dX7_worth_67 (by omega) (fun x12 hx12 => ?_) | refine z_isub dX7_worth_67 (fun x12 hx12 => ?_)
          refine z_istore_n (loc2 := [fr 0, fi list, fi home, fi x12]) dX7_worth_68 (by decide) rfl ?_
          refine z_aload_nr dX7_worth_69 rfl ?_
          refine z_getr (b := 20) fl_X7_33 rfl (by decide) rf_0_3 rfl dX7_worth_70 ?_
          refine z_iload_n dX7_worth_73 rfl ?_
          refine z_iconst dX7_worth_74 ⟨by decide, by decide⟩ ?_
          refine z_iconst dX7_worth_75 ⟨by decide, by decide⟩ ?_
          refine z_callVv (n2 := 93) (A_X1_leaveOut l g Mz7 list (-1) (-1)) cb_X1_leaveOut cl_X7_270 (clr0 rfl rfl (by decide) (by decide)) rfl (by decide) ⟨_, rfl, rfl⟩ rfl (by decide) rfl (Nat.le_of_ble_eq_true rfl) rfl dX7_worth_76 (fun Mz13 kMz13 hc13 => ?_)
          have hRD4 := RD_leave hRD3 hT.1.2 hc13
          have hfe4 : Feas (SolT M 42 (M 1 13) list (-1) (-1) 0) := by obtain ⟨x, hx⟩ := hfe; exact ⟨x, SolT_sub hx hT (Int.le_refl _)⟩
          refine z_aload_nr dX7_worth_79 rfl ?_
          refine z_getr (b := 20) fl_X7_33 rfl (by decide) rf_0_3 rfl dX7_worth_80 ?_
          refine z_callVv (n2 := 93) (A_X1_findEnds l g Mz13 (hRD4.2.1) (feas1 hRD4 hfe4)) cb_X1_findEnds cl_X7_258 (clr0 rfl rfl (by decide) (by decide)) rfl (by decide) ⟨_, rfl, rfl⟩ rfl (by decide) rfl (Nat.le_of_ble_eq_true rfl) rfl dX7_worth_83 (fun Mz14 kMz14 hc14 => ?_)
          have hFE5 := hc14
          have hRD5 := FE_RD hRD4 hFE5
          have hES5 := FES_of hRD4 hFE5 home (by omega) (by omega)
          refine z_aload_nr dX7_worth_86 rfl ?_
          refine z_getr (b := 20) fl_X7_33 rfl (by decide) rf_0_3 rfl dX7_worth_87 ?_
          refine z_getr (b := 33) fl_X7_261 rfl (by decide) rf_20_14 rfl dX7_worth_90 ?_
          refine z_iload_n dX7_worth_93 rfl ?_
          refine z_zald rfl (by decide) (by omega) (by omega) dX7_worth_94 (fun x15 hx15 bx15 => ?_)
          refine z_if_eq (tgt := 122) dX7_worth_95 (by decide) (fun c16 => ?_) (fun c16 => ?_)
          · refine z_ldc_w (c := -1000007) cn_X7_273 ⟨by decide, by decide⟩ dX7_worth_122 ?_
            refine z_iret rfl (by decide) rfl (Nat.sub_self _) dX7_worth_125 ?_
            refine ⟨RD_X hRD5, ?_⟩
            rw [if_neg (by omega)]
            refine Or.inr (Or.inr ⟨hfe, _, _, hE2.2.1, ?_⟩)
            rcases hES5 with q | q
            · first
              | exact Or.inl ⟨q.2, rfl⟩
              | (exfalso; omega)
            · first
              | (exfalso; omega)
              | exact Or.inr ⟨_, _, q.2.1, by omega⟩
          · have hE5 := hES5.resolve_left (fun q => by omega)
            have hle5 := Ends2_le hfe4 hE5.2.1
            refine z_aload_nr dX7_worth_98 rfl ?_
            refine z_getr (b := 20) fl_X7_33 rfl (by decide) rf_0_3 rfl dX7_worth_99 ?_
            refine z_getr (b := 32) fl_X7_264 rfl (by decide) rf_20_13 rfl dX7_worth_102 ?_
            refine z_iload_n dX7_worth_105 rfl ?_
            refine z_iald rfl (by decide) (by omega) (by omega) dX7_worth_106 (fun x17 hx17 bx17 => ?_)
            refine z_aload_nr dX7_worth_107 rfl ?_
            refine z_getr (b := 20) fl_X7_33 rfl (by decide) rf_0_3 rfl dX7_worth_108 ?_
            refine z_getr (b := 31) fl_X7_267 rfl (by decide) rf_20_12 rfl dX7_worth_111 ?_
            refine z_iload_n dX7_worth_114 rfl ?_
            refine z_iald rfl (by decide) (by omega) (by omega) dX7_worth_115 (fun x18 hx18 bx18 => ?_)
            first | refine z_isubN dX7_worth_116 (by omega) (fun x19 hx19 => ?_) | refine z_isub dX7_worth_116 (fun x19 hx19 => ?_)
            refine z_iload_n dX7_worth_117 rfl ?_
            first | refine z_isubN dX7_worth_118 (by omega) (fun x20 hx20 => ?_) | refine z_isub dX7_worth_118 (fun x20 hx20 => ?_)
            refine z_goto (tgt := 125) dX7_worth_119 (by decide) ?_
            refine z_iret rfl (by decide) rfl (Nat.sub_self _) dX7_worth_125 ?_
            refine ⟨RD_X hRD5, ?_⟩
            rw [if_neg (by omega)]
            refine Or.inr (Or.inr ⟨hfe, _, _, hE2.2.1, ?_⟩)
            rcases hES5 with q | q
            · first
              | exact Or.inl ⟨q.2, rfl⟩
              | (exfalso; omega)
            · first
              | (exfalso; omega)
              | exact Or.inr ⟨_, _, q.2.1, by omega⟩
        · refine z_ldc (c := -1000006) cn_X7_230 ⟨by decide, by decide⟩ dX7_worth_46 ?_
          refine z_iret rfl (by decide) rfl (Nat.sub_self _) dX7_worth_48 ?_
          refine ⟨RD_X hRD3, ?_⟩
          rw [if_neg (by omega)]
          refine Or.inr (Or.inl ⟨hfe, ?_, rfl⟩)
          rcases hES with q | q
          · exact q.2
          · omega
      · refine z_ldc (c := -1000005) cn_X7_222 ⟨by decide, by decide⟩ dX7_worth_24 ?_
        refine z_iret rfl (by decide) rfl (Nat.sub_self _) dX7_worth_26 ?_
        refine ⟨RD_X hRD, ?_⟩
        rw [if_neg (by omega)]
        refine Or.inl ⟨?_, rfl⟩
        rcases hqq with q | q
        · omega
        · exact q.2
    · refine z_ldc (c := -1000001) cn_X7_82 ⟨by decide, by decide⟩ dX7_worth_14 ?_
      refine z_iret rfl (by decide) rfl (Nat.sub_self _) dX7_worth_16 ?_
      refine ⟨OffX_rfl M, ?_⟩
      rw [if_pos (by omega)]
set_option maxHeartbeats 400000 in
theorem A_X7_standOfClaim42 (l : Launch) (g : Cx) (M : FMem) (i : Int) (hT : XT M 42) (hi : 0 ≤ i ∧ i < M 42 11) : AMi l g true fi_X7_standOfClaim [fr 0, fi i] 93 M (fun q M2 => OffX M M2 ∧ AClaim (SolT M 42 (M 1 13) (-1) (-1) (-1) 0) (M 48 i) (M 49 i) (M 50 i) q) := by
  refine AMi_intro [fr 0, fi i, fu, fu, fu, fu, fu, fu] (by decide) (knall rfl) (Nat.le_of_ble_eq_true rfl) rfl ?_
  intro hNV hM0 μ
  have bi : N32 i := hNV (fi i) (by simp)
  have hcl := hT.2.2.2.2.2.2.2.2.1
  have hch := hT.2.2.2.2.2.2.2.2.2 i hi.1 hi.2
  simp only [Nat.reduceAdd] at hch
  refine z_aload_nr dX7_standOfClaim_0 rfl ?_
  refine z_callVi (n2 := 93) (A_X7_quarrelsNow42 l g M (hT)) cb_X7_quarrelsNow cl_X7_235 (clr0 rfl rfl (by decide) (by decide)) rfl (by decide) ⟨_, rfl, rfl⟩ rfl (by decide) rfl (Nat.le_of_ble_eq_true rfl) rfl dX7_standOfClaim_1 (fun x1 Mz1 bx1 kMz1 hc1 => ?_)
  have hRD := hc1.1.1
  have hTR := hc1.1.2
  have hqq := hc1.2
  refine z_if_eq (tgt := 10) dX7_standOfClaim_4 (by decide) (fun c2 => ?_) (fun c2 => ?_)
  · have hfe : Feas (SolT M 42 (M 1 13) (-1) (-1) (-1) 0) := by rcases hqq with q | q; exact q.2; omega
    refine z_aload_nr dX7_standOfClaim_10 rfl ?_
    refine z_getr (b := 20) fl_X7_33 rfl (by decide) rf_0_3 rfl dX7_standOfClaim_11 ?_
    refine z_callVv (n2 := 93) (A_X1_findEnds l g Mz1 (hRD.2.1) (feas1 hRD hfe)) cb_X1_findEnds cl_X7_258 (clr0 rfl rfl (by decide) (by decide)) rfl (by decide) ⟨_, rfl, rfl⟩ rfl (by decide) rfl (Nat.le_of_ble_eq_true rfl) rfl dX7_standOfClaim_14 (fun Mz3 kMz3 hc3 => ?_)
    have hMx := kMz3
    have hFE := hc3
    have hRD3 := FE_RD hRD hFE
    have z6 := RD_X hRD3 48 i (by omega)
    have z7 := RD_X hRD3 49 i (by omega)
    have z8 := RD_X hRD3 50 i (by omega)
    refine z_aload_nr dX7_standOfClaim_17 rfl ?_
    refine z_getv (b := 42) (kz := 6) fl_X7_54 rfl (by decide) rfl (fun _ => (RD_X hRD3 0 6 (by omega)).trans hT.2.2.1) dX7_standOfClaim_18 ?_
    refine z_getr (b := 48) fl_X7_326 rfl (by decide) rf_42_8 rfl dX7_standOfClaim_21 ?_
    refine z_iload_n dX7_standOfClaim_24 rfl ?_
    refine z_iald rfl (by decide) (by omega) (by omega) dX7_standOfClaim_25 (fun x4 hx4 bx4 => ?_)
    refine z_istore_n (loc2 := [fr 0, fi i, fi x4, fu, fu, fu, fu, fu]) dX7_standOfClaim_26 (by decide) rfl ?_
    refine z_aload_nr dX7_standOfClaim_27 rfl ?_
    refine z_getv (b := 42) (kz := 6) fl_X7_54 rfl (by decide) rfl (fun _ => (RD_X hRD3 0 6 (by omega)).trans hT.2.2.1) dX7_standOfClaim_28 ?_
    refine z_getr (b := 49) fl_X7_329 rfl (by decide) rf_42_9 rfl dX7_standOfClaim_31 ?_
    refine z_iload_n dX7_standOfClaim_34 rfl ?_
    refine z_iald rfl (by decide) (by omega) (by omega) dX7_standOfClaim_35 (fun x5 hx5 bx5 => ?_)
    refine z_istore_n (loc2 := [fr 0, fi i, fi x4, fi x5, fu, fu, fu, fu]) dX7_standOfClaim_36 (by decide) rfl ?_
    have eh : x4 = M 48 i := by omega
    have em : x5 = M 49 i := by omega
    have hES := FES_of hRD hFE x4 (by omega) (by omega)
    refine z_aload_nr dX7_standOfClaim_37 rfl ?_
    refine z_getr (b := 20) fl_X7_33 rfl (by decide) rf_0_3 rfl dX7_standOfClaim_38 ?_
    refine z_getr (b := 33) fl_X7_261 rfl (by decide) rf_20_14 rfl dX7_standOfClaim_41 ?_
    refine z_iload_n dX7_standOfClaim_44 rfl ?_
    refine z_zald rfl (by decide) (by omega) (by omega) dX7_standOfClaim_45 (fun x6 hx6 bx6 => ?_)
    refine z_if_ne (tgt := 51) dX7_standOfClaim_46 (by decide) (fun c7 => ?_) (fun c7 => ?_)
    · have hE2 := hES.resolve_left (fun q => by omega)
      obtain ⟨va, hva⟩ : ∃ y, y = Mz3 50 i := ⟨_, rfl⟩
      have hvb : va = 0 ∨ va = 1 := by rw [hva]; exact mok_z hMx rfl i
      rw [← hva] at z8
      refine z_aload_nr dX7_standOfClaim_51 rfl ?_
      refine z_getr (b := 20) fl_X7_33 rfl (by decide) rf_0_3 rfl dX7_standOfClaim_52 ?_
      refine z_getr (b := 31) fl_X7_267 rfl (by decide) rf_20_12 rfl dX7_standOfClaim_55 ?_
      refine z_iload_n dX7_standOfClaim_58 rfl ?_
      refine z_iald rfl (by decide) (by omega) (by omega) dX7_standOfClaim_59 (fun x8 hx8 bx8 => ?_)
      refine z_iload_n dX7_standOfClaim_60 rfl ?_
      have J9 : ∀ b9 : Int, (b9 = 1 ∧ (x5 < x8)) ∨ (b9 = 0 ∧ ¬ (x5 < x8)) → Wa l g true fi_X7_standOfClaim 93 μ (Zi g true fi_X7_standOfClaim 93 μ (fun q M2 => OffX M M2 ∧ AClaim (SolT M 42 (M 1 13) (-1) (-1) (-1) 0) (M 48 i) (M 49 i) (M 50 i) q)) 69 ([fi b9]) [fr 0, fi i, fi x4, fi x5, fu, fu, fu, fu] 93 Mz3 := by
        intro b9 j9
        refine z_istore (loc2 := [fr 0, fi i, fi x4, fi x5, fi b9, fu, fu, fu]) dX7_standOfClaim_69 (by decide) rfl ?_
        refine z_aload_nr dX7_standOfClaim_71 rfl ?_
        refine z_getr (b := 20) fl_X7_33 rfl (by decide) rf_0_3 rfl dX7_standOfClaim_72 ?_
        refine z_getr (b := 32) fl_X7_264 rfl (by decide) rf_20_13 rfl dX7_standOfClaim_75 ?_
        refine z_iload_n dX7_standOfClaim_78 rfl ?_
        refine z_iald rfl (by decide) (by omega) (by omega) dX7_standOfClaim_79 (fun x10 hx10 bx10 => ?_)
        refine z_iload_n dX7_standOfClaim_80 rfl ?_
        have J11 : ∀ b11 : Int, (b11 = 1 ∧ (x10 < x5)) ∨ (b11 = 0 ∧ ¬ (x10 < x5)) → Wa l g true fi_X7_standOfClaim 93 μ (Zi g true fi_X7_standOfClaim 93 μ (fun q M2 => OffX M M2 ∧ AClaim (SolT M 42 (M 1 13) (-1) (-1) (-1) 0) (M 48 i) (M 49 i) (M 50 i) q)) 89 ([fi b11]) [fr 0, fi i, fi x4, fi x5, fi b9, fu, fu, fu] 93 Mz3 := by
          intro b11 j11
          refine z_istore (loc2 := [fr 0, fi i, fi x4, fi x5, fi b9, fi b11, fu, fu]) dX7_standOfClaim_89 (by decide) rfl ?_
          refine z_aload_nr dX7_standOfClaim_91 rfl ?_
          refine z_getr (b := 20) fl_X7_33 rfl (by decide) rf_0_3 rfl dX7_standOfClaim_92 ?_
          refine z_getr (b := 32) fl_X7_264 rfl (by decide) rf_20_13 rfl dX7_standOfClaim_95 ?_
          refine z_iload_n dX7_standOfClaim_98 rfl ?_
          refine z_iald rfl (by decide) (by omega) (by omega) dX7_standOfClaim_99 (fun x12 hx12 bx12 => ?_)
          refine z_iload_n dX7_standOfClaim_100 rfl ?_
          have J13 : ∀ b13 : Int, (b13 = 1 ∧ (x12 ≤ x5)) ∨ (b13 = 0 ∧ ¬ (x12 ≤ x5)) → Wa l g true fi_X7_standOfClaim 93 μ (Zi g true fi_X7_standOfClaim 93 μ (fun q M2 => OffX M M2 ∧ AClaim (SolT M 42 (M 1 13) (-1) (-1) (-1) 0) (M 48 i) (M 49 i) (M 50 i) q)) 109 ([fi b13]) [fr 0, fi i, fi x4, fi x5, fi b9, fi b11, fu, fu] 93 Mz3 := by
            intro b13 j13
            refine z_istore (loc2 := [fr 0, fi i, fi x4, fi x5, fi b9, fi b11, fi b13, fu]) dX7_standOfClaim_109 (by decide) rfl ?_
            refine z_aload_nr dX7_standOfClaim_111 rfl ?_
            refine z_getr (b := 20) fl_X7_33 rfl (by decide) rf_0_3 rfl dX7_standOfClaim_112 ?_
            refine z_getr (b := 31) fl_X7_267 rfl (by decide) rf_20_12 rfl dX7_standOfClaim_115 ?_
            refine z_iload_n dX7_standOfClaim_118 rfl ?_
            refine z_iald rfl (by decide) (by omega) (by omega) dX7_standOfClaim_119 (fun x14 hx14 bx14 => ?_)
            refine z_iload_n dX7_standOfClaim_120 rfl ?_
            have J15 : ∀ b15 : Int, (b15 = 1 ∧ (x5 ≤ x14)) ∨ (b15 = 0 ∧ ¬ (x5 ≤ x14)) → Wa l g true fi_X7_standOfClaim 93 μ (Zi g true fi_X7_standOfClaim 93 μ (fun q M2 => OffX M M2 ∧ AClaim (SolT M 42 (M 1 13) (-1) (-1) (-1) 0) (M 48 i) (M 49 i) (M 50 i) q)) 129 ([fi b15]) [fr 0, fi i, fi x4, fi x5, fi b9, fi b11, fi b13, fu] 93 Mz3 := by
              intro b15 j15
              refine z_istore (loc2 := [fr 0, fi i, fi x4, fi x5, fi b9, fi b11, fi b13, fi b15]) dX7_standOfClaim_129 (by decide) rfl ?_
              refine z_aload_nr dX7_standOfClaim_131 rfl ?_
              refine z_getv (b := 42) (kz := 6) fl_X7_54 rfl (by decide) rfl (fun _ => (RD_X hRD3 0 6 (by omega)).trans hT.2.2.1) dX7_standOfClaim_132 ?_
              refine z_getr (b := 50) fl_X7_332 rfl (by decide) rf_42_10 rfl dX7_standOfClaim_135 ?_
              refine z_iload_n dX7_standOfClaim_138 rfl ?_
              refine z_zald rfl (by decide) (by omega) (by omega) dX7_standOfClaim_139 (fun x16 hx16 bx16 => ?_)
              refine z_if_eq (tgt := 151) dX7_standOfClaim_140 (by decide) (fun c17 => ?_) (fun c17 => ?_)
              · refine z_iload dX7_standOfClaim_151 rfl ?_
                refine z_if_eq (tgt := 158) dX7_standOfClaim_153 (by decide) (fun c18 => ?_) (fun c18 => ?_)
                · refine z_aload_nr dX7_standOfClaim_158 rfl ?_
                  refine z_getv (b := 42) (kz := 6) fl_X7_54 rfl (by decide) rfl (fun _ => (RD_X hRD3 0 6 (by omega)).trans hT.2.2.1) dX7_standOfClaim_159 ?_
                  refine z_getr (b := 50) fl_X7_332 rfl (by decide) rf_42_10 rfl dX7_standOfClaim_162 ?_
                  refine z_iload_n dX7_standOfClaim_165 rfl ?_
                  refine z_zald rfl (by decide) (by omega) (by omega) dX7_standOfClaim_166 (fun x19 hx19 bx19 => ?_)
                  refine z_if_eq (tgt := 178) dX7_standOfClaim_167 (by decide) (fun c20 => ?_) (fun c20 => ?_)
                  · refine z_iload dX7_standOfClaim_178 rfl ?_
                    refine z_if_eq (tgt := 187) dX7_standOfClaim_180 (by decide) (fun c21 => ?_) (fun c21 => ?_)
                    · refine z_iconst dX7_standOfClaim_187 ⟨by decide, by decide⟩ ?_
                      refine z_iret rfl (by decide) rfl (Nat.sub_self _) dX7_standOfClaim_188 ?_
                      refine ⟨RD_X hRD3, Or.inr (Or.inr ⟨hfe, _, _, by rw [← eh]; exact hE2.2.1, ?_⟩)⟩
                      first | (exfalso; omega) | (rw [if_pos (by omega), if_neg (by omega), if_pos (by omega)]) | (rw [if_pos (by omega), if_neg (by omega), if_neg (by omega)]) | (rw [if_neg (by omega), if_neg (by omega), if_pos (by omega)]) | (rw [if_neg (by omega), if_neg (by omega), if_neg (by omega)]) | (exfalso; omega)
                    · refine z_iconst dX7_standOfClaim_183 ⟨by decide, by decide⟩ ?_
                      refine z_goto (tgt := 188) dX7_standOfClaim_184 (by decide) ?_
                      refine z_iret rfl (by decide) rfl (Nat.sub_self _) dX7_standOfClaim_188 ?_
                      refine ⟨RD_X hRD3, Or.inr (Or.inr ⟨hfe, _, _, by rw [← eh]; exact hE2.2.1, ?_⟩)⟩
                      first | (exfalso; omega) | (rw [if_pos (by omega), if_neg (by omega), if_pos (by omega)]) | (rw [if_pos (by omega), if_neg (by omega), if_neg (by omega)]) | (rw [if_neg (by omega), if_neg (by omega), if_pos (by omega)]) | (rw [if_neg (by omega), if_neg (by omega), if_neg (by omega)]) | (exfalso; omega)
                  · refine z_iload dX7_standOfClaim_170 rfl ?_
                    refine z_if_eq (tgt := 187) dX7_standOfClaim_172 (by decide) (fun c22 => ?_) (fun c22 => ?_)
                    · refine z_iconst dX7_standOfClaim_187 ⟨by decide, by decide⟩ ?_
                      refine z_iret rfl (by decide) rfl (Nat.sub_self _) dX7_standOfClaim_188 ?_
                      refine ⟨RD_X hRD3, Or.inr (Or.inr ⟨hfe, _, _, by rw [← eh]; exact hE2.2.1, ?_⟩)⟩
                      first | (exfalso; omega) | (rw [if_pos (by omega), if_neg (by omega), if_pos (by omega)]) | (rw [if_pos (by omega), if_neg (by omega), if_neg (by omega)]) | (rw [if_neg (by omega), if_neg (by omega), if_pos (by omega)]) | (rw [if_neg (by omega), if_neg (by omega), if_neg (by omega)]) | (exfalso; omega)
                    · refine z_goto (tgt := 183) dX7_standOfClaim_175 (by decide) ?_
                      refine z_iconst dX7_standOfClaim_183 ⟨by decide, by decide⟩ ?_
                      refine z_goto (tgt := 188) dX7_standOfClaim_184 (by decide) ?_
                      refine z_iret rfl (by decide) rfl (Nat.sub_self _) dX7_standOfClaim_188 ?_
                      refine ⟨RD_X hRD3, Or.inr (Or.inr ⟨hfe, _, _, by rw [← eh]; exact hE2.2.1, ?_⟩)⟩
                      first | (exfalso; omega) | (rw [if_pos (by omega), if_neg (by omega), if_pos (by omega)]) | (rw [if_pos (by omega), if_neg (by omega), if_neg (by omega)]) | (rw [if_neg (by omega), if_neg (by omega), if_pos (by omega)]) | (rw [if_neg (by omega), if_neg (by omega), if_neg (by omega)]) | (exfalso; omega)
                · refine z_iconst dX7_standOfClaim_156 ⟨by decide, by decide⟩ ?_
                  refine z_iret rfl (by decide) rfl (Nat.sub_self _) dX7_standOfClaim_157 ?_
                  refine ⟨RD_X hRD3, Or.inr (Or.inr ⟨hfe, _, _, by rw [← eh]; exact hE2.2.1, ?_⟩)⟩
                  first | (exfalso; omega) | (rw [if_pos (by omega), if_pos (by omega)]) | (rw [if_neg (by omega), if_pos (by omega)])
              · refine z_iload dX7_standOfClaim_143 rfl ?_
                refine z_if_eq (tgt := 158) dX7_standOfClaim_145 (by decide) (fun c23 => ?_) (fun c23 => ?_)
                · refine z_aload_nr dX7_standOfClaim_158 rfl ?_
                  refine z_getv (b := 42) (kz := 6) fl_X7_54 rfl (by decide) rfl (fun _ => (RD_X hRD3 0 6 (by omega)).trans hT.2.2.1) dX7_standOfClaim_159 ?_
                  refine z_getr (b := 50) fl_X7_332 rfl (by decide) rf_42_10 rfl dX7_standOfClaim_162 ?_
                  refine z_iload_n dX7_standOfClaim_165 rfl ?_
                  refine z_zald rfl (by decide) (by omega) (by omega) dX7_standOfClaim_166 (fun x24 hx24 bx24 => ?_)
                  refine z_if_eq (tgt := 178) dX7_standOfClaim_167 (by decide) (fun c25 => ?_) (fun c25 => ?_)
                  · refine z_iload dX7_standOfClaim_178 rfl ?_
                    refine z_if_eq (tgt := 187) dX7_standOfClaim_180 (by decide) (fun c26 => ?_) (fun c26 => ?_)
                    · refine z_iconst dX7_standOfClaim_187 ⟨by decide, by decide⟩ ?_
                      refine z_iret rfl (by decide) rfl (Nat.sub_self _) dX7_standOfClaim_188 ?_
                      refine ⟨RD_X hRD3, Or.inr (Or.inr ⟨hfe, _, _, by rw [← eh]; exact hE2.2.1, ?_⟩)⟩
                      first | (exfalso; omega) | (rw [if_pos (by omega), if_neg (by omega), if_pos (by omega)]) | (rw [if_pos (by omega), if_neg (by omega), if_neg (by omega)]) | (rw [if_neg (by omega), if_neg (by omega), if_pos (by omega)]) | (rw [if_neg (by omega), if_neg (by omega), if_neg (by omega)]) | (exfalso; omega)
                    · refine z_iconst dX7_standOfClaim_183 ⟨by decide, by decide⟩ ?_
                      refine z_goto (tgt := 188) dX7_standOfClaim_184 (by decide) ?_
                      refine z_iret rfl (by decide) rfl (Nat.sub_self _) dX7_standOfClaim_188 ?_
                      refine ⟨RD_X hRD3, Or.inr (Or.inr ⟨hfe, _, _, by rw [← eh]; exact hE2.2.1, ?_⟩)⟩
                      first | (exfalso; omega) | (rw [if_pos (by omega), if_neg (by omega), if_pos (by omega)]) | (rw [if_pos (by omega), if_neg (by omega), if_neg (by omega)]) | (rw [if_neg (by omega), if_neg (by omega), if_pos (by omega)]) | (rw [if_neg (by omega), if_neg (by omega), if_neg (by omega)]) | (exfalso; omega)
                  · refine z_iload dX7_standOfClaim_170 rfl ?_
                    refine z_if_eq (tgt := 187) dX7_standOfClaim_172 (by decide) (fun c27 => ?_) (fun c27 => ?_)
                    · refine z_iconst dX7_standOfClaim_187 ⟨by decide, by decide⟩ ?_
                      refine z_iret rfl (by decide) rfl (Nat.sub_self _) dX7_standOfClaim_188 ?_
                      refine ⟨RD_X hRD3, Or.inr (Or.inr ⟨hfe, _, _, by rw [← eh]; exact hE2.2.1, ?_⟩)⟩
                      first | (exfalso; omega) | (rw [if_pos (by omega), if_neg (by omega), if_pos (by omega)]) | (rw [if_pos (by omega), if_neg (by omega), if_neg (by omega)]) | (rw [if_neg (by omega), if_neg (by omega), if_pos (by omega)]) | (rw [if_neg (by omega), if_neg (by omega), if_neg (by omega)]) | (exfalso; omega)
                    · refine z_goto (tgt := 183) dX7_standOfClaim_175 (by decide) ?_
                      refine z_iconst dX7_standOfClaim_183 ⟨by decide, by decide⟩ ?_
                      refine z_goto (tgt := 188) dX7_standOfClaim_184 (by decide) ?_
                      refine z_iret rfl (by decide) rfl (Nat.sub_self _) dX7_standOfClaim_188 ?_
                      refine ⟨RD_X hRD3, Or.inr (Or.inr ⟨hfe, _, _, by rw [← eh]; exact hE2.2.1, ?_⟩)⟩
                      first | (exfalso; omega) | (rw [if_pos (by omega), if_neg (by omega), if_pos (by omega)]) | (rw [if_pos (by omega), if_neg (by omega), if_neg (by omega)]) | (rw [if_neg (by omega), if_neg (by omega), if_pos (by omega)]) | (rw [if_neg (by omega), if_neg (by omega), if_neg (by omega)]) | (exfalso; omega)
                · refine z_goto (tgt := 156) dX7_standOfClaim_148 (by decide) ?_
                  refine z_iconst dX7_standOfClaim_156 ⟨by decide, by decide⟩ ?_
                  refine z_iret rfl (by decide) rfl (Nat.sub_self _) dX7_standOfClaim_157 ?_
                  refine ⟨RD_X hRD3, Or.inr (Or.inr ⟨hfe, _, _, by rw [← eh]; exact hE2.2.1, ?_⟩)⟩
                  first | (exfalso; omega) | (rw [if_pos (by omega), if_pos (by omega)]) | (rw [if_neg (by omega), if_pos (by omega)])
            refine z_icmp_lt (tgt := 128) dX7_standOfClaim_121 (by decide) (fun c28 => ?_) (fun c28 => ?_)
            · refine z_iconst dX7_standOfClaim_128 ⟨by decide, by decide⟩ ?_
              first | exact J15 _ (Or.inl ⟨rfl, by omega⟩) | exact J15 _ (Or.inr ⟨rfl, by omega⟩)
            · refine z_iconst dX7_standOfClaim_124 ⟨by decide, by decide⟩ ?_
              refine z_goto (tgt := 129) dX7_standOfClaim_125 (by decide) ?_
              first | exact J15 _ (Or.inl ⟨rfl, by omega⟩) | exact J15 _ (Or.inr ⟨rfl, by omega⟩)
          refine z_icmp_gt (tgt := 108) dX7_standOfClaim_101 (by decide) (fun c29 => ?_) (fun c29 => ?_)
          · refine z_iconst dX7_standOfClaim_108 ⟨by decide, by decide⟩ ?_
            first | exact J13 _ (Or.inl ⟨rfl, by omega⟩) | exact J13 _ (Or.inr ⟨rfl, by omega⟩)
          · refine z_iconst dX7_standOfClaim_104 ⟨by decide, by decide⟩ ?_
            refine z_goto (tgt := 109) dX7_standOfClaim_105 (by decide) ?_
            first | exact J13 _ (Or.inl ⟨rfl, by omega⟩) | exact J13 _ (Or.inr ⟨rfl, by omega⟩)
        refine z_icmp_ge (tgt := 88) dX7_standOfClaim_81 (by decide) (fun c30 => ?_) (fun c30 => ?_)
        · refine z_iconst dX7_standOfClaim_88 ⟨by decide, by decide⟩ ?_
          first | exact J11 _ (Or.inl ⟨rfl, by omega⟩) | exact J11 _ (Or.inr ⟨rfl, by omega⟩)
        · refine z_iconst dX7_standOfClaim_84 ⟨by decide, by decide⟩ ?_
          refine z_goto (tgt := 89) dX7_standOfClaim_85 (by decide) ?_
          first | exact J11 _ (Or.inl ⟨rfl, by omega⟩) | exact J11 _ (Or.inr ⟨rfl, by omega⟩)
      refine z_icmp_le (tgt := 68) dX7_standOfClaim_61 (by decide) (fun c31 => ?_) (fun c31 => ?_)
      · refine z_iconst dX7_standOfClaim_68 ⟨by decide, by decide⟩ ?_
        first | exact J9 _ (Or.inl ⟨rfl, by omega⟩) | exact J9 _ (Or.inr ⟨rfl, by omega⟩)
      · refine z_iconst dX7_standOfClaim_64 ⟨by decide, by decide⟩ ?_
        refine z_goto (tgt := 69) dX7_standOfClaim_65 (by decide) ?_
        first | exact J9 _ (Or.inl ⟨rfl, by omega⟩) | exact J9 _ (Or.inr ⟨rfl, by omega⟩)
    · refine z_iconst dX7_standOfClaim_49 ⟨by decide, by decide⟩ ?_
      refine z_iret rfl (by decide) rfl (Nat.sub_self _) dX7_standOfClaim_50 ?_
      refine ⟨RD_X hRD3, Or.inr (Or.inl ⟨hfe, ?_, rfl⟩)⟩
      rw [← eh]
      rcases hES with q | q
      · exact q.2
      · omega
  · refine z_ldc (c := -1000005) cn_X7_222 ⟨by decide, by decide⟩ dX7_standOfClaim_7 ?_
    refine z_iret rfl (by decide) rfl (Nat.sub_self _) dX7_standOfClaim_9 ?_
    refine ⟨RD_X hRD, Or.inl ⟨?_, rfl⟩⟩
    rcases hqq with q | q
    · omega
    · exact q.2
set_option maxHeartbeats 400000 in
theorem A_X7_howManyLoose51 (l : Launch) (g : Cx) (M : FMem) (hT : XT M 51) : AMi l g true fi_X7_howManyLoose [fr 0] 93 M (fun q M2 => OffX M M2 ∧ ALoose (SolT M 51 (M 1 13) (-1) (-1) (-1) 0) q) := by
  refine AMi_intro [fr 0, fu, fu] (by decide) (knall rfl) (Nat.le_of_ble_eq_true rfl) rfl ?_
  intro hNV hM0 μ
  refine z_aload_nr dX7_howManyLoose_0 rfl ?_
  refine z_callVi (n2 := 93) (A_X7_quarrelsNow51 l g M (hT)) cb_X7_quarrelsNow cl_X7_235 (clr0 rfl rfl (by decide) (by decide)) rfl (by decide) ⟨_, rfl, rfl⟩ rfl (by decide) rfl (Nat.le_of_ble_eq_true rfl) rfl dX7_howManyLoose_1 (fun x1 Mz1 bx1 kMz1 hc1 => ?_)
  have hRD := hc1.1.1
  have hTR := hc1.1.2
  have hqq := hc1.2
  refine z_if_eq (tgt := 9) dX7_howManyLoose_4 (by decide) (fun c2 => ?_) (fun c2 => ?_)
  · have hfe : Feas (SolT M 51 (M 1 13) (-1) (-1) (-1) 0) := by rcases hqq with q | q; exact q.2; omega
    refine z_aload_nr dX7_howManyLoose_9 rfl ?_
    refine z_getr (b := 20) fl_X7_33 rfl (by decide) rf_0_3 rfl dX7_howManyLoose_10 ?_
    refine z_bipush dX7_howManyLoose_13 ⟨by decide, by decide⟩ (by decide) ?_
    refine z_iconst dX7_howManyLoose_15 ⟨by decide, by decide⟩ ?_
    refine z_callVv (n2 := 93) (A_X1_reach1 l g Mz1 16 (by omega) (hRD.2.1) (feas1 hRD hfe)) cb_X1_reach cl_X7_223 (clr0 rfl rfl (by decide) (by decide)) rfl (by decide) ⟨_, rfl, rfl⟩ rfl (by decide) rfl (Nat.le_of_ble_eq_true rfl) rfl dX7_howManyLoose_16 (fun Mz3 kMz3 hc3 => ?_)
    have hF := hc3
    have hofx : OffX M Mz3 := fun b j q => (hF.1 b j (by omega) (by omega)).trans (hRD.1.1 b j (by omega))
    have lp23 : ∀ (kq : Nat) (h c : Int), (10 - h).toNat = kq → (0 ≤ h ∧ h ≤ 10) → (c = sumI (fun h => c01 (FreeD (SolT M 51 (M 1 13) (-1) (-1) (-1) 0) 16 h)) h) → (0 ≤ c ∧ c ≤ h) → Wa l g true fi_X7_howManyLoose 93 μ (Zi g true fi_X7_howManyLoose 93 μ (fun q M2 => OffX M M2 ∧ ALoose (SolT M 51 (M 1 13) (-1) (-1) (-1) 0) q)) 23 [] [fr 0, fi c, fi h] 93 Mz3 := by
      intro kq
      induction kq using Nat.strongRecOn with
      | _ kq ih23 =>
      intro h c hk23 h0 h1 h2
      refine z_iload_n dX7_howManyLoose_23 rfl ?_
      refine z_bipush dX7_howManyLoose_24 ⟨by decide, by decide⟩ (by decide) ?_
      refine z_icmp_ge (tgt := 57) dX7_howManyLoose_26 (by decide) (fun c4 => ?_) (fun c4 => ?_)
      · refine z_iload_n dX7_howManyLoose_57 rfl ?_
        refine z_iret rfl (by decide) rfl (Nat.sub_self _) dX7_howManyLoose_58 ?_
        refine ⟨hofx, Or.inr ⟨hfe, ?_⟩⟩
        rw [h1, show h = 10 by omega]
      · refine z_iload_n dX7_howManyLoose_29 rfl ?_
        refine z_aload_nr dX7_howManyLoose_30 rfl ?_
        refine z_getr (b := 20) fl_X7_33 rfl (by decide) rf_0_3 rfl dX7_howManyLoose_31 ?_
        refine z_iload_n dX7_howManyLoose_34 rfl ?_
        refine z_callVip (n2 := 93) (A_X1_isReached l g Mz3 h (by omega)) cb_X1_isReached cl_X7_227 (clr0 rfl rfl (by decide) (by decide)) rfl (by decide) ⟨_, rfl, rfl⟩ rfl (by decide) rfl (Nat.le_of_ble_eq_true rfl) rfl dX7_howManyLoose_35 (fun x5 bx5 hx5 => ?_)
        have i5 := if10 hx5
        refine z_if_ne (tgt := 45) dX7_howManyLoose_38 (by decide) (fun c6 => ?_) (fun c6 => ?_)
        · refine z_iconst dX7_howManyLoose_45 ⟨by decide, by decide⟩ ?_
          refine z_callSip (n2 := 93) (A_X7_asNumber l g Mz3 0 (by omega)) cb_X7_asNumber cl_X7_123 (clr0 rfl rfl (by decide) (by decide)) rfl (by decide) rfl (Nat.le_of_ble_eq_true rfl) rfl dX7_howManyLoose_46 (fun x7 bx7 hx7 => ?_)
          first | refine z_iaddN dX7_howManyLoose_49 (by omega) (fun x8 hx8 => ?_) | refine z_iadd dX7_howManyLoose_49 (fun x8 hx8 => ?_)
          refine z_istore_n (loc2 := [fr 0, fi x8, fi h]) dX7_howManyLoose_50 (by decide) rfl ?_
          refine z_iinc (loc2 := fun vq => [fr 0, fi x8, fi vq]) dX7_howManyLoose_51 rfl (by decide) (by omega) (fun _ => rfl) (fun x9 hx9 => ?_)
          refine z_goto (tgt := 23) dX7_howManyLoose_54 (by decide) ?_
          have hcc : c01 (FreeD (SolT M 51 (M 1 13) (-1) (-1) (-1) 0) 16 h) = x8 - c := by
            rcases RF_end hRD hfe (by omega) hF (v := h) (by omega) with q | q
            · rw [c01_t q.2]; omega
            · rw [c01_f (fun z => MaxD_free q.2.1 z)]; omega
          exact ih23 _ (by omega) x9 x8 rfl (by omega) (by rw [hx9, sumI_succ h0.1, ← h1, hcc]; omega) (by have := c01_r (FreeD (SolT M 51 (M 1 13) (-1) (-1) (-1) 0) 16 h); omega)
        · refine z_iconst dX7_howManyLoose_41 ⟨by decide, by decide⟩ ?_
          refine z_goto (tgt := 46) dX7_howManyLoose_42 (by decide) ?_
          refine z_callSip (n2 := 93) (A_X7_asNumber l g Mz3 1 (by omega)) cb_X7_asNumber cl_X7_123 (clr0 rfl rfl (by decide) (by decide)) rfl (by decide) rfl (Nat.le_of_ble_eq_true rfl) rfl dX7_howManyLoose_46 (fun x10 bx10 hx10 => ?_)
          first | refine z_iaddN dX7_howManyLoose_49 (by omega) (fun x11 hx11 => ?_) | refine z_iadd dX7_howManyLoose_49 (fun x11 hx11 => ?_)
          refine z_istore_n (loc2 := [fr 0, fi x11, fi h]) dX7_howManyLoose_50 (by decide) rfl ?_
          refine z_iinc (loc2 := fun vq => [fr 0, fi x11, fi vq]) dX7_howManyLoose_51 rfl (by decide) (by omega) (fun _ => rfl) (fun x12 hx12 => ?_)
          refine z_goto (tgt := 23) dX7_howManyLoose_54 (by decide) ?_
          have hcc : c01 (FreeD (SolT M 51 (M 1 13) (-1) (-1) (-1) 0) 16 h) = x11 - c := by
            rcases RF_end hRD hfe (by omega) hF (v := h) (by omega) with q | q
            · rw [c01_t q.2]; omega
            · rw [c01_f (fun z => MaxD_free q.2.1 z)]; omega
          exact ih23 _ (by omega) x12 x11 rfl (by omega) (by rw [hx12, sumI_succ h0.1, ← h1, hcc]; omega) (by have := c01_r (FreeD (SolT M 51 (M 1 13) (-1) (-1) (-1) 0) 16 h); omega)
    refine z_iconst dX7_howManyLoose_19 ⟨by decide, by decide⟩ ?_
    refine z_istore_n (loc2 := [fr 0, fi 0, fu]) dX7_howManyLoose_20 (by decide) rfl ?_
    refine z_iconst dX7_howManyLoose_21 ⟨by decide, by decide⟩ ?_
    refine z_istore_n (loc2 := [fr 0, fi 0, fi 0]) dX7_howManyLoose_22 (by decide) rfl ?_
    exact lp23 _ 0 0 rfl (by omega) ((sumI_0 _).symm) (by omega)
  · refine z_iconst dX7_howManyLoose_7 ⟨by decide, by decide⟩ ?_
    refine z_iret rfl (by decide) rfl (Nat.sub_self _) dX7_howManyLoose_8 ?_
    refine ⟨RD_X hRD, Or.inl ⟨?_, rfl⟩⟩
    rcases hqq with q | q
    · omega
    · exact q.2
set_option maxHeartbeats 400000 in
theorem A_X7_worth51 (l : Launch) (g : Cx) (M : FMem) (list home : Int) (hT : XT M 51) : AMi l g true fi_X7_worth [fr 0, fi list, fi home] 93 M (fun q M2 => OffX M M2 ∧ PWorth (SolT M 51 (M 1 13) (-1) (-1) (-1) 0) (SolT M 51 (M 1 13) list (-1) (-1) 0) list home q) := by
  refine AMi_intro [fr 0, fi list, fi home, fu] (by decide) (knall rfl) (Nat.le_of_ble_eq_true rfl) rfl ?_
  intro hNV hM0 μ
  have blist : N32 list := hNV (fi list) (by simp)
  have bhome : N32 home := hNV (fi home) (by simp)
  unfold PWorth
  refine z_iload_n dX7_worth_0 rfl ?_
  refine z_callSip (n2 := 93) (A_X7_isList l g M list) cb_X7_isList cl_X7_72 (clr0 rfl rfl (by decide) (by decide)) rfl (by decide) rfl (Nat.le_of_ble_eq_true rfl) rfl dX7_worth_1 (fun x1 bx1 hx1 => ?_)
  have i1 := if01 hx1
  refine z_if_eq (tgt := 14) dX7_worth_4 (by decide) (fun c2 => ?_) (fun c2 => ?_)
  · refine z_ldc (c := -1000001) cn_X7_82 ⟨by decide, by decide⟩ dX7_worth_14 ?_
    refine z_iret rfl (by decide) rfl (Nat.sub_self _) dX7_worth_16 ?_
    refine ⟨OffX_rfl M, ?_⟩
    rw [if_pos (by omega)]
  · refine z_iload_n dX7_worth_7 rfl ?_
    refine z_callSip (n2 := 93) (A_X7_isHome l g M home) cb_X7_isHome cl_X7_79 (clr0 rfl rfl (by decide) (by decide)) rfl (by decide) rfl (Nat.le_of_ble_eq_true rfl) rfl dX7_worth_8 (fun x3 bx3 hx3 => ?_)
    have i3 := if01 hx3
    refine z_if_ne (tgt := 17) dX7_worth_11 (by decide) (fun c4 => ?_) (fun c4 => ?_)
    · refine z_aload_nr dX7_worth_17 rfl ?_
      refine z_callVi (n2 := 93) (A_X7_quarrelsNow51 l g M (hT)) cb_X7_quarrelsNow cl_X7_235 (clr0 rfl rfl (by decide) (by decide)) rfl (by decide) ⟨_, rfl, rfl⟩ rfl (by decide) rfl (Nat.le_of_ble_eq_true rfl) rfl dX7_worth_18 (fun x5 Mz5 bx5 kMz5 hc5 => ?_)
      have hRD := hc5.1.1
      have hTR := hc5.1.2
      have hqq := hc5.2
      refine z_if_eq (tgt := 27) dX7_worth_21 (by decide) (fun c6 => ?_) (fun c6 => ?_)
      · have hfe : Feas (SolT M 51 (M 1 13) (-1) (-1) (-1) 0) := by rcases hqq with q | q; exact q.2; omega
        refine z_aload_nr dX7_worth_27 rfl ?_
        refine z_getr (b := 20) fl_X7_33 rfl (by decide) rf_0_3 rfl dX7_worth_28 ?_
        refine z_callVv (n2 := 93) (A_X1_findEnds l g Mz5 (hRD.2.1) (feas1 hRD hfe)) cb_X1_findEnds cl_X7_258 (clr0 rfl rfl (by decide) (by decide)) rfl (by decide) ⟨_, rfl, rfl⟩ rfl (by decide) rfl (Nat.le_of_ble_eq_true rfl) rfl dX7_worth_31 (fun Mz7 kMz7 hc7 => ?_)
        have hFE := hc7
        have hRD3 := FE_RD hRD hFE
        have hES := FES_of hRD hFE home (by omega) (by omega)
        refine z_aload_nr dX7_worth_34 rfl ?_
        refine z_getr (b := 20) fl_X7_33 rfl (by decide) rf_0_3 rfl dX7_worth_35 ?_
        refine z_getr (b := 33) fl_X7_261 rfl (by decide) rf_20_14 rfl dX7_worth_38 ?_
        refine z_iload_n dX7_worth_41 rfl ?_
        refine z_zald rfl (by decide) (by omega) (by omega) dX7_worth_42 (fun x8 hx8 bx8 => ?_)
        refine z_if_ne (tgt := 49) dX7_worth_43 (by decide) (fun c9 => ?_) (fun c9 => ?_)
        · have hE2 := hES.resolve_left (fun q => by omega)
          have hle2 := Ends2_le hfe hE2.2.1
          refine z_aload_nr dX7_worth_49 rfl ?_
          refine z_getr (b := 20) fl_X7_33 rfl (by decide) rf_0_3 rfl dX7_worth_50 ?_
          refine z_getr (b := 32) fl_X7_264 rfl (by decide) rf_20_13 rfl dX7_worth_53 ?_
          refine z_iload_n dX7_worth_56 rfl ?_
          refine z_iald rfl (by decide) (by omega) (by omega) dX7_worth_57 (fun x10 hx10 bx10 => ?_)
          refine z_aload_nr dX7_worth_58 rfl ?_
          refine z_getr (b := 20) fl_X7_33 rfl (by decide) rf_0_3 rfl dX7_worth_59 ?_
          refine z_getr (b := 31) fl_X7_267 rfl (by decide) rf_20_12 rfl dX7_worth_62 ?_
          refine z_iload_n dX7_worth_65 rfl ?_
          refine z_iald rfl (by decide) (by omega) (by omega) dX7_worth_66 (fun x11 hx11 bx11 => ?_)
          first | refine z_isubN dX7_worth_67 (by omega) (fun x12 hx12 => ?_) | refine z_isub dX7_worth_67 (fun x12 hx12 => ?_)
          refine z_istore_n (loc2 := [fr 0, fi list, fi home, fi x12]) dX7_worth_68 (by decide) rfl ?_
          refine z_aload_nr dX7_worth_69 rfl ?_
          refine z_getr (b := 20) fl_X7_33 rfl (by decide) rf_0_3 rfl dX7_worth_70 ?_
          refine z_iload_n dX7_worth_73 rfl ?_
          refine z_iconst dX7_worth_74 ⟨by decide, by decide⟩ ?_
          refine z_iconst dX7_worth_75 ⟨by decide, by decide⟩ ?_
          refine z_callVv (n2 := 93) (A_X1_leaveOut l g Mz7 list (-1) (-1)) cb_X1_leaveOut cl_X7_270 (clr0 rfl rfl (by decide) (by decide)) rfl (by decide) ⟨_, rfl, rfl⟩ rfl (by decide) rfl (Nat.le_of_ble_eq_true rfl) rfl dX7_worth_76 (fun Mz13 kMz13 hc13 => ?_)
          have hRD4 := RD_leave hRD3 hT.1.2 hc13
          have hfe4 : Feas (SolT M 51 (M 1 13) list (-1) (-1) 0) := by obtain ⟨x, hx⟩ := hfe; exact ⟨x, SolT_sub hx hT (Int.le_refl _)⟩
          refine z_aload_nr dX7_worth_79 rfl ?_
          refine z_getr (b := 20) fl_X7_33 rfl (by decide) rf_0_3 rfl dX7_worth_80 ?_
          refine z_callVv (n2 := 93) (A_X1_findEnds l g Mz13 (hRD4.2.1) (feas1 hRD4 hfe4)) cb_X1_findEnds cl_X7_258 (clr0 rfl rfl (by decide) (by decide)) rfl (by decide) ⟨_, rfl, rfl⟩ rfl (by decide) rfl (Nat.le_of_ble_eq_true rfl) rfl dX7_worth_83 (fun Mz14 kMz14 hc14 => ?_)
          have hFE5 := hc14
          have hRD5 := FE_RD hRD4 hFE5
          have hES5 := FES_of hRD4 hFE5 home (by omega) (by omega)
          refine z_aload_nr dX7_worth_86 rfl ?_
          refine z_getr (b := 20) fl_X7_33 rfl (by decide) rf_0_3 rfl dX7_worth_87 ?_
          refine z_getr (b := 33) fl_X7_261 rfl (by decide) rf_20_14 rfl dX7_worth_90 ?_
          refine z_iload_n dX7_worth_93 rfl ?_
          refine z_zald rfl (by decide) (by omega) (by omega) dX7_worth_94 (fun x15 hx15 bx15 => ?_)
          refine z_if_eq (tgt := 122) dX7_worth_95 (by decide) (fun c16 => ?_) (fun c16 => ?_)
          · refine z_ldc_w (c := -1000007) cn_X7_273 ⟨by decide, by decide⟩ dX7_worth_122 ?_
            refine z_iret rfl (by decide) rfl (Nat.sub_self _) dX7_worth_125 ?_
            refine ⟨RD_X hRD5, ?_⟩
            rw [if_neg (by omega)]
            refine Or.inr (Or.inr ⟨hfe, _, _, hE2.2.1, ?_⟩)
            rcases hES5 with q | q
            · first
              | exact Or.inl ⟨q.2, rfl⟩
              | (exfalso; omega)
            · first
              | (exfalso; omega)
              | exact Or.inr ⟨_, _, q.2.1, by omega⟩
          · have hE5 := hES5.resolve_left (fun q => by omega)
            have hle5 := Ends2_le hfe4 hE5.2.1
            refine z_aload_nr dX7_worth_98 rfl ?_
            refine z_getr (b := 20) fl_X7_33 rfl (by decide) rf_0_3 rfl dX7_worth_99 ?_
            refine z_getr (b := 32) fl_X7_264 rfl (by decide) rf_20_13 rfl dX7_worth_102 ?_
            refine z_iload_n dX7_worth_105 rfl ?_
            refine z_iald rfl (by decide) (by omega) (by omega) dX7_worth_106 (fun x17 hx17 bx17 => ?_)
            refine z_aload_nr dX7_worth_107 rfl ?_
            refine z_getr (b := 20) fl_X7_33 rfl (by decide) rf_0_3 rfl dX7_worth_108 ?_
            refine z_getr (b := 31) fl_X7_267 rfl (by decide) rf_20_12 rfl dX7_worth_111 ?_
            refine z_iload_n dX7_worth_114 rfl ?_
            refine z_iald rfl (by decide) (by omega) (by omega) dX7_worth_115 (fun x18 hx18 bx18 => ?_)
            first | refine z_isubN dX7_worth_116 (by omega) (fun x19 hx19 => ?_) | refine z_isub dX7_worth_116 (fun x19 hx19 => ?_)
            refine z_iload_n dX7_worth_117 rfl ?_
            first | refine z_isubN dX7_worth_118 (by omega) (fun x20 hx20 => ?_) | refine z_isub dX7_worth_118 (fun x20 hx20 => ?_)
            refine z_goto (tgt := 125) dX7_worth_119 (by decide) ?_
            refine z_iret rfl (by decide) rfl (Nat.sub_self _) dX7_worth_125 ?_
            refine ⟨RD_X hRD5, ?_⟩
            rw [if_neg (by omega)]
            refine Or.inr (Or.inr ⟨hfe, _, _, hE2.2.1, ?_⟩)
            rcases hES5 with q | q
            · first
              | exact Or.inl ⟨q.2, rfl⟩
              | (exfalso; omega)
            · first
              | (exfalso; omega)
              | exact Or.inr ⟨_, _, q.2.1, by omega⟩
        · refine z_ldc (c := -1000006) cn_X7_230 ⟨by decide, by decide⟩ dX7_worth_46 ?_
          refine z_iret rfl (by decide) rfl (Nat.sub_self _) dX7_worth_48 ?_
          refine ⟨RD_X hRD3, ?_⟩
          rw [if_neg (by omega)]
          refine Or.inr (Or.inl ⟨hfe, ?_, rfl⟩)
          rcases hES with q | q
          · exact q.2
          · omega
      · refine z_ldc (c := -1000005) cn_X7_222 ⟨by decide, by decide⟩ dX7_worth_24 ?_
        refine z_iret rfl (by decide) rfl (Nat.sub_self _) dX7_worth_26 ?_
        refine ⟨RD_X hRD, ?_⟩
        rw [if_neg (by omega)]
        refine Or.inl ⟨?_, rfl⟩
        rcases hqq with q | q
        · omega
        · exact q.2
    · refine z_ldc (c := -1000001) cn_X7_82 ⟨by decide, by decide⟩ dX7_worth_14 ?_
      refine z_iret rfl (by decide) rfl (Nat.sub_self _) dX7_worth_16 ?_
      refine ⟨OffX_rfl M, ?_⟩
      rw [if_pos (by omega)]
set_option maxHeartbeats 400000 in
theorem A_X7_standOfClaim51 (l : Launch) (g : Cx) (M : FMem) (i : Int) (hT : XT M 51) (hi : 0 ≤ i ∧ i < M 51 11) : AMi l g true fi_X7_standOfClaim [fr 0, fi i] 93 M (fun q M2 => OffX M M2 ∧ AClaim (SolT M 51 (M 1 13) (-1) (-1) (-1) 0) (M 57 i) (M 58 i) (M 59 i) q) := by
  refine AMi_intro [fr 0, fi i, fu, fu, fu, fu, fu, fu] (by decide) (knall rfl) (Nat.le_of_ble_eq_true rfl) rfl ?_
  intro hNV hM0 μ
  have bi : N32 i := hNV (fi i) (by simp)
  have hcl := hT.2.2.2.2.2.2.2.2.1
  have hch := hT.2.2.2.2.2.2.2.2.2 i hi.1 hi.2
  simp only [Nat.reduceAdd] at hch
  refine z_aload_nr dX7_standOfClaim_0 rfl ?_
  refine z_callVi (n2 := 93) (A_X7_quarrelsNow51 l g M (hT)) cb_X7_quarrelsNow cl_X7_235 (clr0 rfl rfl (by decide) (by decide)) rfl (by decide) ⟨_, rfl, rfl⟩ rfl (by decide) rfl (Nat.le_of_ble_eq_true rfl) rfl dX7_standOfClaim_1 (fun x1 Mz1 bx1 kMz1 hc1 => ?_)
  have hRD := hc1.1.1
  have hTR := hc1.1.2
  have hqq := hc1.2
  refine z_if_eq (tgt := 10) dX7_standOfClaim_4 (by decide) (fun c2 => ?_) (fun c2 => ?_)
  · have hfe : Feas (SolT M 51 (M 1 13) (-1) (-1) (-1) 0) := by rcases hqq with q | q; exact q.2; omega
    refine z_aload_nr dX7_standOfClaim_10 rfl ?_
    refine z_getr (b := 20) fl_X7_33 rfl (by decide) rf_0_3 rfl dX7_standOfClaim_11 ?_
    refine z_callVv (n2 := 93) (A_X1_findEnds l g Mz1 (hRD.2.1) (feas1 hRD hfe)) cb_X1_findEnds cl_X7_258 (clr0 rfl rfl (by decide) (by decide)) rfl (by decide) ⟨_, rfl, rfl⟩ rfl (by decide) rfl (Nat.le_of_ble_eq_true rfl) rfl dX7_standOfClaim_14 (fun Mz3 kMz3 hc3 => ?_)
    have hMx := kMz3
    have hFE := hc3
    have hRD3 := FE_RD hRD hFE
    have z6 := RD_X hRD3 57 i (by omega)
    have z7 := RD_X hRD3 58 i (by omega)
    have z8 := RD_X hRD3 59 i (by omega)
    refine z_aload_nr dX7_standOfClaim_17 rfl ?_
    refine z_getv (b := 51) (kz := 6) fl_X7_54 rfl (by decide) rfl (fun _ => (RD_X hRD3 0 6 (by omega)).trans hT.2.2.1) dX7_standOfClaim_18 ?_
    refine z_getr (b := 57) fl_X7_326 rfl (by decide) rf_51_8 rfl dX7_standOfClaim_21 ?_
    refine z_iload_n dX7_standOfClaim_24 rfl ?_
    refine z_iald rfl (by decide) (by omega) (by omega) dX7_standOfClaim_25 (fun x4 hx4 bx4 => ?_)
    refine z_istore_n (loc2 := [fr 0, fi i, fi x4, fu, fu, fu, fu, fu]) dX7_standOfClaim_26 (by decide) rfl ?_
    refine z_aload_nr dX7_standOfClaim_27 rfl ?_
    refine z_getv (b := 51) (kz := 6) fl_X7_54 rfl (by decide) rfl (fun _ => (RD_X hRD3 0 6 (by omega)).trans hT.2.2.1) dX7_standOfClaim_28 ?_
    refine z_getr (b := 58) fl_X7_329 rfl (by decide) rf_51_9 rfl dX7_standOfClaim_31 ?_
    refine z_iload_n dX7_standOfClaim_34 rfl ?_
    refine z_iald rfl (by decide) (by omega) (by omega) dX7_standOfClaim_35 (fun x5 hx5 bx5 => ?_)
    refine z_istore_n (loc2 := [fr 0, fi i, fi x4, fi x5, fu, fu, fu, fu]) dX7_standOfClaim_36 (by decide) rfl ?_
    have eh : x4 = M 57 i := by omega
    have em : x5 = M 58 i := by omega
    have hES := FES_of hRD hFE x4 (by omega) (by omega)
    refine z_aload_nr dX7_standOfClaim_37 rfl ?_
    refine z_getr (b := 20) fl_X7_33 rfl (by decide) rf_0_3 rfl dX7_standOfClaim_38 ?_
    refine z_getr (b := 33) fl_X7_261 rfl (by decide) rf_20_14 rfl dX7_standOfClaim_41 ?_
    refine z_iload_n dX7_standOfClaim_44 rfl ?_
    refine z_zald rfl (by decide) (by omega) (by omega) dX7_standOfClaim_45 (fun x6 hx6 bx6 => ?_)
    refine z_if_ne (tgt := 51) dX7_standOfClaim_46 (by decide) (fun c7 => ?_) (fun c7 => ?_)
    · have hE2 := hES.resolve_left (fun q => by omega)
      obtain ⟨va, hva⟩ : ∃ y, y = Mz3 59 i := ⟨_, rfl⟩
      have hvb : va = 0 ∨ va = 1 := by rw [hva]; exact mok_z hMx rfl i
      rw [← hva] at z8
      refine z_aload_nr dX7_standOfClaim_51 rfl ?_
      refine z_getr (b := 20) fl_X7_33 rfl (by decide) rf_0_3 rfl dX7_standOfClaim_52 ?_
      refine z_getr (b := 31) fl_X7_267 rfl (by decide) rf_20_12 rfl dX7_standOfClaim_55 ?_
      refine z_iload_n dX7_standOfClaim_58 rfl ?_
      refine z_iald rfl (by decide) (by omega) (by omega) dX7_standOfClaim_59 (fun x8 hx8 bx8 => ?_)
      refine z_iload_n dX7_standOfClaim_60 rfl ?_
      have J9 : ∀ b9 : Int, (b9 = 1 ∧ (x5 < x8)) ∨ (b9 = 0 ∧ ¬ (x5 < x8)) → Wa l g true fi_X7_standOfClaim 93 μ (Zi g true fi_X7_standOfClaim 93 μ (fun q M2 => OffX M M2 ∧ AClaim (SolT M 51 (M 1 13) (-1) (-1) (-1) 0) (M 57 i) (M 58 i) (M 59 i) q)) 69 ([fi b9]) [fr 0, fi i, fi x4, fi x5, fu, fu, fu, fu] 93 Mz3 := by
        intro b9 j9
        refine z_istore (loc2 := [fr 0, fi i, fi x4, fi x5, fi b9, fu, fu, fu]) dX7_standOfClaim_69 (by decide) rfl ?_
        refine z_aload_nr dX7_standOfClaim_71 rfl ?_
        refine z_getr (b := 20) fl_X7_33 rfl (by decide) rf_0_3 rfl dX7_standOfClaim_72 ?_
        refine z_getr (b := 32) fl_X7_264 rfl (by decide) rf_20_13 rfl dX7_standOfClaim_75 ?_
        refine z_iload_n dX7_standOfClaim_78 rfl ?_
        refine z_iald rfl (by decide) (by omega) (by omega) dX7_standOfClaim_79 (fun x10 hx10 bx10 => ?_)
        refine z_iload_n dX7_standOfClaim_80 rfl ?_
        have J11 : ∀ b11 : Int, (b11 = 1 ∧ (x10 < x5)) ∨ (b11 = 0 ∧ ¬ (x10 < x5)) → Wa l g true fi_X7_standOfClaim 93 μ (Zi g true fi_X7_standOfClaim 93 μ (fun q M2 => OffX M M2 ∧ AClaim (SolT M 51 (M 1 13) (-1) (-1) (-1) 0) (M 57 i) (M 58 i) (M 59 i) q)) 89 ([fi b11]) [fr 0, fi i, fi x4, fi x5, fi b9, fu, fu, fu] 93 Mz3 := by
          intro b11 j11
          refine z_istore (loc2 := [fr 0, fi i, fi x4, fi x5, fi b9, fi b11, fu, fu]) dX7_standOfClaim_89 (by decide) rfl ?_
          refine z_aload_nr dX7_standOfClaim_91 rfl ?_
          refine z_getr (b := 20) fl_X7_33 rfl (by decide) rf_0_3 rfl dX7_standOfClaim_92 ?_
          refine z_getr (b := 32) fl_X7_264 rfl (by decide) rf_20_13 rfl dX7_standOfClaim_95 ?_
          refine z_iload_n dX7_standOfClaim_98 rfl ?_
          refine z_iald rfl (by decide) (by omega) (by omega) dX7_standOfClaim_99 (fun x12 hx12 bx12 => ?_)
          refine z_iload_n dX7_standOfClaim_100 rfl ?_
          have J13 : ∀ b13 : Int, (b13 = 1 ∧ (x12 ≤ x5)) ∨ (b13 = 0 ∧ ¬ (x12 ≤ x5)) → Wa l g true fi_X7_standOfClaim 93 μ (Zi g true fi_X7_standOfClaim 93 μ (fun q M2 => OffX M M2 ∧ AClaim (SolT M 51 (M 1 13) (-1) (-1) (-1) 0) (M 57 i) (M 58 i) (M 59 i) q)) 109 ([fi b13]) [fr 0, fi i, fi x4, fi x5, fi b9, fi b11, fu, fu] 93 Mz3 := by
            intro b13 j13
            refine z_istore (loc2 := [fr 0, fi i, fi x4, fi x5, fi b9, fi b11, fi b13, fu]) dX7_standOfClaim_109 (by decide) rfl ?_
            refine z_aload_nr dX7_standOfClaim_111 rfl ?_
            refine z_getr (b := 20) fl_X7_33 rfl (by decide) rf_0_3 rfl dX7_standOfClaim_112 ?_
            refine z_getr (b := 31) fl_X7_267 rfl (by decide) rf_20_12 rfl dX7_standOfClaim_115 ?_
            refine z_iload_n dX7_standOfClaim_118 rfl ?_
            refine z_iald rfl (by decide) (by omega) (by omega) dX7_standOfClaim_119 (fun x14 hx14 bx14 => ?_)
            refine z_iload_n dX7_standOfClaim_120 rfl ?_
            have J15 : ∀ b15 : Int, (b15 = 1 ∧ (x5 ≤ x14)) ∨ (b15 = 0 ∧ ¬ (x5 ≤ x14)) → Wa l g true fi_X7_standOfClaim 93 μ (Zi g true fi_X7_standOfClaim 93 μ (fun q M2 => OffX M M2 ∧ AClaim (SolT M 51 (M 1 13) (-1) (-1) (-1) 0) (M 57 i) (M 58 i) (M 59 i) q)) 129 ([fi b15]) [fr 0, fi i, fi x4, fi x5, fi b9, fi b11, fi b13, fu] 93 Mz3 := by
              intro b15 j15
              refine z_istore (loc2 := [fr 0, fi i, fi x4, fi x5, fi b9, fi b11, fi b13, fi b15]) dX7_standOfClaim_129 (by decide) rfl ?_
              refine z_aload_nr dX7_standOfClaim_131 rfl ?_
              refine z_getv (b := 51) (kz := 6) fl_X7_54 rfl (by decide) rfl (fun _ => (RD_X hRD3 0 6 (by omega)).trans hT.2.2.1) dX7_standOfClaim_132 ?_
              refine z_getr (b := 59) fl_X7_332 rfl (by decide) rf_51_10 rfl dX7_standOfClaim_135 ?_
              refine z_iload_n dX7_standOfClaim_138 rfl ?_
              refine z_zald rfl (by decide) (by omega) (by omega) dX7_standOfClaim_139 (fun x16 hx16 bx16 => ?_)
              refine z_if_eq (tgt := 151) dX7_standOfClaim_140 (by decide) (fun c17 => ?_) (fun c17 => ?_)
              · refine z_iload dX7_standOfClaim_151 rfl ?_
                refine z_if_eq (tgt := 158) dX7_standOfClaim_153 (by decide) (fun c18 => ?_) (fun c18 => ?_)
                · refine z_aload_nr dX7_standOfClaim_158 rfl ?_
                  refine z_getv (b := 51) (kz := 6) fl_X7_54 rfl (by decide) rfl (fun _ => (RD_X hRD3 0 6 (by omega)).trans hT.2.2.1) dX7_standOfClaim_159 ?_
                  refine z_getr (b := 59) fl_X7_332 rfl (by decide) rf_51_10 rfl dX7_standOfClaim_162 ?_
                  refine z_iload_n dX7_standOfClaim_165 rfl ?_
                  refine z_zald rfl (by decide) (by omega) (by omega) dX7_standOfClaim_166 (fun x19 hx19 bx19 => ?_)
                  refine z_if_eq (tgt := 178) dX7_standOfClaim_167 (by decide) (fun c20 => ?_) (fun c20 => ?_)
                  · refine z_iload dX7_standOfClaim_178 rfl ?_
                    refine z_if_eq (tgt := 187) dX7_standOfClaim_180 (by decide) (fun c21 => ?_) (fun c21 => ?_)
                    · refine z_iconst dX7_standOfClaim_187 ⟨by decide, by decide⟩ ?_
                      refine z_iret rfl (by decide) rfl (Nat.sub_self _) dX7_standOfClaim_188 ?_
                      refine ⟨RD_X hRD3, Or.inr (Or.inr ⟨hfe, _, _, by rw [← eh]; exact hE2.2.1, ?_⟩)⟩
                      first | (exfalso; omega) | (rw [if_pos (by omega), if_neg (by omega), if_pos (by omega)]) | (rw [if_pos (by omega), if_neg (by omega), if_neg (by omega)]) | (rw [if_neg (by omega), if_neg (by omega), if_pos (by omega)]) | (rw [if_neg (by omega), if_neg (by omega), if_neg (by omega)]) | (exfalso; omega)
                    · refine z_iconst dX7_standOfClaim_183 ⟨by decide, by decide⟩ ?_
                      refine z_goto (tgt := 188) dX7_standOfClaim_184 (by decide) ?_
                      refine z_iret rfl (by decide) rfl (Nat.sub_self _) dX7_standOfClaim_188 ?_
                      refine ⟨RD_X hRD3, Or.inr (Or.inr ⟨hfe, _, _, by rw [← eh]; exact hE2.2.1, ?_⟩)⟩
                      first | (exfalso; omega) | (rw [if_pos (by omega), if_neg (by omega), if_pos (by omega)]) | (rw [if_pos (by omega), if_neg (by omega), if_neg (by omega)]) | (rw [if_neg (by omega), if_neg (by omega), if_pos (by omega)]) | (rw [if_neg (by omega), if_neg (by omega), if_neg (by omega)]) | (exfalso; omega)
                  · refine z_iload dX7_standOfClaim_170 rfl ?_
                    refine z_if_eq (tgt := 187) dX7_standOfClaim_172 (by decide) (fun c22 => ?_) (fun c22 => ?_)
                    · refine z_iconst dX7_standOfClaim_187 ⟨by decide, by decide⟩ ?_
                      refine z_iret rfl (by decide) rfl (Nat.sub_self _) dX7_standOfClaim_188 ?_
                      refine ⟨RD_X hRD3, Or.inr (Or.inr ⟨hfe, _, _, by rw [← eh]; exact hE2.2.1, ?_⟩)⟩
                      first | (exfalso; omega) | (rw [if_pos (by omega), if_neg (by omega), if_pos (by omega)]) | (rw [if_pos (by omega), if_neg (by omega), if_neg (by omega)]) | (rw [if_neg (by omega), if_neg (by omega), if_pos (by omega)]) | (rw [if_neg (by omega), if_neg (by omega), if_neg (by omega)]) | (exfalso; omega)
                    · refine z_goto (tgt := 183) dX7_standOfClaim_175 (by decide) ?_
                      refine z_iconst dX7_standOfClaim_183 ⟨by decide, by decide⟩ ?_
                      refine z_goto (tgt := 188) dX7_standOfClaim_184 (by decide) ?_
                      refine z_iret rfl (by decide) rfl (Nat.sub_self _) dX7_standOfClaim_188 ?_
                      refine ⟨RD_X hRD3, Or.inr (Or.inr ⟨hfe, _, _, by rw [← eh]; exact hE2.2.1, ?_⟩)⟩
                      first | (exfalso; omega) | (rw [if_pos (by omega), if_neg (by omega), if_pos (by omega)]) | (rw [if_pos (by omega), if_neg (by omega), if_neg (by omega)]) | (rw [if_neg (by omega), if_neg (by omega), if_pos (by omega)]) | (rw [if_neg (by omega), if_neg (by omega), if_neg (by omega)]) | (exfalso; omega)
                · refine z_iconst dX7_standOfClaim_156 ⟨by decide, by decide⟩ ?_
                  refine z_iret rfl (by decide) rfl (Nat.sub_self _) dX7_standOfClaim_157 ?_
                  refine ⟨RD_X hRD3, Or.inr (Or.inr ⟨hfe, _, _, by rw [← eh]; exact hE2.2.1, ?_⟩)⟩
                  first | (exfalso; omega) | (rw [if_pos (by omega), if_pos (by omega)]) | (rw [if_neg (by omega), if_pos (by omega)])
              · refine z_iload dX7_standOfClaim_143 rfl ?_
                refine z_if_eq (tgt := 158) dX7_standOfClaim_145 (by decide) (fun c23 => ?_) (fun c23 => ?_)
                · refine z_aload_nr dX7_standOfClaim_158 rfl ?_
                  refine z_getv (b := 51) (kz := 6) fl_X7_54 rfl (by decide) rfl (fun _ => (RD_X hRD3 0 6 (by omega)).trans hT.2.2.1) dX7_standOfClaim_159 ?_
                  refine z_getr (b := 59) fl_X7_332 rfl (by decide) rf_51_10 rfl dX7_standOfClaim_162 ?_
                  refine z_iload_n dX7_standOfClaim_165 rfl ?_
                  refine z_zald rfl (by decide) (by omega) (by omega) dX7_standOfClaim_166 (fun x24 hx24 bx24 => ?_)
                  refine z_if_eq (tgt := 178) dX7_standOfClaim_167 (by decide) (fun c25 => ?_) (fun c25 => ?_)
                  · refine z_iload dX7_standOfClaim_178 rfl ?_
                    refine z_if_eq (tgt := 187) dX7_standOfClaim_180 (by decide) (fun c26 => ?_) (fun c26 => ?_)
                    · refine z_iconst dX7_standOfClaim_187 ⟨by decide, by decide⟩ ?_
                      refine z_iret rfl (by decide) rfl (Nat.sub_self _) dX7_standOfClaim_188 ?_
                      refine ⟨RD_X hRD3, Or.inr (Or.inr ⟨hfe, _, _, by rw [← eh]; exact hE2.2.1, ?_⟩)⟩
                      first | (exfalso; omega) | (rw [if_pos (by omega), if_neg (by omega), if_pos (by omega)]) | (rw [if_pos (by omega), if_neg (by omega), if_neg (by omega)]) | (rw [if_neg (by omega), if_neg (by omega), if_pos (by omega)]) | (rw [if_neg (by omega), if_neg (by omega), if_neg (by omega)]) | (exfalso; omega)
                    · refine z_iconst dX7_standOfClaim_183 ⟨by decide, by decide⟩ ?_
                      refine z_goto (tgt := 188) dX7_standOfClaim_184 (by decide) ?_
                      refine z_iret rfl (by decide) rfl (Nat.sub_self _) dX7_standOfClaim_188 ?_
                      refine ⟨RD_X hRD3, Or.inr (Or.inr ⟨hfe, _, _, by rw [← eh]; exact hE2.2.1, ?_⟩)⟩
                      first | (exfalso; omega) | (rw [if_pos (by omega), if_neg (by omega), if_pos (by omega)]) | (rw [if_pos (by omega), if_neg (by omega), if_neg (by omega)]) | (rw [if_neg (by omega), if_neg (by omega), if_pos (by omega)]) | (rw [if_neg (by omega), if_neg (by omega), if_neg (by omega)]) | (exfalso; omega)
                  · refine z_iload dX7_standOfClaim_170 rfl ?_
                    refine z_if_eq (tgt := 187) dX7_standOfClaim_172 (by decide) (fun c27 => ?_) (fun c27 => ?_)
                    · refine z_iconst dX7_standOfClaim_187 ⟨by decide, by decide⟩ ?_
                      refine z_iret rfl (by decide) rfl (Nat.sub_self _) dX7_standOfClaim_188 ?_
                      refine ⟨RD_X hRD3, Or.inr (Or.inr ⟨hfe, _, _, by rw [← eh]; exact hE2.2.1, ?_⟩)⟩
                      first | (exfalso; omega) | (rw [if_pos (by omega), if_neg (by omega), if_pos (by omega)]) | (rw [if_pos (by omega), if_neg (by omega), if_neg (by omega)]) | (rw [if_neg (by omega), if_neg (by omega), if_pos (by omega)]) | (rw [if_neg (by omega), if_neg (by omega), if_neg (by omega)]) | (exfalso; omega)
                    · refine z_goto (tgt := 183) dX7_standOfClaim_175 (by decide) ?_
                      refine z_iconst dX7_standOfClaim_183 ⟨by decide, by decide⟩ ?_
                      refine z_goto (tgt := 188) dX7_standOfClaim_184 (by decide) ?_
                      refine z_iret rfl (by decide) rfl (Nat.sub_self _) dX7_standOfClaim_188 ?_
                      refine ⟨RD_X hRD3, Or.inr (Or.inr ⟨hfe, _, _, by rw [← eh]; exact hE2.2.1, ?_⟩)⟩
                      first | (exfalso; omega) | (rw [if_pos (by omega), if_neg (by omega), if_pos (by omega)]) | (rw [if_pos (by omega), if_neg (by omega), if_neg (by omega)]) | (rw [if_neg (by omega), if_neg (by omega), if_pos (by omega)]) | (rw [if_neg (by omega), if_neg (by omega), if_neg (by omega)]) | (exfalso; omega)
                · refine z_goto (tgt := 156) dX7_standOfClaim_148 (by decide) ?_
                  refine z_iconst dX7_standOfClaim_156 ⟨by decide, by decide⟩ ?_
                  refine z_iret rfl (by decide) rfl (Nat.sub_self _) dX7_standOfClaim_157 ?_
                  refine ⟨RD_X hRD3, Or.inr (Or.inr ⟨hfe, _, _, by rw [← eh]; exact hE2.2.1, ?_⟩)⟩
                  first | (exfalso; omega) | (rw [if_pos (by omega), if_pos (by omega)]) | (rw [if_neg (by omega), if_pos (by omega)])
            refine z_icmp_lt (tgt := 128) dX7_standOfClaim_121 (by decide) (fun c28 => ?_) (fun c28 => ?_)
            · refine z_iconst dX7_standOfClaim_128 ⟨by decide, by decide⟩ ?_
              first | exact J15 _ (Or.inl ⟨rfl, by omega⟩) | exact J15 _ (Or.inr ⟨rfl, by omega⟩)
            · refine z_iconst dX7_standOfClaim_124 ⟨by decide, by decide⟩ ?_
              refine z_goto (tgt := 129) dX7_standOfClaim_125 (by decide) ?_
              first | exact J15 _ (Or.inl ⟨rfl, by omega⟩) | exact J15 _ (Or.inr ⟨rfl, by omega⟩)
          refine z_icmp_gt (tgt := 108) dX7_standOfClaim_101 (by decide) (fun c29 => ?_) (fun c29 => ?_)
          · refine z_iconst dX7_standOfClaim_108 ⟨by decide, by decide⟩ ?_
            first | exact J13 _ (Or.inl ⟨rfl, by omega⟩) | exact J13 _ (Or.inr ⟨rfl, by omega⟩)
          · refine z_iconst dX7_standOfClaim_104 ⟨by decide, by decide⟩ ?_
            refine z_goto (tgt := 109) dX7_standOfClaim_105 (by decide) ?_
            first | exact J13 _ (Or.inl ⟨rfl, by omega⟩) | exact J13 _ (Or.inr ⟨rfl, by omega⟩)
        refine z_icmp_ge (tgt := 88) dX7_standOfClaim_81 (by decide) (fun c30 => ?_) (fun c30 => ?_)
        · refine z_iconst dX7_standOfClaim_88 ⟨by decide, by decide⟩ ?_
          first | exact J11 _ (Or.inl ⟨rfl, by omega⟩) | exact J11 _ (Or.inr ⟨rfl, by omega⟩)
        · refine z_iconst dX7_standOfClaim_84 ⟨by decide, by decide⟩ ?_
          refine z_goto (tgt := 89) dX7_standOfClaim_85 (by decide) ?_
          first | exact J11 _ (Or.inl ⟨rfl, by omega⟩) | exact J11 _ (Or.inr ⟨rfl, by omega⟩)
      refine z_icmp_le (tgt := 68) dX7_standOfClaim_61 (by decide) (fun c31 => ?_) (fun c31 => ?_)
      · refine z_iconst dX7_standOfClaim_68 ⟨by decide, by decide⟩ ?_
        first | exact J9 _ (Or.inl ⟨rfl, by omega⟩) | exact J9 _ (Or.inr ⟨rfl, by omega⟩)
      · refine z_iconst dX7_standOfClaim_64 ⟨by decide, by decide⟩ ?_
        refine z_goto (tgt := 69) dX7_standOfClaim_65 (by decide) ?_
        first | exact J9 _ (Or.inl ⟨rfl, by omega⟩) | exact J9 _ (Or.inr ⟨rfl, by omega⟩)
    · refine z_iconst dX7_standOfClaim_49 ⟨by decide, by decide⟩ ?_
      refine z_iret rfl (by decide) rfl (Nat.sub_self _) dX7_standOfClaim_50 ?_
      refine ⟨RD_X hRD3, Or.inr (Or.inl ⟨hfe, ?_, rfl⟩)⟩
      rw [← eh]
      rcases hES with q | q
      · exact q.2
      · omega
  · refine z_ldc (c := -1000005) cn_X7_222 ⟨by decide, by decide⟩ dX7_standOfClaim_7 ?_
    refine z_iret rfl (by decide) rfl (Nat.sub_self _) dX7_standOfClaim_9 ?_
    refine ⟨RD_X hRD, Or.inl ⟨?_, rfl⟩⟩
    rcases hqq with q | q
    · omega
    · exact q.2
