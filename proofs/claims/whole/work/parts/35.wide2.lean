/-- the first home below n with P, or -1 -/
def FstH (P : Int → Prop) (n r : Int) : Prop := (r = -1 ∧ ∀ h, 0 ≤ h → h < n → ¬ P h) ∨ ((0 ≤ r ∧ r < n) ∧ P r ∧ ∀ h, 0 ≤ h → h < r → ¬ P h)
theorem FstH_eq {P : Int → Prop} {n r r2 : Int} (a : FstH P n r) (b : FstH P n r2) : r = r2 := by
  rcases a with a | a <;> rcases b with b | b
  · omega
  · exact absurd b.2.1 (a.2 _ b.1.1 b.1.2)
  · exact absurd a.2.1 (b.2 _ a.1.1 a.1.2)
  · by_cases h : r < r2
    · exact absurd a.2.1 (b.2.2 _ a.1.1 h)
    · by_cases h2 : r2 < r
      · exact absurd b.2.1 (a.2.2 _ b.1.1 h2)
      · omega
theorem BoxNo_speak {S : (Int → Int) → Prop} {red : Int → Int} {own b h lo up : Int} (hs : SpkE S red h lo up) : BoxNo S red own b h ↔ ¬ (b * farL lo / 1000 - own ≤ red h ∧ red h ≤ -((-(b * farU up)) / 1000) + own) := by
  constructor
  · rintro ⟨l2, u2, h1, h2⟩
    have := Ends2_eq hs.2.1 h1.2.1
    rw [this.1, this.2]
    exact h2
  · exact fun q => ⟨lo, up, hs, q⟩
def FstK (P : Int → Prop) (n r : Int) : Prop := (r = -1 ∧ ∀ h, 1 ≤ h → h < n → ¬ P h) ∨ ((1 ≤ r ∧ r < n) ∧ P r ∧ ∀ h, 1 ≤ h → h < r → ¬ P h)
def LstK (P : Int → Prop) (n r : Int) : Prop := (r = -1 ∧ ∀ h, 1 ≤ h → h < n → ¬ P h) ∨ ((1 ≤ r ∧ r < n) ∧ P r ∧ ∀ h, r < h → h < n → ¬ P h)
theorem FstK_eq {P : Int → Prop} {n r r2 : Int} (a : FstK P n r) (b : FstK P n r2) : r = r2 := by
  rcases a with a | a <;> rcases b with b | b
  · omega
  · exact absurd b.2.1 (a.2 _ b.1.1 b.1.2)
  · exact absurd a.2.1 (b.2 _ a.1.1 a.1.2)
  · by_cases h : r < r2
    · exact absurd a.2.1 (b.2.2 _ a.1.1 h)
    · by_cases h2 : r2 < r
      · exact absurd b.2.1 (a.2.2 _ b.1.1 h2)
      · omega
theorem LstK_eq {P : Int → Prop} {n r r2 : Int} (a : LstK P n r) (b : LstK P n r2) : r = r2 := by
  rcases a with a | a <;> rcases b with b | b
  · omega
  · exact absurd b.2.1 (a.2 _ b.1.1 b.1.2)
  · exact absurd a.2.1 (b.2 _ a.1.1 a.1.2)
  · by_cases h : r < r2
    · exact absurd b.2.1 (a.2.2 _ h b.1.2)
    · by_cases h2 : r2 < r
      · exact absurd a.2.1 (b.2.2 _ h2 a.1.2)
      · omega
/-- the boxes that are kept below n : how many, the least, the greatest -/
def KeptB (P : Int → Prop) (n c lo hi : Int) : Prop := c = sumI (fun i => c01 (P (i + 1))) (n - 1) ∧ FstK P n lo ∧ LstK P n hi
theorem KeptB_no {P : Int → Prop} {n c lo hi : Int} (h1 : 1 ≤ n) (h : KeptB P n c lo hi) (hp : ¬ P n) : KeptB P (n + 1) c lo hi := by
  refine ⟨?_, ?_, ?_⟩
  · have := sumI_succ (f := fun i => c01 (P (i + 1))) (n := n - 1) (by omega)
    simp only [show n - 1 + 1 = n by omega] at this
    have z : c01 (P n) = 0 := c01_f hp
    have h0 := h.1
    rw [show n + 1 - 1 = n by omega, this]
    omega
  · rcases h.2.1 with q | q
    · left
      refine ⟨q.1, fun v v0 v1 => ?_⟩
      by_cases e : v = n
      · rw [e]; exact hp
      · exact q.2 v v0 (by omega)
    · exact Or.inr ⟨by omega, q.2⟩
  · rcases h.2.2 with q | q
    · left
      refine ⟨q.1, fun v v0 v1 => ?_⟩
      by_cases e : v = n
      · rw [e]; exact hp
      · exact q.2 v v0 (by omega)
    · right
      refine ⟨by omega, q.2.1, fun v v0 v1 => ?_⟩
      by_cases e : v = n
      · rw [e]; exact hp
      · exact q.2.2 v v0 (by omega)
theorem KeptB_yes {P : Int → Prop} {n c lo hi lo2 : Int} (h1 : 1 ≤ n) (h : KeptB P n c lo hi) (hp : P n) (hl : (lo = -1 ∧ lo2 = n) ∨ (lo ≠ -1 ∧ lo2 = lo)) : KeptB P (n + 1) (c + 1) lo2 n := by
  refine ⟨?_, ?_, ?_⟩
  · have := sumI_succ (f := fun i => c01 (P (i + 1))) (n := n - 1) (by omega)
    simp only [show n - 1 + 1 = n by omega] at this
    have z : c01 (P n) = 1 := c01_t hp
    have h0 := h.1
    rw [show n + 1 - 1 = n by omega, this]
    omega
  · right
    rcases h.2.1 with q | q
    · have e : lo2 = n := by omega
      rw [e]
      exact ⟨by omega, hp, q.2⟩
    · have e : lo2 = lo := by omega
      rw [e]
      exact ⟨by omega, q.2⟩
  · exact Or.inr ⟨by omega, hp, fun v v0 v1 => by omega⟩
set_option maxHeartbeats 400000 in
theorem A_X6_firstAgainst (l : Launch) (g : Cx) (M : FMem) (b : Int) (hb : 1 ≤ b ∧ b ≤ 200) (S : (Int → Int) → Prop) (ow : Int) (hw : 0 ≤ ow ∧ ow ≤ 9999) (hf : Feas S) (hH : HearS S (fun h => M 38 h) ow M) : AMi l g true fi_X6_firstAgainst [fr 37, fi b] 93 M (fun r M2 => M2 = M ∧ (fun r => FstH (BoxNo S (fun h => M 38 h) ow b) 10 r) r) := by
  refine AMi_intro [fr 37, fi b, fu] (by decide) (knall rfl) (Nat.le_of_ble_eq_true rfl) rfl ?_
  intro hNV hM0 μ
  have bb : N32 b := hNV (fi b) (by simp)
  have lp2 : ∀ (kq : Nat) (h : Int), (10 - h).toNat = kq → (0 ≤ h ∧ h ≤ 10) → (∀ v, 0 ≤ v → v < h → ¬ BoxNo S (fun h => M 38 h) ow b v) → Wa l g true fi_X6_firstAgainst 93 μ (Zi g true fi_X6_firstAgainst 93 μ (fun r M2 => M2 = M ∧ (fun r => FstH (BoxNo S (fun h => M 38 h) ow b) 10 r) r)) 2 [] [fr 37, fi b, fi h] 93 M := by
    intro kq
    induction kq using Nat.strongRecOn with
    | _ kq ih2 =>
    intro h hk2 h0 h1
    refine z_iload_n dX6_firstAgainst_2 rfl ?_
    refine z_bipush dX6_firstAgainst_3 ⟨by decide, by decide⟩ (by decide) ?_
    refine z_icmp_ge (tgt := 34) dX6_firstAgainst_5 (by decide) (fun c1 => ?_) (fun c1 => ?_)
    · refine z_iconst dX6_firstAgainst_34 ⟨by decide, by decide⟩ ?_
      refine z_iret rfl (by decide) rfl (Nat.sub_self _) dX6_firstAgainst_35 ?_
      refine ⟨rfl, Or.inl ⟨rfl, fun v v0 v1 => h1 v v0 (by omega)⟩⟩
    · refine z_aload_nr dX6_firstAgainst_8 rfl ?_
      refine z_getr (b := 39) fl_X6_15 rfl (by decide) rf_37_1 rfl dX6_firstAgainst_9 ?_
      refine z_iload_n dX6_firstAgainst_12 rfl ?_
      refine z_zald rfl (by decide) (by omega) (by omega) dX6_firstAgainst_13 (fun x2 hx2 bx2 => ?_)
      refine z_if_eq (tgt := 28) dX6_firstAgainst_14 (by decide) (fun c3 => ?_) (fun c3 => ?_)
      · refine z_iinc (loc2 := fun vq => [fr 37, fi b, fi vq]) dX6_firstAgainst_28 rfl (by decide) (by omega) (fun _ => rfl) (fun x4 hx4 => ?_)
        refine z_goto (tgt := 2) dX6_firstAgainst_31 (by decide) ?_
        have hno : ¬ BoxNo S (fun h => M 38 h) ow b h := by
          rcases hH.2 h h0.1 (by omega) with q | ⟨q, lo, up, q2, -⟩
          · rintro ⟨lo, up, z, -⟩
            exact q.2 ⟨lo, up, z⟩
          · first
            | (exfalso; omega)
            | (rw [BoxNo_speak hsp]; intro z; rw [if_neg z] at hcw; omega)
        exact ih2 _ (by omega) x4 rfl (by omega) (by rw [hx4]; intro v v0 v1; by_cases e : v = h; (rw [e]; exact hno); exact h1 v v0 (by omega))
      · obtain ⟨-, lo, up, hsp, hlu, ea, eb⟩ := (hH.2 h h0.1 (by omega)).resolve_left (fun z => by omega)
        have hsp2 := hsp.2.2
        refine z_aload_nr dX6_firstAgainst_17 rfl ?_
        refine z_iload_n dX6_firstAgainst_18 rfl ?_
        refine z_iload_n dX6_firstAgainst_19 rfl ?_
        refine z_callVip (n2 := 93) (A_X6_couldHave l g M h b (S) _ _ _ (by omega) (by omega) (by omega) (by omega) (ea) (eb) (hH.1) (hw)) cb_X6_couldHave cl_X6_67 (clr0 rfl rfl (by decide) (by decide)) rfl (by decide) ⟨_, rfl, rfl⟩ rfl (by decide) rfl (Nat.le_of_ble_eq_true rfl) rfl dX6_firstAgainst_20 (fun x5 bx5 hx5 => ?_)
        have i5 := if01 hx5
        have hcw := hx5
        refine z_if_ne (tgt := 28) dX6_firstAgainst_23 (by decide) (fun c6 => ?_) (fun c6 => ?_)
        · refine z_iinc (loc2 := fun vq => [fr 37, fi b, fi vq]) dX6_firstAgainst_28 rfl (by decide) (by omega) (fun _ => rfl) (fun x7 hx7 => ?_)
          refine z_goto (tgt := 2) dX6_firstAgainst_31 (by decide) ?_
          have hno : ¬ BoxNo S (fun h => M 38 h) ow b h := by
            rcases hH.2 h h0.1 (by omega) with q | ⟨q, lo, up, q2, -⟩
            · rintro ⟨lo, up, z, -⟩
              exact q.2 ⟨lo, up, z⟩
            · first
              | (exfalso; omega)
              | (rw [BoxNo_speak hsp]; intro z; rw [if_neg z] at hcw; omega)
          exact ih2 _ (by omega) x7 rfl (by omega) (by rw [hx7]; intro v v0 v1; by_cases e : v = h; (rw [e]; exact hno); exact h1 v v0 (by omega))
        · refine z_iload_n dX6_firstAgainst_26 rfl ?_
          refine z_iret rfl (by decide) rfl (Nat.sub_self _) dX6_firstAgainst_27 ?_
          refine ⟨rfl, Or.inr ⟨by omega, (BoxNo_speak hsp).2 ?_, h1⟩⟩
          intro z
          rw [if_pos z] at hcw
          omega
  refine z_iconst dX6_firstAgainst_0 ⟨by decide, by decide⟩ ?_
  refine z_istore_n (loc2 := [fr 37, fi b, fi 0]) dX6_firstAgainst_1 (by decide) rfl ?_
  exact lp2 _ 0 rfl (by omega) (fun v _ z => by omega)
set_option maxHeartbeats 400000 in
theorem A_X6_keptBoxes (l : Launch) (g : Cx) (M : FMem) (what : Int) (S : (Int → Int) → Prop) (ow : Int) (hw : 0 ≤ ow ∧ ow ≤ 9999) (hf : Feas S) (hH : HearS S (fun h => M 38 h) ow M) : AMi l g true fi_X6_keptBoxes [fr 37, fi what] 93 M (fun r M2 => M2 = M ∧ (fun r => ∃ c lo hi, KeptB (fun b => ∀ h, 0 ≤ h → h < 10 → ¬ BoxNo S (fun h => M 38 h) ow b h) 201 c lo hi ∧ r = if what = 0 then c else if what = 1 then lo else hi) r) := by
  refine AMi_intro [fr 37, fi what, fu, fu, fu, fu] (by decide) (knall rfl) (Nat.le_of_ble_eq_true rfl) rfl ?_
  intro hNV hM0 μ
  have bwhat : N32 what := hNV (fi what) (by simp)
  have lp10 : ∀ (kq : Nat) (c lo hi b : Int), (201 - b).toNat = kq → (1 ≤ b ∧ b ≤ 201) → (KeptB (fun b => ∀ h, 0 ≤ h → h < 10 → ¬ BoxNo S (fun h => M 38 h) ow b h) b c lo hi) → (0 ≤ c ∧ c < b) → (-1 ≤ lo ∧ lo < b ∧ -1 ≤ hi ∧ hi < b) → Wa l g true fi_X6_keptBoxes 93 μ (Zi g true fi_X6_keptBoxes 93 μ (fun r M2 => M2 = M ∧ (fun r => ∃ c lo hi, KeptB (fun b => ∀ h, 0 ≤ h → h < 10 → ¬ BoxNo S (fun h => M 38 h) ow b h) 201 c lo hi ∧ r = if what = 0 then c else if what = 1 then lo else hi) r)) 10 [] [fr 37, fi what, fi c, fi lo, fi hi, fi b] 93 M := by
    intro kq
    induction kq using Nat.strongRecOn with
    | _ kq ih10 =>
    intro c lo hi b hk10 h0 h1 h2 h3
    refine z_iload dX6_keptBoxes_10 rfl ?_
    refine z_sipush dX6_keptBoxes_12 ⟨by decide, by decide⟩ (by decide) ?_
    refine z_icmp_gt (tgt := 53) dX6_keptBoxes_15 (by decide) (fun c1 => ?_) (fun c1 => ?_)
    · refine z_iload_n dX6_keptBoxes_53 rfl ?_
      refine z_if_ne (tgt := 59) dX6_keptBoxes_54 (by decide) (fun c2 => ?_) (fun c2 => ?_)
      · refine z_iload_n dX6_keptBoxes_59 rfl ?_
        refine z_iconst dX6_keptBoxes_60 ⟨by decide, by decide⟩ ?_
        refine z_icmp_ne (tgt := 68) dX6_keptBoxes_61 (by decide) (fun c3 => ?_) (fun c3 => ?_)
        · refine z_iload dX6_keptBoxes_68 rfl ?_
          refine z_iret rfl (by decide) rfl (Nat.sub_self _) dX6_keptBoxes_70 ?_
          refine ⟨rfl, c, lo, hi, by rw [← show b = 201 by omega]; exact h1, ?_⟩
          rw [if_neg (by omega)]
          first | (rw [if_pos (by omega)]) | (rw [if_neg (by omega)])
        · refine z_iload_n dX6_keptBoxes_64 rfl ?_
          refine z_goto (tgt := 70) dX6_keptBoxes_65 (by decide) ?_
          refine z_iret rfl (by decide) rfl (Nat.sub_self _) dX6_keptBoxes_70 ?_
          refine ⟨rfl, c, lo, hi, by rw [← show b = 201 by omega]; exact h1, ?_⟩
          rw [if_neg (by omega)]
          first | (rw [if_pos (by omega)]) | (rw [if_neg (by omega)])
      · refine z_iload_n dX6_keptBoxes_57 rfl ?_
        refine z_iret rfl (by decide) rfl (Nat.sub_self _) dX6_keptBoxes_58 ?_
        refine ⟨rfl, c, lo, hi, by rw [← show b = 201 by omega]; exact h1, ?_⟩
        rw [if_pos (by omega)]
    · refine z_aload_nr dX6_keptBoxes_18 rfl ?_
      refine z_iload dX6_keptBoxes_19 rfl ?_
      refine z_callVip (n2 := 93) (A_X6_firstAgainst l g M b (by omega) (S) _ (hw) (hf) (hH)) cb_X6_firstAgainst cl_X6_63 (clr0 rfl rfl (by decide) (by decide)) rfl (by decide) ⟨_, rfl, rfl⟩ rfl (by decide) rfl (Nat.le_of_ble_eq_true rfl) rfl dX6_keptBoxes_21 (fun x4 bx4 hx4 => ?_)
      have hcf := hx4
      refine z_iconst dX6_keptBoxes_24 ⟨by decide, by decide⟩ ?_
      refine z_icmp_ne (tgt := 47) dX6_keptBoxes_25 (by decide) (fun c5 => ?_) (fun c5 => ?_)
      · refine z_iinc (loc2 := fun vq => [fr 37, fi what, fi c, fi lo, fi hi, fi vq]) dX6_keptBoxes_47 rfl (by decide) (by omega) (fun _ => rfl) (fun x6 hx6 => ?_)
        refine z_goto (tgt := 10) dX6_keptBoxes_50 (by decide) ?_
        have hk : KeptB (fun b => ∀ h, 0 ≤ h → h < 10 → ¬ BoxNo S (fun h => M 38 h) ow b h) (b + 1) c lo hi := by
          rcases hcf with q | q
          · first
            | (exfalso; omega)
            | (have e2 : c = c + 1 := by omega
               have e4 : hi = b := by omega
               rw [e2, e4]
               exact KeptB_yes h0.1 h1 q.2 (by omega))
          · first
            | (exfalso; omega)
            | exact KeptB_no h0.1 h1 (fun z => z _ q.1.1 q.1.2 q.2.1)
        exact ih10 _ (by omega) c lo hi x6 rfl (by omega) (by rw [hx6]; exact hk) (by omega) (by omega)
      · refine z_iinc (loc2 := fun vq => [fr 37, fi what, fi vq, fi lo, fi hi, fi b]) dX6_keptBoxes_28 rfl (by decide) (by omega) (fun _ => rfl) (fun x7 hx7 => ?_)
        refine z_iload dX6_keptBoxes_31 rfl ?_
        refine z_istore (loc2 := [fr 37, fi what, fi x7, fi lo, fi b, fi b]) dX6_keptBoxes_33 (by decide) rfl ?_
        refine z_iload_n dX6_keptBoxes_35 rfl ?_
        refine z_iconst dX6_keptBoxes_36 ⟨by decide, by decide⟩ ?_
        refine z_icmp_ne (tgt := 45) dX6_keptBoxes_37 (by decide) (fun c8 => ?_) (fun c8 => ?_)
        · refine z_iload_n dX6_keptBoxes_45 rfl ?_
          refine z_istore_n (loc2 := [fr 37, fi what, fi x7, fi lo, fi b, fi b]) dX6_keptBoxes_46 (by decide) rfl ?_
          refine z_iinc (loc2 := fun vq => [fr 37, fi what, fi x7, fi lo, fi b, fi vq]) dX6_keptBoxes_47 rfl (by decide) (by omega) (fun _ => rfl) (fun x9 hx9 => ?_)
          refine z_goto (tgt := 10) dX6_keptBoxes_50 (by decide) ?_
          have hk : KeptB (fun b => ∀ h, 0 ≤ h → h < 10 → ¬ BoxNo S (fun h => M 38 h) ow b h) (b + 1) x7 lo b := by
            rcases hcf with q | q
            · first
              | (exfalso; omega)
              | (have e2 : x7 = c + 1 := by omega
                 have e4 : b = b := by omega
                 rw [e2, e4]
                 exact KeptB_yes h0.1 h1 q.2 (by omega))
            · first
              | (exfalso; omega)
              | exact KeptB_no h0.1 h1 (fun z => z _ q.1.1 q.1.2 q.2.1)
          exact ih10 _ (by omega) x7 lo b x9 rfl (by omega) (by rw [hx9]; exact hk) (by omega) (by omega)
        · refine z_iload dX6_keptBoxes_40 rfl ?_
          refine z_goto (tgt := 46) dX6_keptBoxes_42 (by decide) ?_
          refine z_istore_n (loc2 := [fr 37, fi what, fi x7, fi b, fi b, fi b]) dX6_keptBoxes_46 (by decide) rfl ?_
          refine z_iinc (loc2 := fun vq => [fr 37, fi what, fi x7, fi b, fi b, fi vq]) dX6_keptBoxes_47 rfl (by decide) (by omega) (fun _ => rfl) (fun x10 hx10 => ?_)
          refine z_goto (tgt := 10) dX6_keptBoxes_50 (by decide) ?_
          have hk : KeptB (fun b => ∀ h, 0 ≤ h → h < 10 → ¬ BoxNo S (fun h => M 38 h) ow b h) (b + 1) x7 b b := by
            rcases hcf with q | q
            · first
              | (exfalso; omega)
              | (have e2 : x7 = c + 1 := by omega
                 have e4 : b = b := by omega
                 rw [e2, e4]
                 exact KeptB_yes h0.1 h1 q.2 (by omega))
            · first
              | (exfalso; omega)
              | exact KeptB_no h0.1 h1 (fun z => z _ q.1.1 q.1.2 q.2.1)
          exact ih10 _ (by omega) x7 b b x10 rfl (by omega) (by rw [hx10]; exact hk) (by omega) (by omega)
  refine z_iconst dX6_keptBoxes_0 ⟨by decide, by decide⟩ ?_
  refine z_istore_n (loc2 := [fr 37, fi what, fi 0, fu, fu, fu]) dX6_keptBoxes_1 (by decide) rfl ?_
  refine z_iconst dX6_keptBoxes_2 ⟨by decide, by decide⟩ ?_
  refine z_istore_n (loc2 := [fr 37, fi what, fi 0, fi (-1), fu, fu]) dX6_keptBoxes_3 (by decide) rfl ?_
  refine z_iconst dX6_keptBoxes_4 ⟨by decide, by decide⟩ ?_
  refine z_istore (loc2 := [fr 37, fi what, fi 0, fi (-1), fi (-1), fu]) dX6_keptBoxes_5 (by decide) rfl ?_
  refine z_iconst dX6_keptBoxes_7 ⟨by decide, by decide⟩ ?_
  refine z_istore (loc2 := [fr 37, fi what, fi 0, fi (-1), fi (-1), fi 1]) dX6_keptBoxes_8 (by decide) rfl ?_
  exact lp10 _ 0 (-1) (-1) 1 rfl (by omega) (⟨rfl, Or.inl ⟨rfl, fun v _ z => by omega⟩, Or.inl ⟨rfl, fun v _ z => by omega⟩⟩) (by omega) (by omega)
