/-! ===== the reference: odd ===== -/
theorem SolR_sym {M : FMem} {k li a b w : Int} : SolR M k li a b w = SolR M k li b a w := by
  funext x
  apply propext
  constructor <;> intro h i i0 i1 i2 <;> exact h i i0 i1 ⟨i2.1, i2.2.1, i2.2.2.1, i2.2.2.2.2.1, i2.2.2.2.1, i2.2.2.2.2.2⟩
theorem ring_hit {M M' M2 : FMem} {lv a b : Int} (hT : MT0 M) (hof : OffM M M') (hw : M' 60 45 = 0) (hR : RngM M' lv M2) (hf : Feas (SolR M (M 60 0) (-1) a b 0)) : ∃ k, 0 ≤ k ∧ k < M2 91 lv ∧ (M2 90 (17 * lv + k) = a ∨ M2 90 (17 * lv + k) = b) := by
  obtain ⟨x, hx⟩ := hf
  apply Classical.byContradiction
  intro hno
  refine hR.2.2 (fun q => x (un q)) (fun k k0 k1 => ?_)
  have hin := (hR.2.1 k k0 k1).2
  have hb := (hR.2.1 k k0 k1).1
  have q0 : M' 60 0 = M 60 0 := OffM_o hof (by decide)
  have hna : M2 90 (17 * lv + k) ≠ a := fun z => hno ⟨k, k0, k1, Or.inl z⟩
  have hnb : M2 90 (17 * lv + k) ≠ b := fun z => hno ⟨k, k0, k1, Or.inr z⟩
  generalize M2 90 (17 * lv + k) = e at *
  rw [q0] at hb hin
  have ht := hT.2.1 e hb.1 hb.2
  unfold TelM TelOk at ht
  unfold inM at hin
  rw [OffM_c hof (b := 70) (by decide), OffM_c hof (b := 69) (by decide), OffM_c hof (b := 62) (by decide)] at hin
  have hs := hx e hb.1 hb.2 ⟨hb.2, hin.2.1, hin.2.2.1, hna, hnb, by omega⟩
  unfold TK1
  rw [hw, (lowM_off hof e).1, (lowM_off hof e).2]
  have eu : upM M' e = upM M e := by unfold upM; rw [OffM_c hof (b := 61) (by decide), OffM_c hof (b := 64) (by decide)]
  have el : loM M' e = loM M e := by unfold loM; rw [OffM_c hof (b := 61) (by decide), OffM_c hof (b := 63) (by decide)]
  rw [eu, el]
  exact hs
/-- the least single so far -/
def Od1 (P : Int → Prop) (om oc : Int) : Prop := (om = -1 ∧ ∀ a, ¬ P a) ∨ (om = 1 ∧ P oc ∧ ∀ a, P a → oc ≤ a)
/-- the least pair so far, by its code -/
def Od2 (P : Int → Int → Prop) (om oc : Int) : Prop := (om = -1 ∧ ∀ a b, ¬ P a b) ∨ (om = 2 ∧ (∃ a b, P a b ∧ oc = 100 * a + b) ∧ ∀ a b, P a b → oc ≤ 100 * a + b)
def noteM (many code : Int) (M : FMem) : FMem := if M 60 51 < 0 ∨ code < M 60 52 then st (st M 60 51 many) 60 52 code else M
theorem noteM_v (many code : Int) (M : FMem) : (noteM many code M 60 51 = if M 60 51 < 0 ∨ code < M 60 52 then many else M 60 51) ∧ (noteM many code M 60 52 = if M 60 51 < 0 ∨ code < M 60 52 then code else M 60 52) ∧ ∀ b j, ¬ (b = 60 ∧ (j = 51 ∨ j = 52)) → noteM many code M b j = M b j := by
  unfold noteM
  split
  · refine ⟨by simp [st], by simp [st], fun b j q => ?_⟩
    unfold st
    rw [if_neg (fun z => q ⟨z.1, Or.inr z.2⟩), if_neg (fun z => q ⟨z.1, Or.inl z.2⟩)]
  · exact ⟨rfl, rfl, fun _ _ _ => rfl⟩
theorem Od1_cg {P Q : Int → Prop} {om oc : Int} (h : Od1 P om oc) (e : ∀ a, P a ↔ Q a) : Od1 Q om oc := by
  rcases h with ⟨a, b⟩ | ⟨a, b, c⟩
  · exact Or.inl ⟨a, fun x hx => b x ((e x).mpr hx)⟩
  · exact Or.inr ⟨a, (e _).mp b, fun x hx => c x ((e x).mpr hx)⟩
theorem Od1_add {P : Int → Prop} {om oc om2 oc2 v : Int} (h : Od1 P om oc) (h1 : om2 = if om < 0 ∨ v < oc then 1 else om) (h2 : oc2 = if om < 0 ∨ v < oc then v else oc) : Od1 (fun a => P a ∨ a = v) om2 oc2 := by
  rcases h with ⟨a, b⟩ | ⟨a, b, c⟩
  · rw [if_pos (by omega)] at h1 h2
    rw [h1, h2]
    exact Or.inr ⟨rfl, Or.inr rfl, fun x hx => by rcases hx with z | z; exact absurd z (b x); omega⟩
  · by_cases e : v < oc
    · rw [if_pos (by omega)] at h1 h2
      rw [h1, h2]
      exact Or.inr ⟨rfl, Or.inr rfl, fun x hx => by rcases hx with z | z; (have := c x z; omega); omega⟩
    · rw [if_neg (by omega)] at h1 h2
      rw [h1, h2]
      exact Or.inr ⟨a, Or.inl b, fun x hx => by rcases hx with z | z; exact c x z; omega⟩
theorem Od2_cg {P Q : Int → Int → Prop} {om oc : Int} (h : Od2 P om oc) (e : ∀ a b, P a b ↔ Q a b) : Od2 Q om oc := by
  rcases h with ⟨a, b⟩ | ⟨a, ⟨c, d, f, g⟩, k⟩
  · exact Or.inl ⟨a, fun x y hx => b x y ((e x y).mpr hx)⟩
  · exact Or.inr ⟨a, ⟨c, d, (e _ _).mp f, g⟩, fun x y hx => k x y ((e x y).mpr hx)⟩
theorem Od2_add {P : Int → Int → Prop} {om oc om2 oc2 u v : Int} (h : Od2 P om oc) (h1 : om2 = if om < 0 ∨ 100 * u + v < oc then 2 else om) (h2 : oc2 = if om < 0 ∨ 100 * u + v < oc then 100 * u + v else oc) : Od2 (fun a b => P a b ∨ (a = u ∧ b = v)) om2 oc2 := by
  rcases h with ⟨a, b⟩ | ⟨a, b, c⟩
  · rw [if_pos (by omega)] at h1 h2
    rw [h1, h2]
    refine Or.inr ⟨rfl, ⟨u, v, Or.inr ⟨rfl, rfl⟩, rfl⟩, fun x y hx => ?_⟩
    rcases hx with z | z
    · exact absurd z (b x y)
    · rw [z.1, z.2]; exact Int.le_refl _
  · by_cases e : 100 * u + v < oc
    · rw [if_pos (by omega)] at h1 h2
      rw [h1, h2]
      refine Or.inr ⟨rfl, ⟨u, v, Or.inr ⟨rfl, rfl⟩, rfl⟩, fun x y hx => ?_⟩
      rcases hx with z | z
      · have := c x y z; omega
      · rw [z.1, z.2]; exact Int.le_refl _
    · rw [if_neg (by omega)] at h1 h2
      rw [h1, h2]
      obtain ⟨p, q, b1, b2⟩ := b
      refine Or.inr ⟨a, ⟨p, q, Or.inl b1, b2⟩, fun x y hx => ?_⟩
      rcases hx with z | z
      · exact c x y z
      · rw [z.1, z.2]; omega
def SP (a b c d : Int) : Prop := (c = a ∧ d = b ∧ a < b) ∨ (c = b ∧ d = a ∧ b < a)
set_option maxHeartbeats 400000 in
theorem A_X8_note (l : Launch) (g : Cx) (M : FMem) (many a b : Int) (hm : (many = 1 ∧ b = -1) ∨ (many = 2 ∧ 0 ≤ b ∧ b < 80)) (ha : 0 ≤ a ∧ a < 80) : AMv l g true fi_X8_note [fr 60, fi many, fi a, fi b] 93 M (fun M2 => M2 = noteM many (if many = 1 then a else if a < b then 100 * a + b else 100 * b + a) M) := by
  refine AMv_intro [fr 60, fi many, fi a, fi b, fu] (by decide) (knall rfl) (Nat.le_of_ble_eq_true rfl) rfl ?_
  intro hNV hM0 μ
  have bmany : N32 many := hNV (fi many) (by simp)
  have ba : N32 a := hNV (fi a) (by simp)
  have bb : N32 b := hNV (fi b) (by simp)
  refine z_iload_n dX8_note_0 rfl ?_
  refine z_iconst dX8_note_1 ⟨by decide, by decide⟩ ?_
  refine z_icmp_ne (tgt := 9) dX8_note_2 (by decide) (fun c1 => ?_) (fun c1 => ?_)
  · refine z_iload_n dX8_note_9 rfl ?_
    refine z_iload_n dX8_note_10 rfl ?_
    refine z_icmp_ge (tgt := 23) dX8_note_11 (by decide) (fun c2 => ?_) (fun c2 => ?_)
    · refine z_bipush dX8_note_23 ⟨by decide, by decide⟩ (by decide) ?_
      refine z_iload_n dX8_note_25 rfl ?_
      first | refine z_imulN dX8_note_26 (by omega) (fun x3 hx3 => ?_) | refine z_imul dX8_note_26 (fun x3 hx3 => ?_)
      refine z_iload_n dX8_note_27 rfl ?_
      first | refine z_iaddN dX8_note_28 (by omega) (fun x4 hx4 => ?_) | refine z_iadd dX8_note_28 (fun x4 hx4 => ?_)
      have hcd : x4 = (if many = 1 then a else if a < b then 100 * a + b else 100 * b + a) := by
        first
        | rw [if_pos (by omega)]
        | (rw [if_neg (by omega), if_pos (by omega)]; omega)
        | (rw [if_neg (by omega), if_neg (by omega)]; omega)
      refine z_istore (loc2 := [fr 60, fi many, fi a, fi b, fi x4]) dX8_note_29 (by decide) rfl ?_
      refine z_aload_nr dX8_note_31 rfl ?_
      refine z_geti (kz := 51) fl_X8_379 rfl (by decide) rfl dX8_note_32 (fun x5 hx5 bx5 => ?_)
      refine z_if_lt (tgt := 47) dX8_note_35 (by decide) (fun c6 => ?_) (fun c6 => ?_)
      · refine z_aload_nr dX8_note_47 rfl ?_
        refine z_iload_n dX8_note_48 rfl ?_
        refine z_puti (kz := 51) fl_X8_379 rfl (by decide) rfl nr_60_51 dX8_note_49 (fun Mz7 hMz7 => ?_)
        refine z_aload_nr dX8_note_52 rfl ?_
        refine z_iload dX8_note_53 rfl ?_
        refine z_puti (kz := 52) fl_X8_382 rfl (by decide) rfl nr_60_52 dX8_note_55 (fun Mz8 hMz8 => ?_)
        refine z_vret rfl (by decide) rfl (Nat.sub_self _) dX8_note_58 ?_
        unfold noteM
        rw [← hcd]
        first
        | (rw [if_pos (by omega), hMz8, hMz7])
        | (rw [if_neg (by omega)])
      · refine z_iload dX8_note_38 rfl ?_
        refine z_aload_nr dX8_note_40 rfl ?_
        refine z_geti (kz := 52) fl_X8_382 rfl (by decide) rfl dX8_note_41 (fun x9 hx9 bx9 => ?_)
        refine z_icmp_ge (tgt := 58) dX8_note_44 (by decide) (fun c10 => ?_) (fun c10 => ?_)
        · refine z_vret rfl (by decide) rfl (Nat.sub_self _) dX8_note_58 ?_
          unfold noteM
          rw [← hcd]
          first
          | (rw [if_pos (by omega), hNONE])
          | (rw [if_neg (by omega)])
        · refine z_aload_nr dX8_note_47 rfl ?_
          refine z_iload_n dX8_note_48 rfl ?_
          refine z_puti (kz := 51) fl_X8_379 rfl (by decide) rfl nr_60_51 dX8_note_49 (fun Mz11 hMz11 => ?_)
          refine z_aload_nr dX8_note_52 rfl ?_
          refine z_iload dX8_note_53 rfl ?_
          refine z_puti (kz := 52) fl_X8_382 rfl (by decide) rfl nr_60_52 dX8_note_55 (fun Mz12 hMz12 => ?_)
          refine z_vret rfl (by decide) rfl (Nat.sub_self _) dX8_note_58 ?_
          unfold noteM
          rw [← hcd]
          first
          | (rw [if_pos (by omega), hMz12, hMz11])
          | (rw [if_neg (by omega)])
    · refine z_bipush dX8_note_14 ⟨by decide, by decide⟩ (by decide) ?_
      refine z_iload_n dX8_note_16 rfl ?_
      first | refine z_imulN dX8_note_17 (by omega) (fun x13 hx13 => ?_) | refine z_imul dX8_note_17 (fun x13 hx13 => ?_)
      refine z_iload_n dX8_note_18 rfl ?_
      first | refine z_iaddN dX8_note_19 (by omega) (fun x14 hx14 => ?_) | refine z_iadd dX8_note_19 (fun x14 hx14 => ?_)
      refine z_goto (tgt := 29) dX8_note_20 (by decide) ?_
      have hcd : x14 = (if many = 1 then a else if a < b then 100 * a + b else 100 * b + a) := by
        first
        | rw [if_pos (by omega)]
        | (rw [if_neg (by omega), if_pos (by omega)]; omega)
        | (rw [if_neg (by omega), if_neg (by omega)]; omega)
      refine z_istore (loc2 := [fr 60, fi many, fi a, fi b, fi x14]) dX8_note_29 (by decide) rfl ?_
      refine z_aload_nr dX8_note_31 rfl ?_
      refine z_geti (kz := 51) fl_X8_379 rfl (by decide) rfl dX8_note_32 (fun x15 hx15 bx15 => ?_)
      refine z_if_lt (tgt := 47) dX8_note_35 (by decide) (fun c16 => ?_) (fun c16 => ?_)
      · refine z_aload_nr dX8_note_47 rfl ?_
        refine z_iload_n dX8_note_48 rfl ?_
        refine z_puti (kz := 51) fl_X8_379 rfl (by decide) rfl nr_60_51 dX8_note_49 (fun Mz17 hMz17 => ?_)
        refine z_aload_nr dX8_note_52 rfl ?_
        refine z_iload dX8_note_53 rfl ?_
        refine z_puti (kz := 52) fl_X8_382 rfl (by decide) rfl nr_60_52 dX8_note_55 (fun Mz18 hMz18 => ?_)
        refine z_vret rfl (by decide) rfl (Nat.sub_self _) dX8_note_58 ?_
        unfold noteM
        rw [← hcd]
        first
        | (rw [if_pos (by omega), hMz18, hMz17])
        | (rw [if_neg (by omega)])
      · refine z_iload dX8_note_38 rfl ?_
        refine z_aload_nr dX8_note_40 rfl ?_
        refine z_geti (kz := 52) fl_X8_382 rfl (by decide) rfl dX8_note_41 (fun x19 hx19 bx19 => ?_)
        refine z_icmp_ge (tgt := 58) dX8_note_44 (by decide) (fun c20 => ?_) (fun c20 => ?_)
        · refine z_vret rfl (by decide) rfl (Nat.sub_self _) dX8_note_58 ?_
          unfold noteM
          rw [← hcd]
          first
          | (rw [if_pos (by omega), hNONE])
          | (rw [if_neg (by omega)])
        · refine z_aload_nr dX8_note_47 rfl ?_
          refine z_iload_n dX8_note_48 rfl ?_
          refine z_puti (kz := 51) fl_X8_379 rfl (by decide) rfl nr_60_51 dX8_note_49 (fun Mz21 hMz21 => ?_)
          refine z_aload_nr dX8_note_52 rfl ?_
          refine z_iload dX8_note_53 rfl ?_
          refine z_puti (kz := 52) fl_X8_382 rfl (by decide) rfl nr_60_52 dX8_note_55 (fun Mz22 hMz22 => ?_)
          refine z_vret rfl (by decide) rfl (Nat.sub_self _) dX8_note_58 ?_
          unfold noteM
          rw [← hcd]
          first
          | (rw [if_pos (by omega), hMz22, hMz21])
          | (rw [if_neg (by omega)])
  · refine z_iload_n dX8_note_5 rfl ?_
    refine z_goto (tgt := 29) dX8_note_6 (by decide) ?_
    have hcd : a = (if many = 1 then a else if a < b then 100 * a + b else 100 * b + a) := by
      first
      | rw [if_pos (by omega)]
      | (rw [if_neg (by omega), if_pos (by omega)]; omega)
      | (rw [if_neg (by omega), if_neg (by omega)]; omega)
    refine z_istore (loc2 := [fr 60, fi many, fi a, fi b, fi a]) dX8_note_29 (by decide) rfl ?_
    refine z_aload_nr dX8_note_31 rfl ?_
    refine z_geti (kz := 51) fl_X8_379 rfl (by decide) rfl dX8_note_32 (fun x23 hx23 bx23 => ?_)
    refine z_if_lt (tgt := 47) dX8_note_35 (by decide) (fun c24 => ?_) (fun c24 => ?_)
    · refine z_aload_nr dX8_note_47 rfl ?_
      refine z_iload_n dX8_note_48 rfl ?_
      refine z_puti (kz := 51) fl_X8_379 rfl (by decide) rfl nr_60_51 dX8_note_49 (fun Mz25 hMz25 => ?_)
      refine z_aload_nr dX8_note_52 rfl ?_
      refine z_iload dX8_note_53 rfl ?_
      refine z_puti (kz := 52) fl_X8_382 rfl (by decide) rfl nr_60_52 dX8_note_55 (fun Mz26 hMz26 => ?_)
      refine z_vret rfl (by decide) rfl (Nat.sub_self _) dX8_note_58 ?_
      unfold noteM
      rw [← hcd]
      first
      | (rw [if_pos (by omega), hMz26, hMz25])
      | (rw [if_neg (by omega)])
    · refine z_iload dX8_note_38 rfl ?_
      refine z_aload_nr dX8_note_40 rfl ?_
      refine z_geti (kz := 52) fl_X8_382 rfl (by decide) rfl dX8_note_41 (fun x27 hx27 bx27 => ?_)
      refine z_icmp_ge (tgt := 58) dX8_note_44 (by decide) (fun c28 => ?_) (fun c28 => ?_)
      · refine z_vret rfl (by decide) rfl (Nat.sub_self _) dX8_note_58 ?_
        unfold noteM
        rw [← hcd]
        first
        | (rw [if_pos (by omega), hNONE])
        | (rw [if_neg (by omega)])
      · refine z_aload_nr dX8_note_47 rfl ?_
        refine z_iload_n dX8_note_48 rfl ?_
        refine z_puti (kz := 51) fl_X8_379 rfl (by decide) rfl nr_60_51 dX8_note_49 (fun Mz29 hMz29 => ?_)
        refine z_aload_nr dX8_note_52 rfl ?_
        refine z_iload dX8_note_53 rfl ?_
        refine z_puti (kz := 52) fl_X8_382 rfl (by decide) rfl nr_60_52 dX8_note_55 (fun Mz30 hMz30 => ?_)
        refine z_vret rfl (by decide) rfl (Nat.sub_self _) dX8_note_58 ?_
        unfold noteM
        rw [← hcd]
        first
        | (rw [if_pos (by omega), hMz30, hMz29])
        | (rw [if_neg (by omega)])
def OffT (M M2 : FMem) : Prop := ∀ b j, b ≠ 86 → ¬ (b = 60 ∧ (j = 43 ∨ j = 51 ∨ j = 52)) → M2 b j = M b j
def RgE (M : FMem) : Prop := (0 ≤ M 91 1 ∧ M 91 1 ≤ 17) ∧ ∀ k, 0 ≤ k → k < M 91 1 → 0 ≤ M 90 (17 + k) ∧ M 90 (17 + k) < 80
set_option maxHeartbeats 6400000 in
theorem A_X8_trySecond (l : Launch) (g : Cx) (M : FMem) (a : Int) (M0 : FMem) (P0 : Int → Int → Prop) (hT : MT M0) (hof : OffM M0 M) (ho : M 60 42 = a ∧ M 60 44 = -1 ∧ M 60 45 = 0) (ha : 0 ≤ a ∧ a < 80) (hz : RgE M) (hB : Od2 P0 (M 60 51) (M 60 52)) : AMv l g true fi_X8_trySecond [fr 60, fi a] 93 M (fun M2 => OffT M M2 ∧ M2 60 43 = -1 ∧ Od2 (fun c d => P0 c d ∨ ∃ k, 0 ≤ k ∧ k < M 91 1 ∧ M 90 (17 + k) ≠ a ∧ Feas (SolR M0 (M0 60 0) (-1) a (M 90 (17 + k)) 0) ∧ SP a (M 90 (17 + k)) c d) (M2 60 51) (M2 60 52)) := by
  refine AMv_intro [fr 60, fi a, fu] (by decide) (knall rfl) (Nat.le_of_ble_eq_true rfl) rfl ?_
  intro hNV hM0 μ
  have ba : N32 a := hNV (fi a) (by simp)
  have hz1 := hz.1
  have lp2 : ∀ (kq : Nat) (jz : Int) (M1 : FMem), (17 - jz).toNat = kq → (0 ≤ jz ∧ jz ≤ M 91 1) → (OffT M M1) → (Od2 (fun c d => P0 c d ∨ ∃ k, 0 ≤ k ∧ k < jz ∧ M 90 (17 + k) ≠ a ∧ Feas (SolR M0 (M0 60 0) (-1) a (M 90 (17 + k)) 0) ∧ SP a (M 90 (17 + k)) c d) (M1 60 51) (M1 60 52)) → Wa l g true fi_X8_trySecond 93 μ (Zv g true fi_X8_trySecond 93 μ (fun M2 => OffT M M2 ∧ M2 60 43 = -1 ∧ Od2 (fun c d => P0 c d ∨ ∃ k, 0 ≤ k ∧ k < M 91 1 ∧ M 90 (17 + k) ≠ a ∧ Feas (SolR M0 (M0 60 0) (-1) a (M 90 (17 + k)) 0) ∧ SP a (M 90 (17 + k)) c d) (M2 60 51) (M2 60 52))) 2 [] [fr 60, fi a, fi jz] 93 M1 := by
    intro kq
    induction kq using Nat.strongRecOn with
    | _ kq ih2 =>
    intro jz M1 hk2 h0 h1 h2
    have q91 := h1 91 1 (by decide) (by decide)
    have q90 := h1 90 (17 + jz) (by decide) (by omega)
    have q60 := h1 60 0 (by decide) (by decide)
    refine z_iload_n dX8_trySecond_2 rfl ?_
    refine z_aload_nr dX8_trySecond_3 rfl ?_
    refine z_getr (b := 91) fl_X8_115 rfl (by decide) rf_60_50 rfl dX8_trySecond_4 ?_
    refine z_iconst dX8_trySecond_7 ⟨by decide, by decide⟩ ?_
    refine z_iald rfl (by decide) (by omega) (by omega) dX8_trySecond_8 (fun x1 hx1 bx1 => ?_)
    refine z_icmp_ge (tgt := 60) dX8_trySecond_9 (by decide) (fun c2 => ?_) (fun c2 => ?_)
    · refine z_aload_nr dX8_trySecond_60 rfl ?_
      refine z_iconst dX8_trySecond_61 ⟨by decide, by decide⟩ ?_
      refine z_puti (kz := 43) fl_X8_97 rfl (by decide) rfl nr_60_43 dX8_trySecond_62 (fun Mz3 hMz3 => ?_)
      refine z_vret rfl (by decide) rfl (Nat.sub_self _) dX8_trySecond_65 ?_
      rw [show M 91 1 = jz by omega]
      rw [hMz3]
      refine ⟨fun b j p q => ?_, st_same _ _ _ _, ?_⟩
      · unfold st
        rw [if_neg (by omega)]
        exact h1 b j p q
      · rw [st_at, if_neg (by decide), st_at, if_neg (by decide)]
        exact h2
    · refine z_aload_nr dX8_trySecond_12 rfl ?_
      refine z_aload_nr dX8_trySecond_13 rfl ?_
      refine z_getr (b := 90) fl_X8_112 rfl (by decide) rf_60_49 rfl dX8_trySecond_14 ?_
      refine z_bipush dX8_trySecond_17 ⟨by decide, by decide⟩ (by decide) ?_
      refine z_iload_n dX8_trySecond_19 rfl ?_
      first | refine z_iaddN dX8_trySecond_20 (by omega) (fun x4 hx4 => ?_) | refine z_iadd dX8_trySecond_20 (fun x4 hx4 => ?_)
      refine z_iald rfl (by decide) (by omega) (by omega) dX8_trySecond_21 (fun x5 hx5 bx5 => ?_)
      have hix : x5 = M 90 (17 + jz) := by
        have hq := hx5
        rw [← q90, hq]
        congr 1 <;> omega
      have hez := hz.2 jz h0.1 (by omega)
      refine z_puti (kz := 43) fl_X8_97 rfl (by decide) rfl nr_60_43 dX8_trySecond_22 (fun Mz6 hMz6 => ?_)
      have hMb := hMz6
      rw [hix] at hMb
      have hofb : OffM M0 Mz6 := by
        intro b j q
        rw [hMb]
        unfold st
        rw [if_neg (by omega), h1 b j (by omega) (by omega)]
        exact hof b j q
      have hTm := MT0_off hofb hT.1
      have f1 : Mz6 60 42 = a := by rw [hMb, st_at, if_neg (by decide), h1 60 42 (by decide) (by decide)]; exact ho.1
      have f2 : Mz6 60 43 = M 90 (17 + jz) := by rw [hMb, st_same]
      have f3 : Mz6 60 44 = -1 := by rw [hMb, st_at, if_neg (by decide), h1 60 44 (by decide) (by decide)]; exact ho.2.1
      have f4 : Mz6 60 45 = 0 := by rw [hMb, st_at, if_neg (by decide), h1 60 45 (by decide) (by decide)]; exact ho.2.2
      have f0 : Mz6 60 0 = M0 60 0 := OffM_o hofb (by decide)
      have f00 : M1 60 0 = M0 60 0 := by rw [q60]; exact OffM_o hof (by decide)
      refine z_aload_nr dX8_trySecond_25 rfl ?_
      refine z_geti (kz := 43) fl_X8_97 rfl (by decide) rfl dX8_trySecond_26 (fun x7 hx7 bx7 => ?_)
      rw [hMz6, st_same] at hx7
      refine z_iload_n dX8_trySecond_29 rfl ?_
      refine z_icmp_eq (tgt := 54) dX8_trySecond_30 (by decide) (fun c8 => ?_) (fun c8 => ?_)
      · refine z_iinc (loc2 := fun vq => [fr 60, fi a, fi vq]) dX8_trySecond_54 rfl (by decide) (by omega) (fun _ => rfl) (fun x9 hx9 => ?_)
        refine z_goto (tgt := 2) dX8_trySecond_57 (by decide) ?_
        have g1 : OffT M Mz6 := by
          first
          | (intro b j p q
             rw [hno, (noteM_v _ _ _).2.2 b j (by omega), hMw, hsw.1 b j p, hMb]
             unfold st
             rw [if_neg (by omega)]
             exact h1 b j p q)
          | (intro b j p q
             rw [hsw.1 b j p, hMb]
             unfold st
             rw [if_neg (by omega)]
             exact h1 b j p q)
          | (intro b j p q
             rw [hMb]
             unfold st
             rw [if_neg (by omega)]
             exact h1 b j p q)
        have g2 : Od2 (fun c d => P0 c d ∨ ∃ k, 0 ≤ k ∧ k < (jz + 1) ∧ M 90 (17 + k) ≠ a ∧ Feas (SolR M0 (M0 60 0) (-1) a (M 90 (17 + k)) 0) ∧ SP a (M 90 (17 + k)) c d) (Mz6 60 51) (Mz6 60 52) := by
          have hskip : ∀ hh : ¬ (M 90 (17 + jz) ≠ a ∧ Feas (SolR M0 (M0 60 0) (-1) a (M 90 (17 + jz)) 0)), Od2 (fun c d => P0 c d ∨ ∃ k, 0 ≤ k ∧ k < (jz + 1) ∧ M 90 (17 + k) ≠ a ∧ Feas (SolR M0 (M0 60 0) (-1) a (M 90 (17 + k)) 0) ∧ SP a (M 90 (17 + k)) c d) (M1 60 51) (M1 60 52) := by
            intro hh
            refine Od2_cg h2 (fun c d => ⟨fun z => z.elim Or.inl (fun ⟨k, k0, k1, k2⟩ => Or.inr ⟨k, k0, by omega, k2⟩), fun z => z.elim Or.inl (fun ⟨k, k0, k1, k2, k3, k4⟩ => ?_)⟩)
            by_cases e : k = jz
            · subst e; exact absurd ⟨k2, k3⟩ hh
            · exact Or.inr ⟨k, k0, by omega, k2, k3, k4⟩
          first
          | (have hv := noteM_v 2 (if (2 : Int) = 1 then a else if a < M 90 (17 + jz) then 100 * a + M 90 (17 + jz) else 100 * M 90 (17 + jz) + a) Mw
             rw [if_neg (by decide)] at hv
             rw [hno, if_neg (by decide)]
             have e51 : Mw 60 51 = M1 60 51 := by rw [hMw, hsw.1 60 51 (by decide), hMb, st_at, if_neg (by decide)]
             have e52 : Mw 60 52 = M1 60 52 := by rw [hMw, hsw.1 60 52 (by decide), hMb, st_at, if_neg (by decide)]
             rw [e51, e52] at hv
             have hfe : Feas (SolR M0 (M0 60 0) (-1) a (M 90 (17 + jz)) 0) := by
               rcases hsw.2 with z | z
               · exact z.2.1
               · exfalso; omega
             by_cases e : a < M 90 (17 + jz)
             · rw [if_pos e] at hv ⊢
               refine Od2_cg (Od2_add h2 hv.1 hv.2.1) (fun c d => ⟨fun z => ?_, fun z => ?_⟩)
               · rcases z with (z | ⟨k, k0, k1, k2⟩) | z
                 · exact Or.inl z
                 · exact Or.inr ⟨k, k0, by omega, k2⟩
                 · exact Or.inr ⟨jz, h0.1, by omega, by omega, hfe, Or.inl ⟨z.1, z.2, e⟩⟩
               · rcases z with z | ⟨k, k0, k1, k2, k3, k4⟩
                 · exact Or.inl (Or.inl z)
                 · by_cases ek : k = jz
                   · subst ek
                     rcases k4 with y | y
                     · exact Or.inr ⟨y.1, y.2.1⟩
                     · omega
                   · exact Or.inl (Or.inr ⟨k, k0, by omega, k2, k3, k4⟩)
             · rw [if_neg e] at hv ⊢
               refine Od2_cg (Od2_add h2 hv.1 hv.2.1) (fun c d => ⟨fun z => ?_, fun z => ?_⟩)
               · rcases z with (z | ⟨k, k0, k1, k2⟩) | z
                 · exact Or.inl z
                 · exact Or.inr ⟨k, k0, by omega, k2⟩
                 · exact Or.inr ⟨jz, h0.1, by omega, by omega, hfe, Or.inr ⟨z.1, z.2, by omega⟩⟩
               · rcases z with z | ⟨k, k0, k1, k2, k3, k4⟩
                 · exact Or.inl (Or.inl z)
                 · by_cases ek : k = jz
                   · subst ek
                     rcases k4 with y | y
                     · omega
                     · exact Or.inr ⟨y.1, y.2.1⟩
                   · exact Or.inl (Or.inr ⟨k, k0, by omega, k2, k3, k4⟩))
          | (rw [show Mz6 60 51 = M1 60 51 by rw [hsw.1 60 51 (by decide), hMb, st_at, if_neg (by decide)], show Mz6 60 52 = M1 60 52 by rw [hsw.1 60 52 (by decide), hMb, st_at, if_neg (by decide)]]
             refine hskip (fun z => ?_)
             rcases hsw.2 with y | y
             · omega
             · exact y.2 z.2)
          | (rw [show Mz6 60 51 = M1 60 51 by rw [hMb, st_at, if_neg (by decide)], show Mz6 60 52 = M1 60 52 by rw [hMb, st_at, if_neg (by decide)]]
             exact hskip (fun z => by omega))
        exact ih2 _ (by omega) x9 Mz6 rfl (by omega) (g1) (by rw [hx9]; exact g2)
      · refine z_aload_nr dX8_trySecond_33 rfl ?_
        refine z_aload_nr dX8_trySecond_34 rfl ?_
        refine z_geti (kz := 0) fl_X8_136 rfl (by decide) rfl dX8_trySecond_35 (fun x10 hx10 bx10 => ?_)
        rw [hMz6, st_at, if_neg (by decide)] at hx10
        have hn2 : x10 = M0 60 0 := by omega
        refine z_callVi (n2 := 93) (A_X8_sumWays l g Mz6 x10 (hTm) (by rw [f4]; decide)) cb_X8_sumWays cl_X8_335 (clr0 rfl rfl (by decide) (by decide)) rfl (by decide) ⟨_, rfl, rfl⟩ rfl (by decide) rfl (Nat.le_of_ble_eq_true rfl) rfl dX8_trySecond_38 (fun x11 Mz11 bx11 kMz11 hc11 => ?_)
        have hsw := hc11
        rw [SolM_R hofb, f1, f2, f3, f4, hn2] at hsw
        refine z_if_eq (tgt := 54) dX8_trySecond_41 (by decide) (fun c12 => ?_) (fun c12 => ?_)
        · refine z_iinc (loc2 := fun vq => [fr 60, fi a, fi vq]) dX8_trySecond_54 rfl (by decide) (by omega) (fun _ => rfl) (fun x13 hx13 => ?_)
          refine z_goto (tgt := 2) dX8_trySecond_57 (by decide) ?_
          have g1 : OffT M Mz11 := by
            first
            | (intro b j p q
               rw [hno, (noteM_v _ _ _).2.2 b j (by omega), hMw, hsw.1 b j p, hMb]
               unfold st
               rw [if_neg (by omega)]
               exact h1 b j p q)
            | (intro b j p q
               rw [hsw.1 b j p, hMb]
               unfold st
               rw [if_neg (by omega)]
               exact h1 b j p q)
            | (intro b j p q
               rw [hMb]
               unfold st
               rw [if_neg (by omega)]
               exact h1 b j p q)
          have g2 : Od2 (fun c d => P0 c d ∨ ∃ k, 0 ≤ k ∧ k < (jz + 1) ∧ M 90 (17 + k) ≠ a ∧ Feas (SolR M0 (M0 60 0) (-1) a (M 90 (17 + k)) 0) ∧ SP a (M 90 (17 + k)) c d) (Mz11 60 51) (Mz11 60 52) := by
            have hskip : ∀ hh : ¬ (M 90 (17 + jz) ≠ a ∧ Feas (SolR M0 (M0 60 0) (-1) a (M 90 (17 + jz)) 0)), Od2 (fun c d => P0 c d ∨ ∃ k, 0 ≤ k ∧ k < (jz + 1) ∧ M 90 (17 + k) ≠ a ∧ Feas (SolR M0 (M0 60 0) (-1) a (M 90 (17 + k)) 0) ∧ SP a (M 90 (17 + k)) c d) (M1 60 51) (M1 60 52) := by
              intro hh
              refine Od2_cg h2 (fun c d => ⟨fun z => z.elim Or.inl (fun ⟨k, k0, k1, k2⟩ => Or.inr ⟨k, k0, by omega, k2⟩), fun z => z.elim Or.inl (fun ⟨k, k0, k1, k2, k3, k4⟩ => ?_)⟩)
              by_cases e : k = jz
              · subst e; exact absurd ⟨k2, k3⟩ hh
              · exact Or.inr ⟨k, k0, by omega, k2, k3, k4⟩
            first
            | (have hv := noteM_v 2 (if (2 : Int) = 1 then a else if a < M 90 (17 + jz) then 100 * a + M 90 (17 + jz) else 100 * M 90 (17 + jz) + a) Mw
               rw [if_neg (by decide)] at hv
               rw [hno, if_neg (by decide)]
               have e51 : Mw 60 51 = M1 60 51 := by rw [hMw, hsw.1 60 51 (by decide), hMb, st_at, if_neg (by decide)]
               have e52 : Mw 60 52 = M1 60 52 := by rw [hMw, hsw.1 60 52 (by decide), hMb, st_at, if_neg (by decide)]
               rw [e51, e52] at hv
               have hfe : Feas (SolR M0 (M0 60 0) (-1) a (M 90 (17 + jz)) 0) := by
                 rcases hsw.2 with z | z
                 · exact z.2.1
                 · exfalso; omega
               by_cases e : a < M 90 (17 + jz)
               · rw [if_pos e] at hv ⊢
                 refine Od2_cg (Od2_add h2 hv.1 hv.2.1) (fun c d => ⟨fun z => ?_, fun z => ?_⟩)
                 · rcases z with (z | ⟨k, k0, k1, k2⟩) | z
                   · exact Or.inl z
                   · exact Or.inr ⟨k, k0, by omega, k2⟩
                   · exact Or.inr ⟨jz, h0.1, by omega, by omega, hfe, Or.inl ⟨z.1, z.2, e⟩⟩
                 · rcases z with z | ⟨k, k0, k1, k2, k3, k4⟩
                   · exact Or.inl (Or.inl z)
                   · by_cases ek : k = jz
                     · subst ek
                       rcases k4 with y | y
                       · exact Or.inr ⟨y.1, y.2.1⟩
                       · omega
                     · exact Or.inl (Or.inr ⟨k, k0, by omega, k2, k3, k4⟩)
               · rw [if_neg e] at hv ⊢
                 refine Od2_cg (Od2_add h2 hv.1 hv.2.1) (fun c d => ⟨fun z => ?_, fun z => ?_⟩)
                 · rcases z with (z | ⟨k, k0, k1, k2⟩) | z
                   · exact Or.inl z
                   · exact Or.inr ⟨k, k0, by omega, k2⟩
                   · exact Or.inr ⟨jz, h0.1, by omega, by omega, hfe, Or.inr ⟨z.1, z.2, by omega⟩⟩
                 · rcases z with z | ⟨k, k0, k1, k2, k3, k4⟩
                   · exact Or.inl (Or.inl z)
                   · by_cases ek : k = jz
                     · subst ek
                       rcases k4 with y | y
                       · omega
                       · exact Or.inr ⟨y.1, y.2.1⟩
                     · exact Or.inl (Or.inr ⟨k, k0, by omega, k2, k3, k4⟩))
            | (rw [show Mz11 60 51 = M1 60 51 by rw [hsw.1 60 51 (by decide), hMb, st_at, if_neg (by decide)], show Mz11 60 52 = M1 60 52 by rw [hsw.1 60 52 (by decide), hMb, st_at, if_neg (by decide)]]
               refine hskip (fun z => ?_)
               rcases hsw.2 with y | y
               · omega
               · exact y.2 z.2)
            | (rw [show Mz11 60 51 = M1 60 51 by rw [hMb, st_at, if_neg (by decide)], show Mz11 60 52 = M1 60 52 by rw [hMb, st_at, if_neg (by decide)]]
               exact hskip (fun z => by omega))
          exact ih2 _ (by omega) x13 Mz11 rfl (by omega) (g1) (by rw [hx13]; exact g2)
        · refine z_aload_nr dX8_trySecond_44 rfl ?_
          refine z_iconst dX8_trySecond_45 ⟨by decide, by decide⟩ ?_
          refine z_iload_n dX8_trySecond_46 rfl ?_
          refine z_aload_nr dX8_trySecond_47 rfl ?_
          refine z_geti (kz := 43) fl_X8_97 rfl (by decide) rfl dX8_trySecond_48 (fun x14 hx14 bx14 => ?_)
          have hob : x14 = M 90 (17 + jz) := by
            have hq := hx14
            rw [hsw.1 60 43 (by decide), f2] at hq
            exact hq
          obtain ⟨Mw, hMw⟩ : ∃ z, z = Mz11 := ⟨_, rfl⟩
          refine z_callVv (n2 := 93) (A_X8_note l g Mz11 2 a x14 (by omega) (ha)) cb_X8_note cl_X8_385 (clr0 rfl rfl (by decide) (by decide)) rfl (by decide) ⟨_, rfl, rfl⟩ rfl (by decide) rfl (Nat.le_of_ble_eq_true rfl) rfl dX8_trySecond_51 (fun Mz15 kMz15 hc15 => ?_)
          have hno := hc15
          rw [hob, ← hMw] at hno
          refine z_iinc (loc2 := fun vq => [fr 60, fi a, fi vq]) dX8_trySecond_54 rfl (by decide) (by omega) (fun _ => rfl) (fun x16 hx16 => ?_)
          refine z_goto (tgt := 2) dX8_trySecond_57 (by decide) ?_
          have g1 : OffT M Mz15 := by
            first
            | (intro b j p q
               rw [hno, (noteM_v _ _ _).2.2 b j (by omega), hMw, hsw.1 b j p, hMb]
               unfold st
               rw [if_neg (by omega)]
               exact h1 b j p q)
            | (intro b j p q
               rw [hsw.1 b j p, hMb]
               unfold st
               rw [if_neg (by omega)]
               exact h1 b j p q)
            | (intro b j p q
               rw [hMb]
               unfold st
               rw [if_neg (by omega)]
               exact h1 b j p q)
          have g2 : Od2 (fun c d => P0 c d ∨ ∃ k, 0 ≤ k ∧ k < (jz + 1) ∧ M 90 (17 + k) ≠ a ∧ Feas (SolR M0 (M0 60 0) (-1) a (M 90 (17 + k)) 0) ∧ SP a (M 90 (17 + k)) c d) (Mz15 60 51) (Mz15 60 52) := by
            have hskip : ∀ hh : ¬ (M 90 (17 + jz) ≠ a ∧ Feas (SolR M0 (M0 60 0) (-1) a (M 90 (17 + jz)) 0)), Od2 (fun c d => P0 c d ∨ ∃ k, 0 ≤ k ∧ k < (jz + 1) ∧ M 90 (17 + k) ≠ a ∧ Feas (SolR M0 (M0 60 0) (-1) a (M 90 (17 + k)) 0) ∧ SP a (M 90 (17 + k)) c d) (M1 60 51) (M1 60 52) := by
              intro hh
              refine Od2_cg h2 (fun c d => ⟨fun z => z.elim Or.inl (fun ⟨k, k0, k1, k2⟩ => Or.inr ⟨k, k0, by omega, k2⟩), fun z => z.elim Or.inl (fun ⟨k, k0, k1, k2, k3, k4⟩ => ?_)⟩)
              by_cases e : k = jz
              · subst e; exact absurd ⟨k2, k3⟩ hh
              · exact Or.inr ⟨k, k0, by omega, k2, k3, k4⟩
            first
            | (have hv := noteM_v 2 (if (2 : Int) = 1 then a else if a < M 90 (17 + jz) then 100 * a + M 90 (17 + jz) else 100 * M 90 (17 + jz) + a) Mw
               rw [if_neg (by decide)] at hv
               rw [hno, if_neg (by decide)]
               have e51 : Mw 60 51 = M1 60 51 := by rw [hMw, hsw.1 60 51 (by decide), hMb, st_at, if_neg (by decide)]
               have e52 : Mw 60 52 = M1 60 52 := by rw [hMw, hsw.1 60 52 (by decide), hMb, st_at, if_neg (by decide)]
               rw [e51, e52] at hv
               have hfe : Feas (SolR M0 (M0 60 0) (-1) a (M 90 (17 + jz)) 0) := by
                 rcases hsw.2 with z | z
                 · exact z.2.1
                 · exfalso; omega
               by_cases e : a < M 90 (17 + jz)
               · rw [if_pos e] at hv ⊢
                 refine Od2_cg (Od2_add h2 hv.1 hv.2.1) (fun c d => ⟨fun z => ?_, fun z => ?_⟩)
                 · rcases z with (z | ⟨k, k0, k1, k2⟩) | z
                   · exact Or.inl z
                   · exact Or.inr ⟨k, k0, by omega, k2⟩
                   · exact Or.inr ⟨jz, h0.1, by omega, by omega, hfe, Or.inl ⟨z.1, z.2, e⟩⟩
                 · rcases z with z | ⟨k, k0, k1, k2, k3, k4⟩
                   · exact Or.inl (Or.inl z)
                   · by_cases ek : k = jz
                     · subst ek
                       rcases k4 with y | y
                       · exact Or.inr ⟨y.1, y.2.1⟩
                       · omega
                     · exact Or.inl (Or.inr ⟨k, k0, by omega, k2, k3, k4⟩)
               · rw [if_neg e] at hv ⊢
                 refine Od2_cg (Od2_add h2 hv.1 hv.2.1) (fun c d => ⟨fun z => ?_, fun z => ?_⟩)
                 · rcases z with (z | ⟨k, k0, k1, k2⟩) | z
                   · exact Or.inl z
                   · exact Or.inr ⟨k, k0, by omega, k2⟩
                   · exact Or.inr ⟨jz, h0.1, by omega, by omega, hfe, Or.inr ⟨z.1, z.2, by omega⟩⟩
                 · rcases z with z | ⟨k, k0, k1, k2, k3, k4⟩
                   · exact Or.inl (Or.inl z)
                   · by_cases ek : k = jz
                     · subst ek
                       rcases k4 with y | y
                       · omega
                       · exact Or.inr ⟨y.1, y.2.1⟩
                     · exact Or.inl (Or.inr ⟨k, k0, by omega, k2, k3, k4⟩))
            | (rw [show Mz15 60 51 = M1 60 51 by rw [hsw.1 60 51 (by decide), hMb, st_at, if_neg (by decide)], show Mz15 60 52 = M1 60 52 by rw [hsw.1 60 52 (by decide), hMb, st_at, if_neg (by decide)]]
               refine hskip (fun z => ?_)
               rcases hsw.2 with y | y
               · omega
               · exact y.2 z.2)
            | (rw [show Mz15 60 51 = M1 60 51 by rw [hMb, st_at, if_neg (by decide)], show Mz15 60 52 = M1 60 52 by rw [hMb, st_at, if_neg (by decide)]]
               exact hskip (fun z => by omega))
          exact ih2 _ (by omega) x16 Mz15 rfl (by omega) (g1) (by rw [hx16]; exact g2)
  refine z_iconst dX8_trySecond_0 ⟨by decide, by decide⟩ ?_
  refine z_istore_n (loc2 := [fr 60, fi a, fi 0]) dX8_trySecond_1 (by decide) rfl ?_
  exact lp2 _ 0 M rfl (by omega) (fun _ _ _ _ => rfl) (Od2_cg hB (fun c d => ⟨Or.inl, fun z => z.elim id (fun ⟨k, k0, k1, _⟩ => by omega)⟩))
