/-! ===== Strife: blame and odd ===== -/
noncomputable def maskS (F : Int → Prop) (n : Int) : Int := sumI (fun l => c01 (F l) * 2 ^ l.toNat) n
theorem or_tab : ∀ l : Fin 6, ∀ m : Fin 32, m.val < 2 ^ l.val → or32 (m.val : Int) (shl32 1 (l.val : Int)) = (m.val : Int) + 2 ^ l.val ∧ or32 (m.val : Int) 0 = (m.val : Int) := by decide +kernel
theorem or_bit {l m : Int} (h0 : 0 ≤ l) (h1 : l < 6) (m0 : 0 ≤ m) (m1 : m < 2 ^ l.toNat) : or32 m (shl32 1 l) = m + 2 ^ l.toNat ∧ or32 m 0 = m := by
  have hb : (2 : Int) ^ l.toNat ≤ 32 := by
    have : l = 0 ∨ l = 1 ∨ l = 2 ∨ l = 3 ∨ l = 4 ∨ l = 5 := by omega
    rcases this with rfl | rfl | rfl | rfl | rfl | rfl <;> decide
  have hm : (m.toNat : Int) = m := by omega
  have hl : (l.toNat : Int) = l := by omega
  have := or_tab ⟨l.toNat, by omega⟩ ⟨m.toNat, by omega⟩ (by
    show m.toNat < 2 ^ l.toNat
    have : ((m.toNat : Nat) : Int) < ((2 ^ l.toNat : Nat) : Int) := by rw [hm]; push_cast; exact m1
    omega)
  simp only [hm, hl] at this
  exact this
theorem mask_b (F : Int → Prop) : ∀ l : Int, 0 ≤ l → 0 ≤ maskS F l ∧ maskS F l < 2 ^ l.toNat := by
  intro l hl
  obtain ⟨k, rfl⟩ : ∃ k : Nat, l = k := ⟨l.toNat, by omega⟩
  clear hl
  induction k with
  | zero => exact ⟨Int.le_refl 0, (by decide : (0 : Int) < 1)⟩
  | succ k ih =>
    unfold maskS at ih ⊢
    rw [show ((k + 1 : Nat) : Int) = (k : Int) + 1 by omega, sumI_succ (by omega)]
    have hc := c01_r (F k)
    have e : (2 : Int) ^ ((k : Int) + 1).toNat = 2 * 2 ^ (k : Int).toNat := by
      rw [show ((k : Int) + 1).toNat = (k : Int).toNat + 1 by omega, Int.pow_succ]; omega
    rw [e]
    have hp : (0 : Int) < 2 ^ (k : Int).toNat := Int.pow_pos (by decide)
    have : c01 (F k) = 0 ∨ c01 (F k) = 1 := by omega
    rcases this with h | h <;> rw [h] <;> omega
set_option maxHeartbeats 400000 in
theorem A_X4_listsThatEndIt (l : Launch) (g : Cx) (M : FMem) (M0 : FMem) (r : Nat) (kw li one two : Int) (hk : kw ≤ 80) (hR : RD M0 r kw li one two M) : AMi l g true fi_X4_listsThatEndIt [fr 34, fr 20] 93 M (fun q M2 => OffX M0 M2 ∧ q = maskS (fun l => Feas (SolT M0 r kw l (-1) (-1) 0)) 6) := by
  refine AMi_intro [fr 34, fr 20, fu, fu] (by decide) (knall rfl) (Nat.le_of_ble_eq_true rfl) rfl ?_
  intro hNV hM0 μ
  have lp4 : ∀ (kq : Nat) (m lz : Int) (M1 : FMem) (li1 one1 two1 : Int), (6 - lz).toNat = kq → (0 ≤ lz ∧ lz ≤ 6) → (m = maskS (fun l => Feas (SolT M0 r kw l (-1) (-1) 0)) lz) → (RD M0 r kw li1 one1 two1 M1) → Wa l g true fi_X4_listsThatEndIt 93 μ (Zi g true fi_X4_listsThatEndIt 93 μ (fun q M2 => OffX M0 M2 ∧ q = maskS (fun l => Feas (SolT M0 r kw l (-1) (-1) 0)) 6)) 4 [] [fr 34, fr 20, fi m, fi lz] 93 M1 := by
    intro kq
    induction kq using Nat.strongRecOn with
    | _ kq ih4 =>
    intro m lz M1 li1 one1 two1 hk4 h0 h1 h2
    refine z_iload_n dX4_listsThatEndIt_4 rfl ?_
    refine z_bipush dX4_listsThatEndIt_5 ⟨by decide, by decide⟩ (by decide) ?_
    refine z_icmp_ge (tgt := 40) dX4_listsThatEndIt_7 (by decide) (fun c1 => ?_) (fun c1 => ?_)
    · refine z_iload_n dX4_listsThatEndIt_40 rfl ?_
      refine z_iret rfl (by decide) rfl (Nat.sub_self _) dX4_listsThatEndIt_41 ?_
      refine ⟨RD_X h2, ?_⟩
      rw [h1, show lz = 6 by omega]
    · refine z_aload_nr dX4_listsThatEndIt_10 rfl ?_
      refine z_iload_n dX4_listsThatEndIt_11 rfl ?_
      refine z_iconst dX4_listsThatEndIt_12 ⟨by decide, by decide⟩ ?_
      refine z_iconst dX4_listsThatEndIt_13 ⟨by decide, by decide⟩ ?_
      refine z_callVv (n2 := 93) (A_X1_leaveOut l g M1 lz (-1) (-1)) cb_X1_leaveOut cl_X4_39 (clr0 rfl rfl (by decide) (by decide)) rfl (by decide) ⟨_, rfl, rfl⟩ rfl (by decide) rfl (Nat.le_of_ble_eq_true rfl) rfl dX4_listsThatEndIt_14 (fun Mz2 kMz2 hc2 => ?_)
      have hR2 := RD_leave (li' := lz) (one' := -1) (two' := -1) h2 hk hc2
      refine z_iload_n dX4_listsThatEndIt_17 rfl ?_
      refine z_aload_nr dX4_listsThatEndIt_18 rfl ?_
      refine z_callVi (n2 := 93) (A_X1_quarrels l g Mz2 (hR2.2.1)) cb_X1_quarrels cl_X4_30 (clr0 rfl rfl (by decide) (by decide)) rfl (by decide) ⟨_, rfl, rfl⟩ rfl (by decide) rfl (Nat.le_of_ble_eq_true rfl) rfl dX4_listsThatEndIt_19 (fun x3 Mz3 bx3 kMz3 hc3 => ?_)
      have hR3 := RD_way hR2 hc3.1
      have hqq := quar hR2 hc3.2
      refine z_if_eq (tgt := 29) dX4_listsThatEndIt_22 (by decide) (fun c4 => ?_) (fun c4 => ?_)
      · refine z_iconst dX4_listsThatEndIt_29 ⟨by decide, by decide⟩ ?_
        refine z_iload_n dX4_listsThatEndIt_30 rfl ?_
        refine z_ishl dX4_listsThatEndIt_31 (fun x5 hx5 bx5 => ?_)
        refine z_ior dX4_listsThatEndIt_32 (fun x6 hx6 bx6 => ?_)
        refine z_istore_n (loc2 := [fr 34, fr 20, fi x6, fi lz]) dX4_listsThatEndIt_33 (by decide) rfl ?_
        refine z_iinc (loc2 := fun vq => [fr 34, fr 20, fi x6, fi vq]) dX4_listsThatEndIt_34 rfl (by decide) (by omega) (fun _ => rfl) (fun x7 hx7 => ?_)
        refine z_goto (tgt := 4) dX4_listsThatEndIt_37 (by decide) ?_
        have hmask : x6 = maskS (fun l => Feas (SolT M0 r kw l (-1) (-1) 0)) (lz + 1) := by
          have hb := mask_b (fun l => Feas (SolT M0 r kw l (-1) (-1) 0)) lz h0.1
          rw [← h1] at hb
          have ho := or_bit h0.1 (by omega) hb.1 hb.2
          unfold maskS at h1 ⊢
          rw [sumI_succ h0.1, ← h1]
          rcases hqq with ⟨q1, q2⟩ | ⟨q1, q2⟩
          · first
            | (exfalso; omega)
            | (rw [c01_t q2, Int.one_mul]; subst_vars; exact ho.1)
          · first
            | (exfalso; omega)
            | (rw [c01_f q2, Int.zero_mul, Int.add_zero]; subst_vars; exact ho.2)
        exact ih4 _ (by omega) x6 x7 Mz3 lz (-1) (-1) rfl (by omega) (by rw [hx7]; exact hmask) (hR3)
      · refine z_iconst dX4_listsThatEndIt_25 ⟨by decide, by decide⟩ ?_
        refine z_goto (tgt := 32) dX4_listsThatEndIt_26 (by decide) ?_
        refine z_ior dX4_listsThatEndIt_32 (fun x8 hx8 bx8 => ?_)
        refine z_istore_n (loc2 := [fr 34, fr 20, fi x8, fi lz]) dX4_listsThatEndIt_33 (by decide) rfl ?_
        refine z_iinc (loc2 := fun vq => [fr 34, fr 20, fi x8, fi vq]) dX4_listsThatEndIt_34 rfl (by decide) (by omega) (fun _ => rfl) (fun x9 hx9 => ?_)
        refine z_goto (tgt := 4) dX4_listsThatEndIt_37 (by decide) ?_
        have hmask : x8 = maskS (fun l => Feas (SolT M0 r kw l (-1) (-1) 0)) (lz + 1) := by
          have hb := mask_b (fun l => Feas (SolT M0 r kw l (-1) (-1) 0)) lz h0.1
          rw [← h1] at hb
          have ho := or_bit h0.1 (by omega) hb.1 hb.2
          unfold maskS at h1 ⊢
          rw [sumI_succ h0.1, ← h1]
          rcases hqq with ⟨q1, q2⟩ | ⟨q1, q2⟩
          · first
            | (exfalso; omega)
            | (rw [c01_t q2, Int.one_mul]; subst_vars; exact ho.1)
          · first
            | (exfalso; omega)
            | (rw [c01_f q2, Int.zero_mul, Int.add_zero]; subst_vars; exact ho.2)
        exact ih4 _ (by omega) x8 x9 Mz3 lz (-1) (-1) rfl (by omega) (by rw [hx9]; exact hmask) (hR3)
  refine z_iconst dX4_listsThatEndIt_0 ⟨by decide, by decide⟩ ?_
  refine z_istore_n (loc2 := [fr 34, fr 20, fi 0, fu]) dX4_listsThatEndIt_1 (by decide) rfl ?_
  refine z_iconst dX4_listsThatEndIt_2 ⟨by decide, by decide⟩ ?_
  refine z_istore_n (loc2 := [fr 34, fr 20, fi 0, fi 0]) dX4_listsThatEndIt_3 (by decide) rfl ?_
  exact lp4 _ 0 0 M li one two rfl (by omega) (rfl) (hR)
set_option maxHeartbeats 400000 in
theorem A_X4_isAhead (l : Launch) (g : Cx) (M : FMem) (a b : Int) : AMi l g true fi_X4_isAhead [fr 34, fi a, fi b] 93 M (fun r M2 => M2 = M ∧ (fun q => q = if M 34 3 = -1 ∨ a < M 34 3 ∨ (a = M 34 3 ∧ b < M 34 4) then 1 else 0) r) := by
  refine AMi_intro [fr 34, fi a, fi b] (by decide) (knall rfl) (Nat.le_of_ble_eq_true rfl) rfl ?_
  intro hNV hM0 μ
  have ba : N32 a := hNV (fi a) (by simp)
  have bb : N32 b := hNV (fi b) (by simp)
  refine z_aload_nr dX4_isAhead_0 rfl ?_
  refine z_geti (kz := 3) fl_X4_24 rfl (by decide) rfl dX4_isAhead_1 (fun x1 hx1 bx1 => ?_)
  refine z_iconst dX4_isAhead_4 ⟨by decide, by decide⟩ ?_
  refine z_icmp_eq (tgt := 32) dX4_isAhead_5 (by decide) (fun c2 => ?_) (fun c2 => ?_)
  · refine z_iconst dX4_isAhead_32 ⟨by decide, by decide⟩ ?_
    refine z_goto (tgt := 37) dX4_isAhead_33 (by decide) ?_
    refine z_zret rfl (by omega) (by decide) rfl (Nat.sub_self _) dX4_isAhead_37 ?_
    refine ⟨rfl, ?_⟩
    first | (rw [if_pos (by omega)]) | (rw [if_neg (by omega)])
  · refine z_iload_n dX4_isAhead_8 rfl ?_
    refine z_aload_nr dX4_isAhead_9 rfl ?_
    refine z_geti (kz := 3) fl_X4_24 rfl (by decide) rfl dX4_isAhead_10 (fun x3 hx3 bx3 => ?_)
    refine z_icmp_lt (tgt := 32) dX4_isAhead_13 (by decide) (fun c4 => ?_) (fun c4 => ?_)
    · refine z_iconst dX4_isAhead_32 ⟨by decide, by decide⟩ ?_
      refine z_goto (tgt := 37) dX4_isAhead_33 (by decide) ?_
      refine z_zret rfl (by omega) (by decide) rfl (Nat.sub_self _) dX4_isAhead_37 ?_
      refine ⟨rfl, ?_⟩
      first | (rw [if_pos (by omega)]) | (rw [if_neg (by omega)])
    · refine z_iload_n dX4_isAhead_16 rfl ?_
      refine z_aload_nr dX4_isAhead_17 rfl ?_
      refine z_geti (kz := 3) fl_X4_24 rfl (by decide) rfl dX4_isAhead_18 (fun x5 hx5 bx5 => ?_)
      refine z_icmp_ne (tgt := 36) dX4_isAhead_21 (by decide) (fun c6 => ?_) (fun c6 => ?_)
      · refine z_iconst dX4_isAhead_36 ⟨by decide, by decide⟩ ?_
        refine z_zret rfl (by omega) (by decide) rfl (Nat.sub_self _) dX4_isAhead_37 ?_
        refine ⟨rfl, ?_⟩
        first | (rw [if_pos (by omega)]) | (rw [if_neg (by omega)])
      · refine z_iload_n dX4_isAhead_24 rfl ?_
        refine z_aload_nr dX4_isAhead_25 rfl ?_
        refine z_geti (kz := 4) fl_X4_27 rfl (by decide) rfl dX4_isAhead_26 (fun x7 hx7 bx7 => ?_)
        refine z_icmp_ge (tgt := 36) dX4_isAhead_29 (by decide) (fun c8 => ?_) (fun c8 => ?_)
        · refine z_iconst dX4_isAhead_36 ⟨by decide, by decide⟩ ?_
          refine z_zret rfl (by omega) (by decide) rfl (Nat.sub_self _) dX4_isAhead_37 ?_
          refine ⟨rfl, ?_⟩
          first | (rw [if_pos (by omega)]) | (rw [if_neg (by omega)])
        · refine z_iconst dX4_isAhead_32 ⟨by decide, by decide⟩ ?_
          refine z_goto (tgt := 37) dX4_isAhead_33 (by decide) ?_
          refine z_zret rfl (by omega) (by decide) rfl (Nat.sub_self _) dX4_isAhead_37 ?_
          refine ⟨rfl, ?_⟩
          first | (rw [if_pos (by omega)]) | (rw [if_neg (by omega)])
def lexle (a b c d : Int) : Prop := a < c ∨ (a = c ∧ b ≤ d)
/-- the first pair of a set of pairs, or none -/
def Best2 (P : Int → Int → Prop) (fe fi se : Int) : Prop := (fe = -1 ∧ fi = -1 ∧ se = -1 ∧ ∀ a b, ¬ P a b) ∨ (fe = 2 ∧ 0 ≤ fi ∧ fi < se ∧ P fi se ∧ ∀ a b, P a b → lexle fi se a b)
theorem Best2_congr {P Q : Int → Int → Prop} {fe fi se : Int} (h : Best2 P fe fi se) (hPQ : ∀ a b, P a b ↔ Q a b) : Best2 Q fe fi se := by
  rcases h with ⟨h1, h2, h3, h4⟩ | ⟨h1, h2, h3, h4, h5⟩
  · exact Or.inl ⟨h1, h2, h3, fun a b q => h4 a b ((hPQ a b).mpr q)⟩
  · exact Or.inr ⟨h1, h2, h3, (hPQ _ _).mp h4, fun a b q => h5 a b ((hPQ a b).mpr q)⟩
/-- one more pair, that is ahead: it's the first now -/
theorem Best2_add {P : Int → Int → Prop} {fe fi se a b : Int} (h : Best2 P fe fi se) (ha : 0 ≤ a ∧ a < b) (hah : fi = -1 ∨ a < fi ∨ (a = fi ∧ b < se)) : Best2 (fun c d => P c d ∨ (c = a ∧ d = b)) 2 a b := by
  refine Or.inr ⟨rfl, ha.1, ha.2, Or.inr ⟨rfl, rfl⟩, fun c d q => ?_⟩
  rcases q with q | ⟨rfl, rfl⟩
  · rcases h with ⟨-, -, -, h4⟩ | ⟨h1, h2, h3, h4, h5⟩
    · exact absurd q (h4 c d)
    · have := h5 c d q
      unfold lexle at this ⊢
      omega
  · unfold lexle; omega
theorem Best2_skip {P : Int → Int → Prop} {fe fi se a b : Int} (h : Best2 P fe fi se) (hah : ¬ (fi = -1 ∨ a < fi ∨ (a = fi ∧ b < se))) : Best2 (fun c d => P c d ∨ (c = a ∧ d = b)) fe fi se := by
  rcases h with ⟨h1, h2, h3, h4⟩ | ⟨h1, h2, h3, h4, h5⟩
  · omega
  · refine Or.inr ⟨h1, h2, h3, Or.inl h4, fun c d q => ?_⟩
    rcases q with q | ⟨rfl, rfl⟩
    · exact h5 c d q
    · unfold lexle; omega
theorem SolT_sym {M : FMem} {r : Nat} {kw li a b w : Int} : SolT M r kw li a b w = SolT M r kw li b a w := by
  funext x
  apply propext
  constructor <;> intro h i i0 i1 i2 i3 i4 i5 <;> exact h i i0 i1 i2 i3 i5 i4
theorem pair_cong {M : FMem} {r : Nat} {kw one j a b : Int} (h : (a = one ∧ b = j) ∨ (a = j ∧ b = one)) : Feas (SolT M r kw (-1) a b 0) ↔ Feas (SolT M r kw (-1) one j 0) := by
  rcases h with ⟨rfl, rfl⟩ | ⟨rfl, rfl⟩
  · exact Iff.rfl
  · rw [SolT_sym]
/-- whatever ends the quarrel takes one of a ring that can't hold -/
theorem ring_has {M M2 : FMem} {r : Nat} {kw one two j : Int} {R : Int → Int} {m : Int} (hk : kw ≤ 80) (h : RD M r kw (-1) one two M2) (hT : TR (-1) one two M2) (hR : ∀ k, 0 ≤ k → k < m → ∃ q, 0 ≤ q ∧ q < M2 20 7 ∧ R k = M2 27 q) (hno : ∀ x, ¬ ∀ k, 0 ≤ k → k < m → TS M2 x (R k)) {a b : Int} (hf : Feas (SolT M r kw (-1) a b 0)) (hab : ∀ i, i = a ∨ i = b → i = one ∨ i = two ∨ i = j) : ∃ k, 0 ≤ k ∧ k < m ∧ R k = j := by
  obtain ⟨x, hx⟩ := hf
  by_cases e : ∃ k, 0 ≤ k ∧ k < m ∧ R k = j
  · exact e
  · exfalso
    refine hno x (fun k k0 k1 => ?_)
    obtain ⟨q, q0, q1, q2⟩ := hR k k0 k1
    have hs := hT q q0 q1
    rw [← q2] at hs
    refine (LD_sol h.1 hk (-1) a b x).mpr hx (R k) ⟨hs.1, hs.2.1, hs.2.2.1, hs.2.2.2.1, fun z => ?_, fun z => ?_⟩
    · rcases hab _ (Or.inl z) with y | y | y
      · exact hs.2.2.2.2.1 y
      · exact hs.2.2.2.2.2 y
      · exact e ⟨k, k0, k1, y⟩
    · rcases hab _ (Or.inr z) with y | y | y
      · exact hs.2.2.2.2.1 y
      · exact hs.2.2.2.2.2 y
      · exact e ⟨k, k0, k1, y⟩
set_option maxHeartbeats 400000 in
theorem A_X4_seekPairs (l : Launch) (g : Cx) (M : FMem) (one : Int) (M0 : FMem) (r : Nat) (kw li0 one0 two0 : Int) (P0 : Int → Int → Prop) (hk : kw ≤ 80) (hR : RD M0 r kw li0 one0 two0 M) (ho : 0 ≤ one ∧ one < 80) (hno : ¬ Feas (SolT M0 r kw (-1) one (-1) 0)) (hB : Best2 P0 (M 34 2) (M 34 3) (M 34 4)) : AMv l g true fi_X4_seekPairs [fr 34, fr 20, fi one] 93 M (fun M2 => (∀ b j, (b < 20 ∨ 36 < b ∨ b = 35) → M2 b j = M b j) ∧ (∃ li1 one1 two1, RD M0 r kw li1 one1 two1 M2) ∧ Best2 (fun a b => P0 a b ∨ (∃ j : Int, 0 ≤ j ∧ Feas (SolT M0 r kw (-1) one j 0) ∧ ((a = one ∧ b = j) ∨ (a = j ∧ b = one)) ∧ a < b)) (M2 34 2) (M2 34 3) (M2 34 4)) := by
  refine AMv_intro [fr 34, fr 20, fi one, fu, fu, fu, fu] (by decide) (knall rfl) (Nat.le_of_ble_eq_true rfl) rfl ?_
  intro hNV hM0 μ
  have bone : N32 one := hNV (fi one) (by simp)
  refine z_aload_nr dX4_seekPairs_0 rfl ?_
  refine z_iconst dX4_seekPairs_1 ⟨by decide, by decide⟩ ?_
  refine z_iload_n dX4_seekPairs_2 rfl ?_
  refine z_iconst dX4_seekPairs_3 ⟨by decide, by decide⟩ ?_
  refine z_callVv (n2 := 93) (A_X1_leaveOut l g M (-1) one (-1)) cb_X1_leaveOut cl_X4_39 (clr0 rfl rfl (by decide) (by decide)) rfl (by decide) ⟨_, rfl, rfl⟩ rfl (by decide) rfl (Nat.le_of_ble_eq_true rfl) rfl dX4_seekPairs_4 (fun Mz1 kMz1 hc1 => ?_)
  have hR2 := RD_leave (li' := -1) (one' := one) (two' := -1) hR hk hc1
  have hT2 := TR_lo hc1
  have ho2 : ∀ b j, (b < 20 ∨ 36 < b ∨ b = 35) → Mz1 b j = M b j := fun b j q => hc1.1 b j (by omega) (by omega)
  have hs2 : ∀ j, Mz1 34 j = M 34 j := fun j => hc1.1 34 j (by decide) (by omega)
  refine z_aload_nr dX4_seekPairs_7 rfl ?_
  refine z_aload_nr dX4_seekPairs_8 rfl ?_
  refine z_getr (b := 36) fl_X4_17 rfl (by decide) rf_34_1 rfl dX4_seekPairs_9 ?_
  refine z_callVi (n2 := 93) (A_X1_findRing36 l g Mz1 (hR2.2.1)) cb_X1_findRing cl_X4_43 (clr0 rfl rfl (by decide) (by decide)) rfl (by decide) ⟨_, rfl, rfl⟩ rfl (by decide) rfl (Nat.le_of_ble_eq_true rfl) rfl dX4_seekPairs_12 (fun x2 Mz2 bx2 kMz2 hc2 => ?_)
  have hR3 : RD M0 r kw (-1) one (-1) Mz2 := RD_off hR2 (fun b j q => hc2.1 b j (by omega) (by omega) (by omega))
  have ho3 : ∀ b j, (b < 20 ∨ 36 < b ∨ b = 35) → Mz2 b j = M b j := fun b j q => (hc2.1 b j (by omega) (by omega) (by omega)).trans (ho2 b j q)
  have hs3 : ∀ j, Mz2 34 j = M 34 j := fun j => (hc2.1 34 j (by decide) (by decide) (by decide)).trans (hs2 j)
  have hring : 1 ≤ x2 ∧ x2 ≤ 17 ∧ (∀ k, 0 ≤ k → k < x2 → 0 ≤ Mz2 36 k ∧ Mz2 36 k < 80 ∧ Mz2 36 k ≠ one) ∧ (∀ j, Feas (SolT M0 r kw (-1) one j 0) → ∃ k, 0 ≤ k ∧ k < x2 ∧ Mz2 36 k = j) := by
    rcases hc2.2 with ⟨_, x, q⟩ | ⟨q1, q2, q3, q4⟩
    · exact absurd ⟨x, (hR2.2.2 x).mp q⟩ hno
    · refine ⟨q1, q2, fun k k0 k1 => ?_, fun j hj => ring_has hk hR2 hT2 q3 q4 hj (fun i hi => by omega)⟩
      obtain ⟨q, a0, a1, a2⟩ := q3 k k0 k1
      have := hT2 q a0 a1
      rw [← a2] at this
      exact ⟨this.1, this.2.1, this.2.2.2.2.1⟩
  refine z_istore_n (loc2 := [fr 34, fr 20, fi one, fi x2, fu, fu, fu]) dX4_seekPairs_15 (by decide) rfl ?_
  have lp19 : ∀ (kq : Nat) (k : Int) (M1 : FMem) (li1 one1 two1 : Int), (x2 - k).toNat = kq → (0 ≤ k ∧ k ≤ x2) → (∀ b j, (b < 20 ∨ 36 < b ∨ b = 35) → M1 b j = M b j) → (RD M0 r kw li1 one1 two1 M1) → (∀ j, M1 36 j = Mz2 36 j) → (Best2 (fun a b => P0 a b ∨ (∃ t : Int, 0 ≤ t ∧ t < k ∧ Feas (SolT M0 r kw (-1) one (Mz2 36 t) 0) ∧ ((a = one ∧ b = Mz2 36 t) ∨ (a = Mz2 36 t ∧ b = one)) ∧ a < b)) (M1 34 2) (M1 34 3) (M1 34 4)) → Wa l g true fi_X4_seekPairs 93 μ (Zv g true fi_X4_seekPairs 93 μ (fun M2 => (∀ b j, (b < 20 ∨ 36 < b ∨ b = 35) → M2 b j = M b j) ∧ (∃ li1 one1 two1, RD M0 r kw li1 one1 two1 M2) ∧ Best2 (fun a b => P0 a b ∨ (∃ j : Int, 0 ≤ j ∧ Feas (SolT M0 r kw (-1) one j 0) ∧ ((a = one ∧ b = j) ∨ (a = j ∧ b = one)) ∧ a < b)) (M2 34 2) (M2 34 3) (M2 34 4))) 19 [] [fr 34, fr 20, fi one, fi x2, fi k, fu, fu] 93 M1 := by
    intro kq
    induction kq using Nat.strongRecOn with
    | _ kq ih19 =>
    intro k M1 li1 one1 two1 hk19 h0 h1 h2 h3 h4
    have hrk := h3 k
    refine z_iload dX4_seekPairs_19 rfl ?_
    refine z_iload_n dX4_seekPairs_21 rfl ?_
    refine z_icmp_ge (tgt := 101) dX4_seekPairs_22 (by decide) (fun c3 => ?_) (fun c3 => ?_)
    · refine z_vret rfl (by decide) rfl (Nat.sub_self _) dX4_seekPairs_101 ?_
      refine ⟨h1, ⟨_, _, _, h2⟩, Best2_congr h4 (fun a b => ?_)⟩
      constructor
      · rintro (q | ⟨t, t0, t1, t2, t3, t4⟩)
        · exact Or.inl q
        · exact Or.inr ⟨_, (hring.2.2.1 t t0 (by omega)).1, t2, t3, t4⟩
      · rintro (q | ⟨j, j0, j1, j2, j3⟩)
        · exact Or.inl q
        · obtain ⟨t, t0, t1, rfl⟩ := hring.2.2.2 j j1
          exact Or.inr ⟨t, t0, by omega, j1, j2, j3⟩
    · refine z_iload_n dX4_seekPairs_25 rfl ?_
      refine z_aload_nr dX4_seekPairs_26 rfl ?_
      refine z_getr (b := 36) fl_X4_17 rfl (by decide) rf_34_1 rfl dX4_seekPairs_27 ?_
      refine z_iload dX4_seekPairs_30 rfl ?_
      refine z_iald rfl (by decide) (by omega) (by omega) dX4_seekPairs_32 (fun x4 hx4 bx4 => ?_)
      refine z_callSip (n2 := 93) (A_J9_min_7cf53 l g M1 one x4) cb_J9_min_7cf53 cl_X4_51 (clr0 rfl rfl (by decide) (by decide)) rfl (by decide) rfl (Nat.le_of_ble_eq_true rfl) rfl dX4_seekPairs_33 (fun x5 bx5 hx5 => ?_)
      have hmi : (x5 = one ∧ one ≤ M1 36 k) ∨ (x5 = M1 36 k ∧ M1 36 k ≤ one) := by rw [hx5]; split <;> omega
      refine z_istore (loc2 := [fr 34, fr 20, fi one, fi x2, fi k, fi x5, fu]) dX4_seekPairs_36 (by decide) rfl ?_
      refine z_iload_n dX4_seekPairs_38 rfl ?_
      refine z_aload_nr dX4_seekPairs_39 rfl ?_
      refine z_getr (b := 36) fl_X4_17 rfl (by decide) rf_34_1 rfl dX4_seekPairs_40 ?_
      refine z_iload dX4_seekPairs_43 rfl ?_
      refine z_iald rfl (by decide) (by omega) (by omega) dX4_seekPairs_45 (fun x6 hx6 bx6 => ?_)
      refine z_callSip (n2 := 93) (A_J9_max_7cf53 l g M1 one x6) cb_J9_max_7cf53 cl_X4_57 (clr0 rfl rfl (by decide) (by decide)) rfl (by decide) rfl (Nat.le_of_ble_eq_true rfl) rfl dX4_seekPairs_46 (fun x7 bx7 hx7 => ?_)
      have hma : (x7 = one ∧ M1 36 k ≤ one) ∨ (x7 = M1 36 k ∧ one ≤ M1 36 k) := by rw [hx7]; split <;> omega
      refine z_istore (loc2 := [fr 34, fr 20, fi one, fi x2, fi k, fi x5, fi x7]) dX4_seekPairs_49 (by decide) rfl ?_
      have hrr := hring.2.2.1 k h0.1 (by omega)
      have hmm : (x5 = one ∧ x7 = Mz2 36 k) ∨ (x5 = Mz2 36 k ∧ x7 = one) := by omega
      have hlt : 0 ≤ x5 ∧ x5 < x7 := by omega
      refine z_aload_nr dX4_seekPairs_51 rfl ?_
      refine z_iconst dX4_seekPairs_52 ⟨by decide, by decide⟩ ?_
      refine z_iload dX4_seekPairs_53 rfl ?_
      refine z_iload dX4_seekPairs_55 rfl ?_
      refine z_callVv (n2 := 93) (A_X1_leaveOut l g M1 (-1) x5 x7) cb_X1_leaveOut cl_X4_39 (clr0 rfl rfl (by decide) (by decide)) rfl (by decide) ⟨_, rfl, rfl⟩ rfl (by decide) rfl (Nat.le_of_ble_eq_true rfl) rfl dX4_seekPairs_57 (fun Mz8 kMz8 hc8 => ?_)
      have hR4 := RD_leave (li' := -1) (one' := x5) (two' := x7) h2 hk hc8
      have hoff4 : ∀ b j, (b < 20 ∨ 36 < b ∨ b = 35) → Mz8 b j = M b j := fun b j q => (hc8.1 b j (by omega) (by omega)).trans (h1 b j q)
      have hfz : ∀ j, Mz8 34 j = M1 34 j := fun j => hc8.1 34 j (by decide) (by omega)
      have hz3 := hfz 3
      have hz4 := hfz 4
      have hr36a : ∀ j, Mz8 36 j = Mz2 36 j := fun j => (hc8.1 36 j (by decide) (by omega)).trans (h3 j)
      refine z_aload_nr dX4_seekPairs_60 rfl ?_
      refine z_iload dX4_seekPairs_61 rfl ?_
      refine z_iload dX4_seekPairs_63 rfl ?_
      refine z_callVip (n2 := 93) (A_X4_isAhead l g Mz8 x5 x7) cb_X4_isAhead cl_X4_60 (clr0 rfl rfl (by decide) (by decide)) rfl (by decide) ⟨_, rfl, rfl⟩ rfl (by decide) rfl (Nat.le_of_ble_eq_true rfl) rfl dX4_seekPairs_65 (fun x9 bx9 hx9 => ?_)
      have i9 := if01 hx9
      refine z_if_eq (tgt := 95) dX4_seekPairs_68 (by decide) (fun c10 => ?_) (fun c10 => ?_)
      · try have hu2 : Mz8 34 2 = 2 := by rw [hNONE]; simp [st]
        try have hu3 : Mz8 34 3 = x5 := by rw [hNONE]; simp [st]
        try have hu4 : Mz8 34 4 = x7 := by rw [hNONE]; simp [st]
        try have hoff6 : ∀ b j, (b < 20 ∨ 36 < b ∨ b = 35) → Mz8 b j = M b j := by intro b j q; rw [hNONE, st_cell (by omega), st_cell (by omega), st_cell (by omega)]; exact hoff5 b j q
        try have hr36c : ∀ j, Mz8 36 j = Mz2 36 j := by intro j; rw [hNONE, st_cell (by omega), st_cell (by omega), st_cell (by omega)]; exact hr36b j
        try have hR6 : RD M0 r kw (-1) x5 x7 Mz8 := RD_off hR5 (fun b j q => by rw [hNONE, st_cell (by omega), st_cell (by omega), st_cell (by omega)])
        have hoffz : ∀ b j, (b < 20 ∨ 36 < b ∨ b = 35) → Mz8 b j = M b j := by
          first
          | exact hoff6
          | exact hoff5
          | exact hoff4
        have hr36z : ∀ j, Mz8 36 j = Mz2 36 j := by
          first
          | exact hr36c
          | exact hr36b
          | exact hr36a
        have hRz : RD M0 r kw (-1) x5 x7 Mz8 := by
          first
          | exact hR6
          | exact hR5
          | exact hR4
        refine z_iinc (loc2 := fun vq => [fr 34, fr 20, fi one, fi x2, fi vq, fi x5, fi x7]) dX4_seekPairs_95 rfl (by decide) (by omega) (fun _ => rfl) (fun x11 hx11 => ?_)
        refine z_goto (tgt := 19) dX4_seekPairs_98 (by decide) ?_
        have hfin : (∀ b j, (b < 20 ∨ 36 < b ∨ b = 35) → Mz8 b j = M b j) ∧ (∀ j, Mz8 36 j = Mz2 36 j) ∧ RD M0 r kw (-1) x5 x7 Mz8 ∧ Best2 (fun a b => P0 a b ∨ (∃ t : Int, 0 ≤ t ∧ t < k + 1 ∧ Feas (SolT M0 r kw (-1) one (Mz2 36 t) 0) ∧ ((a = one ∧ b = Mz2 36 t) ∨ (a = Mz2 36 t ∧ b = one)) ∧ a < b)) (Mz8 34 2) (Mz8 34 3) (Mz8 34 4) := by
          have hiff : ∀ (Q : Int → Int → Prop), (∀ a b, Q a b ↔ (Feas (SolT M0 r kw (-1) one (Mz2 36 k) 0) ∧ a = x5 ∧ b = x7)) → ∀ a b, ((P0 a b ∨ (∃ t : Int, 0 ≤ t ∧ t < k ∧ Feas (SolT M0 r kw (-1) one (Mz2 36 t) 0) ∧ ((a = one ∧ b = Mz2 36 t) ∨ (a = Mz2 36 t ∧ b = one)) ∧ a < b)) ∨ Q a b) ↔ (P0 a b ∨ (∃ t : Int, 0 ≤ t ∧ t < k + 1 ∧ Feas (SolT M0 r kw (-1) one (Mz2 36 t) 0) ∧ ((a = one ∧ b = Mz2 36 t) ∨ (a = Mz2 36 t ∧ b = one)) ∧ a < b)) := by
            intro Q hQ a b
            constructor
            · rintro ((q | ⟨t, t0, t1, t2, t3, t4⟩) | q)
              · exact Or.inl q
              · exact Or.inr ⟨t, t0, by omega, t2, t3, t4⟩
              · obtain ⟨z1, z2, z3⟩ := (hQ a b).mp q
                exact Or.inr ⟨k, by omega, by omega, z1, by omega, by omega⟩
            · rintro (q | ⟨t, t0, t1, t2, t3, t4⟩)
              · exact Or.inl (Or.inl q)
              · by_cases e : t = k
                · subst e; exact Or.inr ((hQ a b).mpr ⟨t2, by omega, by omega⟩)
                · exact Or.inl (Or.inr ⟨t, t0, by omega, t2, t3, t4⟩)
          refine ⟨hoffz, hr36z, hRz, Best2_congr ?_ (hiff (fun a b => Feas (SolT M0 r kw (-1) one (Mz2 36 k) 0) ∧ a = x5 ∧ b = x7) (fun a b => Iff.rfl))⟩
          first
          | (have hf : Feas (SolT M0 r kw (-1) one (Mz2 36 k) 0) := (pair_cong hmm).mp (by rcases hqq with q | q; exact q.2; omega)
             have e := Best2_add (a := x5) (b := x7) h4 (by omega) (by omega)
             rw [hu2, hu3, hu4]
             exact Best2_congr e (fun a b => by constructor <;> rintro (q | q); exact Or.inl q; exact Or.inr ⟨hf, q⟩; exact Or.inl q; exact Or.inr q.2))
          | (have hf : ¬ Feas (SolT M0 r kw (-1) one (Mz2 36 k) 0) := fun z => by have z2 := (pair_cong hmm).mpr z; rcases hqq with q | q; omega; exact q.2 z2
             rw [hfq, hfq, hfq]
             exact Best2_congr h4 (fun a b => ⟨Or.inl, fun q => q.elim id (fun q => absurd q.1 hf)⟩))
          | (rw [hfz, hfz, hfz]
             by_cases hf : Feas (SolT M0 r kw (-1) one (Mz2 36 k) 0)
             · exact Best2_congr (Best2_skip (a := x5) (b := x7) h4 (by omega)) (fun a b => by constructor <;> rintro (q | q); exact Or.inl q; exact Or.inr ⟨hf, q⟩; exact Or.inl q; exact Or.inr q.2)
             · exact Best2_congr h4 (fun a b => ⟨Or.inl, fun q => q.elim id (fun q => absurd q.1 hf)⟩))
        refine z_few [fr 34, fr 20, fi one, fi x2, fi x11, fu, fu] (by simp [fle, kn]) ?_
        exact ih19 _ (by omega) x11 Mz8 (-1) x5 x7 rfl (by omega) (hfin.1) (hfin.2.2.1) (hfin.2.1) (by rw [hx11]; exact hfin.2.2.2)
      · refine z_aload_nr dX4_seekPairs_71 rfl ?_
        refine z_callVi (n2 := 93) (A_X1_quarrels l g Mz8 (hR4.2.1)) cb_X1_quarrels cl_X4_30 (clr0 rfl rfl (by decide) (by decide)) rfl (by decide) ⟨_, rfl, rfl⟩ rfl (by decide) rfl (Nat.le_of_ble_eq_true rfl) rfl dX4_seekPairs_72 (fun x12 Mz12 bx12 kMz12 hc12 => ?_)
        have hqq := quar hR4 hc12.2
        have hR5 := RD_way hR4 hc12.1
        have hoff5 : ∀ b j, (b < 20 ∨ 36 < b ∨ b = 35) → Mz12 b j = M b j := fun b j q => (hc12.1 b j (by omega) (by omega)).trans (hoff4 b j q)
        have hfq : ∀ j, Mz12 34 j = M1 34 j := fun j => (hc12.1 34 j (by decide) (by decide)).trans (hfz j)
        have hr36b : ∀ j, Mz12 36 j = Mz2 36 j := fun j => (hc12.1 36 j (by decide) (by decide)).trans (hr36a j)
        refine z_if_ne (tgt := 95) dX4_seekPairs_75 (by decide) (fun c13 => ?_) (fun c13 => ?_)
        · try have hu2 : Mz12 34 2 = 2 := by rw [hNONE]; simp [st]
          try have hu3 : Mz12 34 3 = x5 := by rw [hNONE]; simp [st]
          try have hu4 : Mz12 34 4 = x7 := by rw [hNONE]; simp [st]
          try have hoff6 : ∀ b j, (b < 20 ∨ 36 < b ∨ b = 35) → Mz12 b j = M b j := by intro b j q; rw [hNONE, st_cell (by omega), st_cell (by omega), st_cell (by omega)]; exact hoff5 b j q
          try have hr36c : ∀ j, Mz12 36 j = Mz2 36 j := by intro j; rw [hNONE, st_cell (by omega), st_cell (by omega), st_cell (by omega)]; exact hr36b j
          try have hR6 : RD M0 r kw (-1) x5 x7 Mz12 := RD_off hR5 (fun b j q => by rw [hNONE, st_cell (by omega), st_cell (by omega), st_cell (by omega)])
          have hoffz : ∀ b j, (b < 20 ∨ 36 < b ∨ b = 35) → Mz12 b j = M b j := by
            first
            | exact hoff6
            | exact hoff5
            | exact hoff4
          have hr36z : ∀ j, Mz12 36 j = Mz2 36 j := by
            first
            | exact hr36c
            | exact hr36b
            | exact hr36a
          have hRz : RD M0 r kw (-1) x5 x7 Mz12 := by
            first
            | exact hR6
            | exact hR5
            | exact hR4
          refine z_iinc (loc2 := fun vq => [fr 34, fr 20, fi one, fi x2, fi vq, fi x5, fi x7]) dX4_seekPairs_95 rfl (by decide) (by omega) (fun _ => rfl) (fun x14 hx14 => ?_)
          refine z_goto (tgt := 19) dX4_seekPairs_98 (by decide) ?_
          have hfin : (∀ b j, (b < 20 ∨ 36 < b ∨ b = 35) → Mz12 b j = M b j) ∧ (∀ j, Mz12 36 j = Mz2 36 j) ∧ RD M0 r kw (-1) x5 x7 Mz12 ∧ Best2 (fun a b => P0 a b ∨ (∃ t : Int, 0 ≤ t ∧ t < k + 1 ∧ Feas (SolT M0 r kw (-1) one (Mz2 36 t) 0) ∧ ((a = one ∧ b = Mz2 36 t) ∨ (a = Mz2 36 t ∧ b = one)) ∧ a < b)) (Mz12 34 2) (Mz12 34 3) (Mz12 34 4) := by
            have hiff : ∀ (Q : Int → Int → Prop), (∀ a b, Q a b ↔ (Feas (SolT M0 r kw (-1) one (Mz2 36 k) 0) ∧ a = x5 ∧ b = x7)) → ∀ a b, ((P0 a b ∨ (∃ t : Int, 0 ≤ t ∧ t < k ∧ Feas (SolT M0 r kw (-1) one (Mz2 36 t) 0) ∧ ((a = one ∧ b = Mz2 36 t) ∨ (a = Mz2 36 t ∧ b = one)) ∧ a < b)) ∨ Q a b) ↔ (P0 a b ∨ (∃ t : Int, 0 ≤ t ∧ t < k + 1 ∧ Feas (SolT M0 r kw (-1) one (Mz2 36 t) 0) ∧ ((a = one ∧ b = Mz2 36 t) ∨ (a = Mz2 36 t ∧ b = one)) ∧ a < b)) := by
              intro Q hQ a b
              constructor
              · rintro ((q | ⟨t, t0, t1, t2, t3, t4⟩) | q)
                · exact Or.inl q
                · exact Or.inr ⟨t, t0, by omega, t2, t3, t4⟩
                · obtain ⟨z1, z2, z3⟩ := (hQ a b).mp q
                  exact Or.inr ⟨k, by omega, by omega, z1, by omega, by omega⟩
              · rintro (q | ⟨t, t0, t1, t2, t3, t4⟩)
                · exact Or.inl (Or.inl q)
                · by_cases e : t = k
                  · subst e; exact Or.inr ((hQ a b).mpr ⟨t2, by omega, by omega⟩)
                  · exact Or.inl (Or.inr ⟨t, t0, by omega, t2, t3, t4⟩)
            refine ⟨hoffz, hr36z, hRz, Best2_congr ?_ (hiff (fun a b => Feas (SolT M0 r kw (-1) one (Mz2 36 k) 0) ∧ a = x5 ∧ b = x7) (fun a b => Iff.rfl))⟩
            first
            | (have hf : Feas (SolT M0 r kw (-1) one (Mz2 36 k) 0) := (pair_cong hmm).mp (by rcases hqq with q | q; exact q.2; omega)
               have e := Best2_add (a := x5) (b := x7) h4 (by omega) (by omega)
               rw [hu2, hu3, hu4]
               exact Best2_congr e (fun a b => by constructor <;> rintro (q | q); exact Or.inl q; exact Or.inr ⟨hf, q⟩; exact Or.inl q; exact Or.inr q.2))
            | (have hf : ¬ Feas (SolT M0 r kw (-1) one (Mz2 36 k) 0) := fun z => by have z2 := (pair_cong hmm).mpr z; rcases hqq with q | q; omega; exact q.2 z2
               rw [hfq, hfq, hfq]
               exact Best2_congr h4 (fun a b => ⟨Or.inl, fun q => q.elim id (fun q => absurd q.1 hf)⟩))
            | (rw [hfz, hfz, hfz]
               by_cases hf : Feas (SolT M0 r kw (-1) one (Mz2 36 k) 0)
               · exact Best2_congr (Best2_skip (a := x5) (b := x7) h4 (by omega)) (fun a b => by constructor <;> rintro (q | q); exact Or.inl q; exact Or.inr ⟨hf, q⟩; exact Or.inl q; exact Or.inr q.2)
               · exact Best2_congr h4 (fun a b => ⟨Or.inl, fun q => q.elim id (fun q => absurd q.1 hf)⟩))
          refine z_few [fr 34, fr 20, fi one, fi x2, fi x14, fu, fu] (by simp [fle, kn]) ?_
          exact ih19 _ (by omega) x14 Mz12 (-1) x5 x7 rfl (by omega) (hfin.1) (hfin.2.2.1) (hfin.2.1) (by rw [hx14]; exact hfin.2.2.2)
        · refine z_aload_nr dX4_seekPairs_78 rfl ?_
          refine z_iconst dX4_seekPairs_79 ⟨by decide, by decide⟩ ?_
          refine z_puti (kz := 2) fl_X4_20 rfl (by decide) rfl nr_34_2 dX4_seekPairs_80 (fun Mz15 hMz15 => ?_)
          refine z_aload_nr dX4_seekPairs_83 rfl ?_
          refine z_iload dX4_seekPairs_84 rfl ?_
          refine z_puti (kz := 3) fl_X4_24 rfl (by decide) rfl nr_34_3 dX4_seekPairs_86 (fun Mz16 hMz16 => ?_)
          refine z_aload_nr dX4_seekPairs_89 rfl ?_
          refine z_iload dX4_seekPairs_90 rfl ?_
          refine z_puti (kz := 4) fl_X4_27 rfl (by decide) rfl nr_34_4 dX4_seekPairs_92 (fun Mz17 hMz17 => ?_)
          try have hu2 : Mz17 34 2 = 2 := by rw [hMz17, hMz16, hMz15]; simp [st]
          try have hu3 : Mz17 34 3 = x5 := by rw [hMz17, hMz16, hMz15]; simp [st]
          try have hu4 : Mz17 34 4 = x7 := by rw [hMz17, hMz16, hMz15]; simp [st]
          try have hoff6 : ∀ b j, (b < 20 ∨ 36 < b ∨ b = 35) → Mz17 b j = M b j := by intro b j q; rw [hMz17, hMz16, hMz15, st_cell (by omega), st_cell (by omega), st_cell (by omega)]; exact hoff5 b j q
          try have hr36c : ∀ j, Mz17 36 j = Mz2 36 j := by intro j; rw [hMz17, hMz16, hMz15, st_cell (by omega), st_cell (by omega), st_cell (by omega)]; exact hr36b j
          try have hR6 : RD M0 r kw (-1) x5 x7 Mz17 := RD_off hR5 (fun b j q => by rw [hMz17, hMz16, hMz15, st_cell (by omega), st_cell (by omega), st_cell (by omega)])
          have hoffz : ∀ b j, (b < 20 ∨ 36 < b ∨ b = 35) → Mz17 b j = M b j := by
            first
            | exact hoff6
            | exact hoff5
            | exact hoff4
          have hr36z : ∀ j, Mz17 36 j = Mz2 36 j := by
            first
            | exact hr36c
            | exact hr36b
            | exact hr36a
          have hRz : RD M0 r kw (-1) x5 x7 Mz17 := by
            first
            | exact hR6
            | exact hR5
            | exact hR4
          refine z_iinc (loc2 := fun vq => [fr 34, fr 20, fi one, fi x2, fi vq, fi x5, fi x7]) dX4_seekPairs_95 rfl (by decide) (by omega) (fun _ => rfl) (fun x18 hx18 => ?_)
          refine z_goto (tgt := 19) dX4_seekPairs_98 (by decide) ?_
          have hfin : (∀ b j, (b < 20 ∨ 36 < b ∨ b = 35) → Mz17 b j = M b j) ∧ (∀ j, Mz17 36 j = Mz2 36 j) ∧ RD M0 r kw (-1) x5 x7 Mz17 ∧ Best2 (fun a b => P0 a b ∨ (∃ t : Int, 0 ≤ t ∧ t < k + 1 ∧ Feas (SolT M0 r kw (-1) one (Mz2 36 t) 0) ∧ ((a = one ∧ b = Mz2 36 t) ∨ (a = Mz2 36 t ∧ b = one)) ∧ a < b)) (Mz17 34 2) (Mz17 34 3) (Mz17 34 4) := by
            have hiff : ∀ (Q : Int → Int → Prop), (∀ a b, Q a b ↔ (Feas (SolT M0 r kw (-1) one (Mz2 36 k) 0) ∧ a = x5 ∧ b = x7)) → ∀ a b, ((P0 a b ∨ (∃ t : Int, 0 ≤ t ∧ t < k ∧ Feas (SolT M0 r kw (-1) one (Mz2 36 t) 0) ∧ ((a = one ∧ b = Mz2 36 t) ∨ (a = Mz2 36 t ∧ b = one)) ∧ a < b)) ∨ Q a b) ↔ (P0 a b ∨ (∃ t : Int, 0 ≤ t ∧ t < k + 1 ∧ Feas (SolT M0 r kw (-1) one (Mz2 36 t) 0) ∧ ((a = one ∧ b = Mz2 36 t) ∨ (a = Mz2 36 t ∧ b = one)) ∧ a < b)) := by
              intro Q hQ a b
              constructor
              · rintro ((q | ⟨t, t0, t1, t2, t3, t4⟩) | q)
                · exact Or.inl q
                · exact Or.inr ⟨t, t0, by omega, t2, t3, t4⟩
                · obtain ⟨z1, z2, z3⟩ := (hQ a b).mp q
                  exact Or.inr ⟨k, by omega, by omega, z1, by omega, by omega⟩
              · rintro (q | ⟨t, t0, t1, t2, t3, t4⟩)
                · exact Or.inl (Or.inl q)
                · by_cases e : t = k
                  · subst e; exact Or.inr ((hQ a b).mpr ⟨t2, by omega, by omega⟩)
                  · exact Or.inl (Or.inr ⟨t, t0, by omega, t2, t3, t4⟩)
            refine ⟨hoffz, hr36z, hRz, Best2_congr ?_ (hiff (fun a b => Feas (SolT M0 r kw (-1) one (Mz2 36 k) 0) ∧ a = x5 ∧ b = x7) (fun a b => Iff.rfl))⟩
            first
            | (have hf : Feas (SolT M0 r kw (-1) one (Mz2 36 k) 0) := (pair_cong hmm).mp (by rcases hqq with q | q; exact q.2; omega)
               have e := Best2_add (a := x5) (b := x7) h4 (by omega) (by omega)
               rw [hu2, hu3, hu4]
               exact Best2_congr e (fun a b => by constructor <;> rintro (q | q); exact Or.inl q; exact Or.inr ⟨hf, q⟩; exact Or.inl q; exact Or.inr q.2))
            | (have hf : ¬ Feas (SolT M0 r kw (-1) one (Mz2 36 k) 0) := fun z => by have z2 := (pair_cong hmm).mpr z; rcases hqq with q | q; omega; exact q.2 z2
               rw [hfq, hfq, hfq]
               exact Best2_congr h4 (fun a b => ⟨Or.inl, fun q => q.elim id (fun q => absurd q.1 hf)⟩))
            | (rw [hfz, hfz, hfz]
               by_cases hf : Feas (SolT M0 r kw (-1) one (Mz2 36 k) 0)
               · exact Best2_congr (Best2_skip (a := x5) (b := x7) h4 (by omega)) (fun a b => by constructor <;> rintro (q | q); exact Or.inl q; exact Or.inr ⟨hf, q⟩; exact Or.inl q; exact Or.inr q.2)
               · exact Best2_congr h4 (fun a b => ⟨Or.inl, fun q => q.elim id (fun q => absurd q.1 hf)⟩))
          refine z_few [fr 34, fr 20, fi one, fi x2, fi x18, fu, fu] (by simp [fle, kn]) ?_
          exact ih19 _ (by omega) x18 Mz17 (-1) x5 x7 rfl (by omega) (hfin.1) (hfin.2.2.1) (hfin.2.1) (by rw [hx18]; exact hfin.2.2.2)
  refine z_iconst dX4_seekPairs_16 ⟨by decide, by decide⟩ ?_
  refine z_istore (loc2 := [fr 34, fr 20, fi one, fi x2, fi 0, fu, fu]) dX4_seekPairs_17 (by decide) rfl ?_
  exact lp19 _ 0 Mz2 (-1) one (-1) rfl (by omega) (ho3) (hR3) (fun j => rfl) (by rw [hs3, hs3, hs3]; exact Best2_congr hB (fun a b => ⟨Or.inl, fun q => q.elim id (fun ⟨t, t0, t1, _⟩ => by omega)⟩))
/-- the fewest tellings to leave out: one, two, or none do -/
def OddS (F1 : Int → Prop) (F2 : Int → Int → Prop) (fe fi se : Int) : Prop := (fe = 1 ∧ 0 ≤ fi ∧ F1 fi ∧ (∀ i, 0 ≤ i → F1 i → fi ≤ i) ∧ se = -1) ∨ ((∀ i, 0 ≤ i → ¬ F1 i) ∧ Best2 (fun a b => 0 ≤ a ∧ a < b ∧ F2 a b) fe fi se)
theorem OddS_eq {F1 : Int → Prop} {F2 : Int → Int → Prop} {a b c a' b' c' : Int} (h : OddS F1 F2 a b c) (h' : OddS F1 F2 a' b' c') : a = a' ∧ b = b' ∧ c = c' := by
  rcases h with ⟨h1, h2, h3, h4, h5⟩ | ⟨h1, h2⟩ <;> rcases h' with ⟨g1, g2, g3, g4, g5⟩ | ⟨g1, g2⟩
  · have := h4 _ g2 g3; have := g4 _ h2 h3; omega
  · exact absurd h3 (g1 _ h2)
  · exact absurd g3 (h1 _ g2)
  · rcases h2 with ⟨q1, q2, q3, q4⟩ | ⟨q1, q2, q3, q4, q5⟩ <;> rcases g2 with ⟨r1, r2, r3, r4⟩ | ⟨r1, r2, r3, r4, r5⟩
    · omega
    · exact absurd r4 (q4 _ _)
    · exact absurd q4 (r4 _ _)
    · have := q5 _ _ r4
      have := r5 _ _ q4
      unfold lexle at *
      omega
set_option maxHeartbeats 400000 in
theorem A_X4_seekFewest (l : Launch) (g : Cx) (M : FMem) (M0 : FMem) (r : Nat) (kw : Int) (hk : kw ≤ 80) (hR : RD M0 r kw (-1) (-1) (-1) M) (hTr : TR (-1) (-1) (-1) M) (hq : ¬ Feas (SolT M0 r kw (-1) (-1) (-1) 0)) : AMv l g true fi_X4_seekFewest [fr 34, fr 20] 93 M (fun M2 => OffX M0 M2 ∧ OddS (fun a => Feas (SolT M0 r kw (-1) a (-1) 0)) (fun a b => Feas (SolT M0 r kw (-1) a b 0)) (M2 34 2) (M2 34 3) (M2 34 4)) := by
  refine AMv_intro [fr 34, fr 20, fu, fu] (by decide) (knall rfl) (Nat.le_of_ble_eq_true rfl) rfl ?_
  intro hNV hM0 μ
  refine z_aload_nr dX4_seekFewest_0 rfl ?_
  refine z_iconst dX4_seekFewest_1 ⟨by decide, by decide⟩ ?_
  refine z_puti (kz := 2) fl_X4_20 rfl (by decide) rfl nr_34_2 dX4_seekFewest_2 (fun Mz1 hMz1 => ?_)
  refine z_aload_nr dX4_seekFewest_5 rfl ?_
  refine z_iconst dX4_seekFewest_6 ⟨by decide, by decide⟩ ?_
  refine z_puti (kz := 3) fl_X4_24 rfl (by decide) rfl nr_34_3 dX4_seekFewest_7 (fun Mz2 hMz2 => ?_)
  refine z_aload_nr dX4_seekFewest_10 rfl ?_
  refine z_iconst dX4_seekFewest_11 ⟨by decide, by decide⟩ ?_
  refine z_puti (kz := 4) fl_X4_27 rfl (by decide) rfl nr_34_4 dX4_seekFewest_12 (fun Mz3 hMz3 => ?_)
  have hRb : RD M0 r kw (-1) (-1) (-1) Mz3 := RD_off hR (fun b j q => by rw [hMz3, hMz2, hMz1, st_cell (by omega), st_cell (by omega), st_cell (by omega)])
  have hTb : TR (-1) (-1) (-1) Mz3 := TR_off hTr (fun b j q => by rw [hMz3, hMz2, hMz1, st_cell (by omega), st_cell (by omega), st_cell (by omega)])
  have hb2 : Mz3 34 2 = -1 := by rw [hMz3, hMz2, hMz1]; simp [st]
  have hb3 : Mz3 34 3 = -1 := by rw [hMz3, hMz2, hMz1]; simp [st]
  have hb4 : Mz3 34 4 = -1 := by rw [hMz3, hMz2, hMz1]; simp [st]
  refine z_aload_nr dX4_seekFewest_15 rfl ?_
  refine z_aload_nr dX4_seekFewest_16 rfl ?_
  refine z_getr (b := 35) fl_X4_11 rfl (by decide) rf_34_0 rfl dX4_seekFewest_17 ?_
  refine z_callVi (n2 := 93) (A_X1_findRing35 l g Mz3 (hRb.2.1)) cb_X1_findRing cl_X4_43 (clr0 rfl rfl (by decide) (by decide)) rfl (by decide) ⟨_, rfl, rfl⟩ rfl (by decide) rfl (Nat.le_of_ble_eq_true rfl) rfl dX4_seekFewest_20 (fun x4 Mz4 bx4 kMz4 hc4 => ?_)
  have hR3 : RD M0 r kw (-1) (-1) (-1) Mz4 := RD_off hRb (fun b j q => hc4.1 b j (by omega) (by omega) (by omega))
  have hd2 : Mz4 34 2 = -1 := (hc4.1 34 _ (by decide) (by decide) (by decide)).trans hb2
  have hd3 : Mz4 34 3 = -1 := (hc4.1 34 _ (by decide) (by decide) (by decide)).trans hb3
  have hd4 : Mz4 34 4 = -1 := (hc4.1 34 _ (by decide) (by decide) (by decide)).trans hb4
  have hring : 1 ≤ x4 ∧ x4 ≤ 17 ∧ (∀ k, 0 ≤ k → k < x4 → 0 ≤ Mz4 35 k ∧ Mz4 35 k < 80) ∧ (∀ a b, Feas (SolT M0 r kw (-1) a b 0) → ∃ k, 0 ≤ k ∧ k < x4 ∧ (Mz4 35 k = a ∨ Mz4 35 k = b)) := by
    rcases hc4.2 with ⟨_, x, q⟩ | ⟨q1, q2, q3, q4⟩
    · exact absurd ⟨x, (hRb.2.2 x).mp q⟩ hq
    · refine ⟨q1, q2, fun k k0 k1 => ?_, fun a b hab => ?_⟩
      · obtain ⟨q, a0, a1, a2⟩ := q3 k k0 k1
        have := hTb q a0 a1
        rw [← a2] at this
        exact ⟨this.1, this.2.1⟩
      · by_cases e : ∃ k, 0 ≤ k ∧ k < x4 ∧ (Mz4 35 k = a ∨ Mz4 35 k = b)
        · exact e
        · exfalso
          obtain ⟨x, hx⟩ := hab
          refine q4 x (fun k k0 k1 => ?_)
          obtain ⟨q, p0, p1, p2⟩ := q3 k k0 k1
          have hs := hTb q p0 p1
          rw [← p2] at hs
          exact (LD_sol hRb.1 hk (-1) a b x).mpr hx _ ⟨hs.1, hs.2.1, hs.2.2.1, hs.2.2.2.1, fun z => e ⟨k, k0, k1, Or.inl z⟩, fun z => e ⟨k, k0, k1, Or.inr z⟩⟩
  refine z_istore_n (loc2 := [fr 34, fr 20, fi x4, fu]) dX4_seekFewest_23 (by decide) rfl ?_
  have lp94 : ∀ (kq : Nat) (k : Int) (M1 : FMem) (li1 one1 two1 : Int), (x4 - k).toNat = kq → (0 ≤ k ∧ k ≤ x4) → (RD M0 r kw li1 one1 two1 M1) → (∀ j, M1 35 j = Mz4 35 j) → ((M1 34 2 = 1 ∧ OddS (fun a => Feas (SolT M0 r kw (-1) a (-1) 0)) (fun a b => Feas (SolT M0 r kw (-1) a b 0)) (M1 34 2) (M1 34 3) (M1 34 4)) ∨ (M1 34 2 ≠ 1 ∧ (∀ i, 0 ≤ i → ¬ Feas (SolT M0 r kw (-1) i (-1) 0)) ∧ Best2 (fun a b => ∃ t, 0 ≤ t ∧ t < k ∧ ∃ j, 0 ≤ j ∧ Feas (SolT M0 r kw (-1) (Mz4 35 t) j 0) ∧ ((a = Mz4 35 t ∧ b = j) ∨ (a = j ∧ b = Mz4 35 t)) ∧ a < b) (M1 34 2) (M1 34 3) (M1 34 4))) → Wa l g true fi_X4_seekFewest 93 μ (Zv g true fi_X4_seekFewest 93 μ (fun M2 => OffX M0 M2 ∧ OddS (fun a => Feas (SolT M0 r kw (-1) a (-1) 0)) (fun a b => Feas (SolT M0 r kw (-1) a b 0)) (M2 34 2) (M2 34 3) (M2 34 4))) 94 [] [fr 34, fr 20, fi x4, fi k] 93 M1 := by
    intro kq
    induction kq using Nat.strongRecOn with
    | _ kq ih94 =>
    intro k M1 li1 one1 two1 hk94 h0 h2 h3 h4
    have hrk := h3 k
    refine z_iload_n dX4_seekFewest_94 rfl ?_
    refine z_iload_n dX4_seekFewest_95 rfl ?_
    refine z_icmp_ge (tgt := 124) dX4_seekFewest_96 (by decide) (fun c5 => ?_) (fun c5 => ?_)
    · refine z_vret rfl (by decide) rfl (Nat.sub_self _) dX4_seekFewest_124 ?_
      refine ⟨RD_X h2, ?_⟩
      rcases h4 with z | z
      · exact z.2
      · have hkm : k = x4 := by omega
        refine Or.inr ⟨z.2.1, Best2_congr z.2.2 (fun a b => ?_)⟩
        constructor
        · rintro ⟨t, t0, t1, j, j0, j1, j2, j3⟩
          have := (hring.2.2.1 t t0 (by omega)).1
          refine ⟨by omega, j3, ?_⟩
          rcases j2 with ⟨rfl, rfl⟩ | ⟨rfl, rfl⟩
          · exact j1
          · rw [SolT_sym]; exact j1
        · rintro ⟨a0, ab, hab⟩
          obtain ⟨t, t0, t1, z | z⟩ := hring.2.2.2 a b hab
          · exact ⟨t, t0, by omega, b, by omega, by rw [z]; exact hab, Or.inl ⟨z.symm, rfl⟩, ab⟩
          · exact ⟨t, t0, by omega, a, by omega, by rw [z, SolT_sym]; exact hab, Or.inr ⟨rfl, z.symm⟩, ab⟩
    · refine z_aload_nr dX4_seekFewest_99 rfl ?_
      refine z_geti (kz := 2) fl_X4_20 rfl (by decide) rfl dX4_seekFewest_100 (fun x6 hx6 bx6 => ?_)
      refine z_iconst dX4_seekFewest_103 ⟨by decide, by decide⟩ ?_
      refine z_icmp_eq (tgt := 124) dX4_seekFewest_104 (by decide) (fun c7 => ?_) (fun c7 => ?_)
      · refine z_vret rfl (by decide) rfl (Nat.sub_self _) dX4_seekFewest_124 ?_
        refine ⟨RD_X h2, ?_⟩
        rcases h4 with z | z
        · exact z.2
        · have hkm : k = x4 := by omega
          refine Or.inr ⟨z.2.1, Best2_congr z.2.2 (fun a b => ?_)⟩
          constructor
          · rintro ⟨t, t0, t1, j, j0, j1, j2, j3⟩
            have := (hring.2.2.1 t t0 (by omega)).1
            refine ⟨by omega, j3, ?_⟩
            rcases j2 with ⟨rfl, rfl⟩ | ⟨rfl, rfl⟩
            · exact j1
            · rw [SolT_sym]; exact j1
          · rintro ⟨a0, ab, hab⟩
            obtain ⟨t, t0, t1, z | z⟩ := hring.2.2.2 a b hab
            · exact ⟨t, t0, by omega, b, by omega, by rw [z]; exact hab, Or.inl ⟨z.symm, rfl⟩, ab⟩
            · exact ⟨t, t0, by omega, a, by omega, by rw [z, SolT_sym]; exact hab, Or.inr ⟨rfl, z.symm⟩, ab⟩
      · have h4b := h4.resolve_left (fun z => by omega)
        refine z_aload_nr dX4_seekFewest_107 rfl ?_
        refine z_aload_nr dX4_seekFewest_108 rfl ?_
        refine z_aload_nr dX4_seekFewest_109 rfl ?_
        refine z_getr (b := 35) fl_X4_11 rfl (by decide) rf_34_0 rfl dX4_seekFewest_110 ?_
        refine z_iload_n dX4_seekFewest_113 rfl ?_
        refine z_iald rfl (by decide) (by omega) (by omega) dX4_seekFewest_114 (fun x8 hx8 bx8 => ?_)
        have hrk2 : x8 = Mz4 35 k := by omega
        refine z_callVv (n2 := 93) (A_X4_seekPairs l g M1 x8 _ _ _ _ _ _ (fun a b => ∃ t, 0 ≤ t ∧ t < k ∧ ∃ j, 0 ≤ j ∧ Feas (SolT M0 r kw (-1) (Mz4 35 t) j 0) ∧ ((a = Mz4 35 t ∧ b = j) ∨ (a = j ∧ b = Mz4 35 t)) ∧ a < b) (hk) (h2) (by have := hring.2.2.1 k h0.1 (by omega); omega) (by have := hring.2.2.1 k h0.1 (by omega); exact h4b.2.1 _ (by omega)) (h4b.2.2)) cb_X4_seekPairs cl_X4_47 (clr0 rfl rfl (by decide) (by decide)) rfl (by decide) ⟨_, rfl, rfl⟩ rfl (by decide) rfl (Nat.le_of_ble_eq_true rfl) rfl dX4_seekFewest_115 (fun Mz9 kMz9 hc9 => ?_)
        obtain ⟨hoff6, ⟨li2, one2, two2, hR6⟩, hB6⟩ := hc9
        rw [hrk2] at hB6
        have hnext : (Mz9 34 2 = 1 ∧ OddS (fun a => Feas (SolT M0 r kw (-1) a (-1) 0)) (fun a b => Feas (SolT M0 r kw (-1) a b 0)) (Mz9 34 2) (Mz9 34 3) (Mz9 34 4)) ∨ (Mz9 34 2 ≠ 1 ∧ (∀ i, 0 ≤ i → ¬ Feas (SolT M0 r kw (-1) i (-1) 0)) ∧ Best2 (fun a b => ∃ t, 0 ≤ t ∧ t < k + 1 ∧ ∃ j, 0 ≤ j ∧ Feas (SolT M0 r kw (-1) (Mz4 35 t) j 0) ∧ ((a = Mz4 35 t ∧ b = j) ∨ (a = j ∧ b = Mz4 35 t)) ∧ a < b) (Mz9 34 2) (Mz9 34 3) (Mz9 34 4)) := by
          refine Or.inr ⟨by rcases hB6 with z | z <;> omega, h4b.2.1, Best2_congr hB6 (fun a b => ?_)⟩
          constructor
          · rintro (⟨t, t0, t1, z⟩ | ⟨j, z⟩)
            · exact ⟨t, t0, by omega, z⟩
            · exact ⟨k, by omega, by omega, j, z⟩
          · rintro ⟨t, t0, t1, z⟩
            by_cases e : t = k
            · subst e; obtain ⟨j, z⟩ := z; exact Or.inr ⟨j, z⟩
            · exact Or.inl ⟨t, t0, by omega, z⟩
        refine z_iinc (loc2 := fun vq => [fr 34, fr 20, fi x4, fi vq]) dX4_seekFewest_118 rfl (by decide) (by omega) (fun _ => rfl) (fun x10 hx10 => ?_)
        refine z_goto (tgt := 94) dX4_seekFewest_121 (by decide) ?_
        exact ih94 _ (by omega) x10 Mz9 li2 one2 two2 rfl (by omega) (hR6) (fun j => (hoff6 35 j (by omega)).trans (h3 j)) (by rw [hx10]; exact hnext)
  have lp26 : ∀ (kq : Nat) (k : Int) (M1 : FMem) (li1 one1 two1 : Int), (x4 - k).toNat = kq → (0 ≤ k ∧ k ≤ x4) → (RD M0 r kw li1 one1 two1 M1) → (∀ j, M1 35 j = Mz4 35 j) → ((M1 34 2 = -1 ∧ M1 34 3 = -1 ∧ M1 34 4 = -1 ∧ ∀ t, 0 ≤ t → t < k → ¬ Feas (SolT M0 r kw (-1) (Mz4 35 t) (-1) 0)) ∨ (M1 34 2 = 1 ∧ M1 34 4 = -1 ∧ 0 ≤ M1 34 3 ∧ Feas (SolT M0 r kw (-1) (M1 34 3) (-1) 0) ∧ ∀ t, 0 ≤ t → t < k → Feas (SolT M0 r kw (-1) (Mz4 35 t) (-1) 0) → M1 34 3 ≤ Mz4 35 t)) → Wa l g true fi_X4_seekFewest 93 μ (Zv g true fi_X4_seekFewest 93 μ (fun M2 => OffX M0 M2 ∧ OddS (fun a => Feas (SolT M0 r kw (-1) a (-1) 0)) (fun a b => Feas (SolT M0 r kw (-1) a b 0)) (M2 34 2) (M2 34 3) (M2 34 4))) 26 [] [fr 34, fr 20, fi x4, fi k] 93 M1 := by
    intro kq
    induction kq using Nat.strongRecOn with
    | _ kq ih26 =>
    intro k M1 li1 one1 two1 hk26 h0 h2 h3 h4
    have hrk := h3 k
    refine z_iload_n dX4_seekFewest_26 rfl ?_
    refine z_iload_n dX4_seekFewest_27 rfl ?_
    refine z_icmp_ge (tgt := 92) dX4_seekFewest_28 (by decide) (fun c11 => ?_) (fun c11 => ?_)
    · refine z_iconst dX4_seekFewest_92 ⟨by decide, by decide⟩ ?_
      refine z_istore_n (loc2 := [fr 34, fr 20, fi x4, fi 0]) dX4_seekFewest_93 (by decide) rfl ?_
      have hent : (M1 34 2 = 1 ∧ OddS (fun a => Feas (SolT M0 r kw (-1) a (-1) 0)) (fun a b => Feas (SolT M0 r kw (-1) a b 0)) (M1 34 2) (M1 34 3) (M1 34 4)) ∨ (M1 34 2 ≠ 1 ∧ (∀ i, 0 ≤ i → ¬ Feas (SolT M0 r kw (-1) i (-1) 0)) ∧ Best2 (fun a b => ∃ t, 0 ≤ t ∧ t < 0 ∧ ∃ j, 0 ≤ j ∧ Feas (SolT M0 r kw (-1) (Mz4 35 t) j 0) ∧ ((a = Mz4 35 t ∧ b = j) ∨ (a = j ∧ b = Mz4 35 t)) ∧ a < b) (M1 34 2) (M1 34 3) (M1 34 4)) := by
        have hall : ∀ i, 0 ≤ i → Feas (SolT M0 r kw (-1) i (-1) 0) → ∃ t, 0 ≤ t ∧ t < k ∧ Mz4 35 t = i := by
          intro i i0 hi
          obtain ⟨t, t0, t1, t2⟩ := hring.2.2.2 i (-1) hi
          have := (hring.2.2.1 t t0 t1).1
          exact ⟨t, t0, by omega, by omega⟩
        rcases h4 with ⟨q1, q2, q3, q4⟩ | ⟨q1, q2, q3, q4, q5⟩
        · refine Or.inr ⟨by omega, fun i i0 hi => ?_, Or.inl ⟨q1, q2, q3, fun a b z => ?_⟩⟩
          · obtain ⟨t, t0, t1, rfl⟩ := hall i i0 hi
            exact q4 t t0 t1 hi
          · obtain ⟨t, t0, t1, z⟩ := z
            omega
        · refine Or.inl ⟨q1, Or.inl ⟨q1, q3, q4, fun i i0 hi => ?_, q2⟩⟩
          obtain ⟨t, t0, t1, rfl⟩ := hall i i0 hi
          exact q5 t t0 t1 hi
      exact lp94 _ 0 M1 li1 one1 two1 rfl (by omega) (h2) (h3) (hent)
    · refine z_aload_nr dX4_seekFewest_31 rfl ?_
      refine z_iconst dX4_seekFewest_32 ⟨by decide, by decide⟩ ?_
      refine z_aload_nr dX4_seekFewest_33 rfl ?_
      refine z_getr (b := 35) fl_X4_11 rfl (by decide) rf_34_0 rfl dX4_seekFewest_34 ?_
      refine z_iload_n dX4_seekFewest_37 rfl ?_
      refine z_iald rfl (by decide) (by omega) (by omega) dX4_seekFewest_38 (fun x12 hx12 bx12 => ?_)
      refine z_iconst dX4_seekFewest_39 ⟨by decide, by decide⟩ ?_
      have hone : x12 = Mz4 35 k := by omega
      refine z_callVv (n2 := 93) (A_X1_leaveOut l g M1 (-1) x12 (-1)) cb_X1_leaveOut cl_X4_39 (clr0 rfl rfl (by decide) (by decide)) rfl (by decide) ⟨_, rfl, rfl⟩ rfl (by decide) rfl (Nat.le_of_ble_eq_true rfl) rfl dX4_seekFewest_40 (fun Mz13 kMz13 hc13 => ?_)
      rw [hone] at hc13
      have hR4 := RD_leave (li' := -1) (one' := Mz4 35 k) (two' := -1) h2 hk hc13
      have hfz : ∀ j, Mz13 34 j = M1 34 j := fun j => hc13.1 34 j (by decide) (by omega)
      have hz3 := hfz 3
      have hr35a : ∀ j, Mz13 35 j = Mz4 35 j := fun j => (hc13.1 35 j (by decide) (by omega)).trans (h3 j)
      have hz5 := hr35a k
      refine z_aload_nr dX4_seekFewest_43 rfl ?_
      refine z_geti (kz := 3) fl_X4_24 rfl (by decide) rfl dX4_seekFewest_44 (fun x14 hx14 bx14 => ?_)
      refine z_iconst dX4_seekFewest_47 ⟨by decide, by decide⟩ ?_
      refine z_icmp_eq (tgt := 64) dX4_seekFewest_48 (by decide) (fun c15 => ?_) (fun c15 => ?_)
      · refine z_aload_nr dX4_seekFewest_64 rfl ?_
        refine z_callVi (n2 := 93) (A_X1_quarrels l g Mz13 (hR4.2.1)) cb_X1_quarrels cl_X4_30 (clr0 rfl rfl (by decide) (by decide)) rfl (by decide) ⟨_, rfl, rfl⟩ rfl (by decide) rfl (Nat.le_of_ble_eq_true rfl) rfl dX4_seekFewest_65 (fun x16 Mz16 bx16 kMz16 hc16 => ?_)
        have hqq := quar hR4 hc16.2
        have hR5 := RD_way hR4 hc16.1
        have hfq : ∀ j, Mz16 34 j = M1 34 j := fun j => (hc16.1 34 j (by decide) (by decide)).trans (hfz j)
        have hr35b : ∀ j, Mz16 35 j = Mz4 35 j := fun j => (hc16.1 35 j (by decide) (by decide)).trans (hr35a j)
        have hz6 := hr35b k
        refine z_if_ne (tgt := 86) dX4_seekFewest_68 (by decide) (fun c17 => ?_) (fun c17 => ?_)
        · try have hu2 : Mz16 34 2 = 1 := by rw [hNONE]; simp [st]
          try have hu3 : Mz16 34 3 = Mz4 35 k := by rw [hNONE]; simp [st]; omega
          try have hu4 : Mz16 34 4 = M1 34 4 := by rw [hNONE]; simp [st]; exact hfq 4
          try have hr35c : ∀ j, Mz16 35 j = Mz4 35 j := by intro j; rw [hNONE, st_cell (by omega), st_cell (by omega)]; exact hr35b j
          try have hR6 := RD_off (M3 := Mz16) hR5 (fun b j q => by rw [hNONE, st_cell (by omega), st_cell (by omega)])
          have hrr := hring.2.2.1 k h0.1 (by omega)
          refine z_iinc (loc2 := fun vq => [fr 34, fr 20, fi x4, fi vq]) dX4_seekFewest_86 rfl (by decide) (by omega) (fun _ => rfl) (fun x18 hx18 => ?_)
          refine z_goto (tgt := 26) dX4_seekFewest_89 (by decide) ?_
          have hnext : (Mz16 34 2 = -1 ∧ Mz16 34 3 = -1 ∧ Mz16 34 4 = -1 ∧ ∀ t, 0 ≤ t → t < k + 1 → ¬ Feas (SolT M0 r kw (-1) (Mz4 35 t) (-1) 0)) ∨ (Mz16 34 2 = 1 ∧ Mz16 34 4 = -1 ∧ 0 ≤ Mz16 34 3 ∧ Feas (SolT M0 r kw (-1) (Mz16 34 3) (-1) 0) ∧ ∀ t, 0 ≤ t → t < k + 1 → Feas (SolT M0 r kw (-1) (Mz4 35 t) (-1) 0) → Mz16 34 3 ≤ Mz4 35 t) := by
            first
            | (have hf : Feas (SolT M0 r kw (-1) (Mz4 35 k) (-1) 0) := by rcases hqq with q | q; exact q.2; omega
               refine Or.inr ⟨hu2, by rw [hu4]; rcases h4 with z | z <;> omega, by omega, by rw [hu3]; exact hf, fun t t0 t1 ht => ?_⟩
               rw [hu3]
               by_cases e : t = k
               · subst e; omega
               · rcases h4 with ⟨q1, q2, q3, q4⟩ | ⟨q1, q2, q3, q4, q5⟩
                 · exact absurd ht (q4 t t0 (by omega))
                 · have := q5 t t0 (by omega) ht; omega)
            | (have hf : ¬ Feas (SolT M0 r kw (-1) (Mz4 35 k) (-1) 0) := by rcases hqq with q | q; omega; exact q.2
               rw [hfq, hfq, hfq]
               rcases h4 with ⟨q1, q2, q3, q4⟩ | ⟨q1, q2, q3, q4, q5⟩
               · refine Or.inl ⟨q1, q2, q3, fun t t0 t1 => ?_⟩
                 by_cases e : t = k
                 · subst e; exact hf
                 · exact q4 t t0 (by omega)
               · refine Or.inr ⟨q1, q2, q3, q4, fun t t0 t1 ht => ?_⟩
                 by_cases e : t = k
                 · subst e; exact absurd ht hf
                 · exact q5 t t0 (by omega) ht)
            | (rw [hfz, hfz, hfz]
               rcases h4 with ⟨q1, q2, q3, q4⟩ | ⟨q1, q2, q3, q4, q5⟩
               · exfalso; omega
               · refine Or.inr ⟨q1, q2, q3, q4, fun t t0 t1 ht => ?_⟩
                 by_cases e : t = k
                 · subst e; omega
                 · exact q5 t t0 (by omega) ht)
          have hRz : ∃ la oa ta, RD M0 r kw la oa ta Mz16 := by
            first
            | exact ⟨_, _, _, hR6⟩
            | exact ⟨_, _, _, hR5⟩
            | exact ⟨_, _, _, hR4⟩
          obtain ⟨la, oa, ta, hRz⟩ := hRz
          have hr35z : ∀ j, Mz16 35 j = Mz4 35 j := by
            first
            | exact hr35c
            | exact hr35b
            | exact hr35a
          exact ih26 _ (by omega) x18 Mz16 la oa ta rfl (by omega) (hRz) (hr35z) (by rw [hx18]; exact hnext)
        · refine z_aload_nr dX4_seekFewest_71 rfl ?_
          refine z_iconst dX4_seekFewest_72 ⟨by decide, by decide⟩ ?_
          refine z_puti (kz := 2) fl_X4_20 rfl (by decide) rfl nr_34_2 dX4_seekFewest_73 (fun Mz19 hMz19 => ?_)
          refine z_aload_nr dX4_seekFewest_76 rfl ?_
          refine z_aload_nr dX4_seekFewest_77 rfl ?_
          refine z_getr (b := 35) fl_X4_11 rfl (by decide) rf_34_0 rfl dX4_seekFewest_78 ?_
          refine z_iload_n dX4_seekFewest_81 rfl ?_
          refine z_iald rfl (by decide) (by omega) (by omega) dX4_seekFewest_82 (fun x20 hx20 bx20 => ?_)
          rw [hMz19, st_cell (by decide)] at hx20
          refine z_puti (kz := 3) fl_X4_24 rfl (by decide) rfl nr_34_3 dX4_seekFewest_83 (fun Mz21 hMz21 => ?_)
          try have hu2 : Mz21 34 2 = 1 := by rw [hMz21, hMz19]; simp [st]
          try have hu3 : Mz21 34 3 = Mz4 35 k := by rw [hMz21, hMz19]; simp [st]; omega
          try have hu4 : Mz21 34 4 = M1 34 4 := by rw [hMz21, hMz19]; simp [st]; exact hfq 4
          try have hr35c : ∀ j, Mz21 35 j = Mz4 35 j := by intro j; rw [hMz21, hMz19, st_cell (by omega), st_cell (by omega)]; exact hr35b j
          try have hR6 := RD_off (M3 := Mz21) hR5 (fun b j q => by rw [hMz21, hMz19, st_cell (by omega), st_cell (by omega)])
          have hrr := hring.2.2.1 k h0.1 (by omega)
          refine z_iinc (loc2 := fun vq => [fr 34, fr 20, fi x4, fi vq]) dX4_seekFewest_86 rfl (by decide) (by omega) (fun _ => rfl) (fun x22 hx22 => ?_)
          refine z_goto (tgt := 26) dX4_seekFewest_89 (by decide) ?_
          have hnext : (Mz21 34 2 = -1 ∧ Mz21 34 3 = -1 ∧ Mz21 34 4 = -1 ∧ ∀ t, 0 ≤ t → t < k + 1 → ¬ Feas (SolT M0 r kw (-1) (Mz4 35 t) (-1) 0)) ∨ (Mz21 34 2 = 1 ∧ Mz21 34 4 = -1 ∧ 0 ≤ Mz21 34 3 ∧ Feas (SolT M0 r kw (-1) (Mz21 34 3) (-1) 0) ∧ ∀ t, 0 ≤ t → t < k + 1 → Feas (SolT M0 r kw (-1) (Mz4 35 t) (-1) 0) → Mz21 34 3 ≤ Mz4 35 t) := by
            first
            | (have hf : Feas (SolT M0 r kw (-1) (Mz4 35 k) (-1) 0) := by rcases hqq with q | q; exact q.2; omega
               refine Or.inr ⟨hu2, by rw [hu4]; rcases h4 with z | z <;> omega, by omega, by rw [hu3]; exact hf, fun t t0 t1 ht => ?_⟩
               rw [hu3]
               by_cases e : t = k
               · subst e; omega
               · rcases h4 with ⟨q1, q2, q3, q4⟩ | ⟨q1, q2, q3, q4, q5⟩
                 · exact absurd ht (q4 t t0 (by omega))
                 · have := q5 t t0 (by omega) ht; omega)
            | (have hf : ¬ Feas (SolT M0 r kw (-1) (Mz4 35 k) (-1) 0) := by rcases hqq with q | q; omega; exact q.2
               rw [hfq, hfq, hfq]
               rcases h4 with ⟨q1, q2, q3, q4⟩ | ⟨q1, q2, q3, q4, q5⟩
               · refine Or.inl ⟨q1, q2, q3, fun t t0 t1 => ?_⟩
                 by_cases e : t = k
                 · subst e; exact hf
                 · exact q4 t t0 (by omega)
               · refine Or.inr ⟨q1, q2, q3, q4, fun t t0 t1 ht => ?_⟩
                 by_cases e : t = k
                 · subst e; exact absurd ht hf
                 · exact q5 t t0 (by omega) ht)
            | (rw [hfz, hfz, hfz]
               rcases h4 with ⟨q1, q2, q3, q4⟩ | ⟨q1, q2, q3, q4, q5⟩
               · exfalso; omega
               · refine Or.inr ⟨q1, q2, q3, q4, fun t t0 t1 ht => ?_⟩
                 by_cases e : t = k
                 · subst e; omega
                 · exact q5 t t0 (by omega) ht)
          have hRz : ∃ la oa ta, RD M0 r kw la oa ta Mz21 := by
            first
            | exact ⟨_, _, _, hR6⟩
            | exact ⟨_, _, _, hR5⟩
            | exact ⟨_, _, _, hR4⟩
          obtain ⟨la, oa, ta, hRz⟩ := hRz
          have hr35z : ∀ j, Mz21 35 j = Mz4 35 j := by
            first
            | exact hr35c
            | exact hr35b
            | exact hr35a
          exact ih26 _ (by omega) x22 Mz21 la oa ta rfl (by omega) (hRz) (hr35z) (by rw [hx22]; exact hnext)
      · refine z_aload_nr dX4_seekFewest_51 rfl ?_
        refine z_getr (b := 35) fl_X4_11 rfl (by decide) rf_34_0 rfl dX4_seekFewest_52 ?_
        refine z_iload_n dX4_seekFewest_55 rfl ?_
        refine z_iald rfl (by decide) (by omega) (by omega) dX4_seekFewest_56 (fun x23 hx23 bx23 => ?_)
        refine z_aload_nr dX4_seekFewest_57 rfl ?_
        refine z_geti (kz := 3) fl_X4_24 rfl (by decide) rfl dX4_seekFewest_58 (fun x24 hx24 bx24 => ?_)
        refine z_icmp_ge (tgt := 86) dX4_seekFewest_61 (by decide) (fun c25 => ?_) (fun c25 => ?_)
        · try have hu2 : Mz13 34 2 = 1 := by rw [hNONE]; simp [st]
          try have hu3 : Mz13 34 3 = Mz4 35 k := by rw [hNONE]; simp [st]; omega
          try have hu4 : Mz13 34 4 = M1 34 4 := by rw [hNONE]; simp [st]; exact hfq 4
          try have hr35c : ∀ j, Mz13 35 j = Mz4 35 j := by intro j; rw [hNONE, st_cell (by omega), st_cell (by omega)]; exact hr35b j
          try have hR6 := RD_off (M3 := Mz13) hR5 (fun b j q => by rw [hNONE, st_cell (by omega), st_cell (by omega)])
          have hrr := hring.2.2.1 k h0.1 (by omega)
          refine z_iinc (loc2 := fun vq => [fr 34, fr 20, fi x4, fi vq]) dX4_seekFewest_86 rfl (by decide) (by omega) (fun _ => rfl) (fun x26 hx26 => ?_)
          refine z_goto (tgt := 26) dX4_seekFewest_89 (by decide) ?_
          have hnext : (Mz13 34 2 = -1 ∧ Mz13 34 3 = -1 ∧ Mz13 34 4 = -1 ∧ ∀ t, 0 ≤ t → t < k + 1 → ¬ Feas (SolT M0 r kw (-1) (Mz4 35 t) (-1) 0)) ∨ (Mz13 34 2 = 1 ∧ Mz13 34 4 = -1 ∧ 0 ≤ Mz13 34 3 ∧ Feas (SolT M0 r kw (-1) (Mz13 34 3) (-1) 0) ∧ ∀ t, 0 ≤ t → t < k + 1 → Feas (SolT M0 r kw (-1) (Mz4 35 t) (-1) 0) → Mz13 34 3 ≤ Mz4 35 t) := by
            first
            | (have hf : Feas (SolT M0 r kw (-1) (Mz4 35 k) (-1) 0) := by rcases hqq with q | q; exact q.2; omega
               refine Or.inr ⟨hu2, by rw [hu4]; rcases h4 with z | z <;> omega, by omega, by rw [hu3]; exact hf, fun t t0 t1 ht => ?_⟩
               rw [hu3]
               by_cases e : t = k
               · subst e; omega
               · rcases h4 with ⟨q1, q2, q3, q4⟩ | ⟨q1, q2, q3, q4, q5⟩
                 · exact absurd ht (q4 t t0 (by omega))
                 · have := q5 t t0 (by omega) ht; omega)
            | (have hf : ¬ Feas (SolT M0 r kw (-1) (Mz4 35 k) (-1) 0) := by rcases hqq with q | q; omega; exact q.2
               rw [hfq, hfq, hfq]
               rcases h4 with ⟨q1, q2, q3, q4⟩ | ⟨q1, q2, q3, q4, q5⟩
               · refine Or.inl ⟨q1, q2, q3, fun t t0 t1 => ?_⟩
                 by_cases e : t = k
                 · subst e; exact hf
                 · exact q4 t t0 (by omega)
               · refine Or.inr ⟨q1, q2, q3, q4, fun t t0 t1 ht => ?_⟩
                 by_cases e : t = k
                 · subst e; exact absurd ht hf
                 · exact q5 t t0 (by omega) ht)
            | (rw [hfz, hfz, hfz]
               rcases h4 with ⟨q1, q2, q3, q4⟩ | ⟨q1, q2, q3, q4, q5⟩
               · exfalso; omega
               · refine Or.inr ⟨q1, q2, q3, q4, fun t t0 t1 ht => ?_⟩
                 by_cases e : t = k
                 · subst e; omega
                 · exact q5 t t0 (by omega) ht)
          have hRz : ∃ la oa ta, RD M0 r kw la oa ta Mz13 := by
            first
            | exact ⟨_, _, _, hR6⟩
            | exact ⟨_, _, _, hR5⟩
            | exact ⟨_, _, _, hR4⟩
          obtain ⟨la, oa, ta, hRz⟩ := hRz
          have hr35z : ∀ j, Mz13 35 j = Mz4 35 j := by
            first
            | exact hr35c
            | exact hr35b
            | exact hr35a
          exact ih26 _ (by omega) x26 Mz13 la oa ta rfl (by omega) (hRz) (hr35z) (by rw [hx26]; exact hnext)
        · refine z_aload_nr dX4_seekFewest_64 rfl ?_
          refine z_callVi (n2 := 93) (A_X1_quarrels l g Mz13 (hR4.2.1)) cb_X1_quarrels cl_X4_30 (clr0 rfl rfl (by decide) (by decide)) rfl (by decide) ⟨_, rfl, rfl⟩ rfl (by decide) rfl (Nat.le_of_ble_eq_true rfl) rfl dX4_seekFewest_65 (fun x27 Mz27 bx27 kMz27 hc27 => ?_)
          have hqq := quar hR4 hc27.2
          have hR5 := RD_way hR4 hc27.1
          have hfq : ∀ j, Mz27 34 j = M1 34 j := fun j => (hc27.1 34 j (by decide) (by decide)).trans (hfz j)
          have hr35b : ∀ j, Mz27 35 j = Mz4 35 j := fun j => (hc27.1 35 j (by decide) (by decide)).trans (hr35a j)
          have hz6 := hr35b k
          refine z_if_ne (tgt := 86) dX4_seekFewest_68 (by decide) (fun c28 => ?_) (fun c28 => ?_)
          · try have hu2 : Mz27 34 2 = 1 := by rw [hNONE]; simp [st]
            try have hu3 : Mz27 34 3 = Mz4 35 k := by rw [hNONE]; simp [st]; omega
            try have hu4 : Mz27 34 4 = M1 34 4 := by rw [hNONE]; simp [st]; exact hfq 4
            try have hr35c : ∀ j, Mz27 35 j = Mz4 35 j := by intro j; rw [hNONE, st_cell (by omega), st_cell (by omega)]; exact hr35b j
            try have hR6 := RD_off (M3 := Mz27) hR5 (fun b j q => by rw [hNONE, st_cell (by omega), st_cell (by omega)])
            have hrr := hring.2.2.1 k h0.1 (by omega)
            refine z_iinc (loc2 := fun vq => [fr 34, fr 20, fi x4, fi vq]) dX4_seekFewest_86 rfl (by decide) (by omega) (fun _ => rfl) (fun x29 hx29 => ?_)
            refine z_goto (tgt := 26) dX4_seekFewest_89 (by decide) ?_
            have hnext : (Mz27 34 2 = -1 ∧ Mz27 34 3 = -1 ∧ Mz27 34 4 = -1 ∧ ∀ t, 0 ≤ t → t < k + 1 → ¬ Feas (SolT M0 r kw (-1) (Mz4 35 t) (-1) 0)) ∨ (Mz27 34 2 = 1 ∧ Mz27 34 4 = -1 ∧ 0 ≤ Mz27 34 3 ∧ Feas (SolT M0 r kw (-1) (Mz27 34 3) (-1) 0) ∧ ∀ t, 0 ≤ t → t < k + 1 → Feas (SolT M0 r kw (-1) (Mz4 35 t) (-1) 0) → Mz27 34 3 ≤ Mz4 35 t) := by
              first
              | (have hf : Feas (SolT M0 r kw (-1) (Mz4 35 k) (-1) 0) := by rcases hqq with q | q; exact q.2; omega
                 refine Or.inr ⟨hu2, by rw [hu4]; rcases h4 with z | z <;> omega, by omega, by rw [hu3]; exact hf, fun t t0 t1 ht => ?_⟩
                 rw [hu3]
                 by_cases e : t = k
                 · subst e; omega
                 · rcases h4 with ⟨q1, q2, q3, q4⟩ | ⟨q1, q2, q3, q4, q5⟩
                   · exact absurd ht (q4 t t0 (by omega))
                   · have := q5 t t0 (by omega) ht; omega)
              | (have hf : ¬ Feas (SolT M0 r kw (-1) (Mz4 35 k) (-1) 0) := by rcases hqq with q | q; omega; exact q.2
                 rw [hfq, hfq, hfq]
                 rcases h4 with ⟨q1, q2, q3, q4⟩ | ⟨q1, q2, q3, q4, q5⟩
                 · refine Or.inl ⟨q1, q2, q3, fun t t0 t1 => ?_⟩
                   by_cases e : t = k
                   · subst e; exact hf
                   · exact q4 t t0 (by omega)
                 · refine Or.inr ⟨q1, q2, q3, q4, fun t t0 t1 ht => ?_⟩
                   by_cases e : t = k
                   · subst e; exact absurd ht hf
                   · exact q5 t t0 (by omega) ht)
              | (rw [hfz, hfz, hfz]
                 rcases h4 with ⟨q1, q2, q3, q4⟩ | ⟨q1, q2, q3, q4, q5⟩
                 · exfalso; omega
                 · refine Or.inr ⟨q1, q2, q3, q4, fun t t0 t1 ht => ?_⟩
                   by_cases e : t = k
                   · subst e; omega
                   · exact q5 t t0 (by omega) ht)
            have hRz : ∃ la oa ta, RD M0 r kw la oa ta Mz27 := by
              first
              | exact ⟨_, _, _, hR6⟩
              | exact ⟨_, _, _, hR5⟩
              | exact ⟨_, _, _, hR4⟩
            obtain ⟨la, oa, ta, hRz⟩ := hRz
            have hr35z : ∀ j, Mz27 35 j = Mz4 35 j := by
              first
              | exact hr35c
              | exact hr35b
              | exact hr35a
            exact ih26 _ (by omega) x29 Mz27 la oa ta rfl (by omega) (hRz) (hr35z) (by rw [hx29]; exact hnext)
          · refine z_aload_nr dX4_seekFewest_71 rfl ?_
            refine z_iconst dX4_seekFewest_72 ⟨by decide, by decide⟩ ?_
            refine z_puti (kz := 2) fl_X4_20 rfl (by decide) rfl nr_34_2 dX4_seekFewest_73 (fun Mz30 hMz30 => ?_)
            refine z_aload_nr dX4_seekFewest_76 rfl ?_
            refine z_aload_nr dX4_seekFewest_77 rfl ?_
            refine z_getr (b := 35) fl_X4_11 rfl (by decide) rf_34_0 rfl dX4_seekFewest_78 ?_
            refine z_iload_n dX4_seekFewest_81 rfl ?_
            refine z_iald rfl (by decide) (by omega) (by omega) dX4_seekFewest_82 (fun x31 hx31 bx31 => ?_)
            rw [hMz30, st_cell (by decide)] at hx31
            refine z_puti (kz := 3) fl_X4_24 rfl (by decide) rfl nr_34_3 dX4_seekFewest_83 (fun Mz32 hMz32 => ?_)
            try have hu2 : Mz32 34 2 = 1 := by rw [hMz32, hMz30]; simp [st]
            try have hu3 : Mz32 34 3 = Mz4 35 k := by rw [hMz32, hMz30]; simp [st]; omega
            try have hu4 : Mz32 34 4 = M1 34 4 := by rw [hMz32, hMz30]; simp [st]; exact hfq 4
            try have hr35c : ∀ j, Mz32 35 j = Mz4 35 j := by intro j; rw [hMz32, hMz30, st_cell (by omega), st_cell (by omega)]; exact hr35b j
            try have hR6 := RD_off (M3 := Mz32) hR5 (fun b j q => by rw [hMz32, hMz30, st_cell (by omega), st_cell (by omega)])
            have hrr := hring.2.2.1 k h0.1 (by omega)
            refine z_iinc (loc2 := fun vq => [fr 34, fr 20, fi x4, fi vq]) dX4_seekFewest_86 rfl (by decide) (by omega) (fun _ => rfl) (fun x33 hx33 => ?_)
            refine z_goto (tgt := 26) dX4_seekFewest_89 (by decide) ?_
            have hnext : (Mz32 34 2 = -1 ∧ Mz32 34 3 = -1 ∧ Mz32 34 4 = -1 ∧ ∀ t, 0 ≤ t → t < k + 1 → ¬ Feas (SolT M0 r kw (-1) (Mz4 35 t) (-1) 0)) ∨ (Mz32 34 2 = 1 ∧ Mz32 34 4 = -1 ∧ 0 ≤ Mz32 34 3 ∧ Feas (SolT M0 r kw (-1) (Mz32 34 3) (-1) 0) ∧ ∀ t, 0 ≤ t → t < k + 1 → Feas (SolT M0 r kw (-1) (Mz4 35 t) (-1) 0) → Mz32 34 3 ≤ Mz4 35 t) := by
              first
              | (have hf : Feas (SolT M0 r kw (-1) (Mz4 35 k) (-1) 0) := by rcases hqq with q | q; exact q.2; omega
                 refine Or.inr ⟨hu2, by rw [hu4]; rcases h4 with z | z <;> omega, by omega, by rw [hu3]; exact hf, fun t t0 t1 ht => ?_⟩
                 rw [hu3]
                 by_cases e : t = k
                 · subst e; omega
                 · rcases h4 with ⟨q1, q2, q3, q4⟩ | ⟨q1, q2, q3, q4, q5⟩
                   · exact absurd ht (q4 t t0 (by omega))
                   · have := q5 t t0 (by omega) ht; omega)
              | (have hf : ¬ Feas (SolT M0 r kw (-1) (Mz4 35 k) (-1) 0) := by rcases hqq with q | q; omega; exact q.2
                 rw [hfq, hfq, hfq]
                 rcases h4 with ⟨q1, q2, q3, q4⟩ | ⟨q1, q2, q3, q4, q5⟩
                 · refine Or.inl ⟨q1, q2, q3, fun t t0 t1 => ?_⟩
                   by_cases e : t = k
                   · subst e; exact hf
                   · exact q4 t t0 (by omega)
                 · refine Or.inr ⟨q1, q2, q3, q4, fun t t0 t1 ht => ?_⟩
                   by_cases e : t = k
                   · subst e; exact absurd ht hf
                   · exact q5 t t0 (by omega) ht)
              | (rw [hfz, hfz, hfz]
                 rcases h4 with ⟨q1, q2, q3, q4⟩ | ⟨q1, q2, q3, q4, q5⟩
                 · exfalso; omega
                 · refine Or.inr ⟨q1, q2, q3, q4, fun t t0 t1 ht => ?_⟩
                   by_cases e : t = k
                   · subst e; omega
                   · exact q5 t t0 (by omega) ht)
            have hRz : ∃ la oa ta, RD M0 r kw la oa ta Mz32 := by
              first
              | exact ⟨_, _, _, hR6⟩
              | exact ⟨_, _, _, hR5⟩
              | exact ⟨_, _, _, hR4⟩
            obtain ⟨la, oa, ta, hRz⟩ := hRz
            have hr35z : ∀ j, Mz32 35 j = Mz4 35 j := by
              first
              | exact hr35c
              | exact hr35b
              | exact hr35a
            exact ih26 _ (by omega) x33 Mz32 la oa ta rfl (by omega) (hRz) (hr35z) (by rw [hx33]; exact hnext)
  refine z_iconst dX4_seekFewest_24 ⟨by decide, by decide⟩ ?_
  refine z_istore_n (loc2 := [fr 34, fr 20, fi x4, fi 0]) dX4_seekFewest_25 (by decide) rfl ?_
  exact lp26 _ 0 Mz4 (-1) (-1) (-1) rfl (by omega) (hR3) (fun j => rfl) (Or.inl ⟨hd2, hd3, hd4, fun t t0 t1 => by omega⟩)
