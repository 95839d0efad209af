/-! ===== bytes of a long; feed ===== -/
def byt (b k : Int) : Int := b / 256 ^ k.toNat % 256
theorem and32_255 (x : Int) : and32 x 255 = x % 256 := by
  unfold and32
  have h : (Int32.ofInt x &&& Int32.ofInt 255).toBitVec.toNat = (x % 256).toNat := by
    show (BitVec.ofInt 32 x &&& BitVec.ofInt 32 255).toNat = _
    rw [BitVec.toNat_and, show (BitVec.ofInt 32 255).toNat = 2 ^ 8 - 1 by decide, Nat.and_two_pow_sub_one_eq_mod, BitVec.toNat_ofInt]
    omega
  rw [i32_nat h (by omega)]
  omega
theorem i64_nat {x : Int64} {a : Nat} (h : x.toBitVec.toNat = a) (ha : a < 9223372036854775808) : x.toInt = (a : Int) := by
  show x.toBitVec.toInt = a
  rw [BitVec.toInt_eq_toNat_of_lt (by omega), h]
theorem and64_255 (x : Int) : and64 x 255 = x % 256 := by
  unfold and64
  have h : (Int64.ofInt x &&& Int64.ofInt 255).toBitVec.toNat = (x % 256).toNat := by
    show (BitVec.ofInt 64 x &&& BitVec.ofInt 64 255).toNat = _
    rw [BitVec.toNat_and, show (BitVec.ofInt 64 255).toNat = 2 ^ 8 - 1 by decide, Nat.and_two_pow_sub_one_eq_mod, BitVec.toNat_ofInt]
    omega
  rw [i64_nat h (by omega)]
  omega
theorem w32_256 (x : Int) : w32 x % 256 = x % 256 := by unfold w32; omega
theorem i64_256 (z : Int64) : z.toInt % 256 = (z.toBitVec.toNat : Int) % 256 := by
  show z.toBitVec.toInt % 256 = _
  rw [BitVec.toInt_eq_toNat_cond]
  split <;> omega
theorem ushr_lit (x : Int) (s : UInt64) (q : Nat) (hs : s.toNat % 64 = q) : (((Int64.ofInt x).toUInt64 >>> s).toInt64).toInt % 256 = (((x % 18446744073709551616).toNat / 2 ^ q : Nat) : Int) % 256 := by
  rw [i64_256]
  have h : ((Int64.ofInt x).toUInt64 >>> s).toInt64.toBitVec.toNat = (x % 18446744073709551616).toNat / 2 ^ q := by
    show ((Int64.ofInt x).toUInt64 >>> s).toNat = _
    rw [UInt64.toNat_shiftRight, hs, Nat.shiftRight_eq_div_pow]
    congr 1
  rw [h]
theorem ushr_byt {x k : Int} (h0 : 0 ≤ k) (h7 : k ≤ 7) : ushr64 x (8 * k) % 256 = byt x k := by
  have hk : k = 0 ∨ k = 1 ∨ k = 2 ∨ k = 3 ∨ k = 4 ∨ k = 5 ∨ k = 6 ∨ k = 7 := by omega
  unfold ushr64
  rcases hk with rfl | rfl | rfl | rfl | rfl | rfl | rfl | rfl
  · rw [ushr_lit x _ 0 (by decide)]; show _ = x / 1 % 256; omega
  · rw [ushr_lit x _ 8 (by decide)]; show _ = x / 256 % 256; omega
  · rw [ushr_lit x _ 16 (by decide)]; show _ = x / 65536 % 256; omega
  · rw [ushr_lit x _ 24 (by decide)]; show _ = x / 16777216 % 256; omega
  · rw [ushr_lit x _ 32 (by decide)]; show _ = x / 4294967296 % 256; omega
  · rw [ushr_lit x _ 40 (by decide)]; show _ = x / 1099511627776 % 256; omega
  · rw [ushr_lit x _ 48 (by decide)]; show _ = x / 281474976710656 % 256; omega
  · rw [ushr_lit x _ 56 (by decide)]; show _ = x / 72057594037927936 % 256; omega
theorem shr_lit (x : Int) (hx : N64 x) (s : Int64) (q : Nat) (hs : (s.toBitVec.smod 64).toNat = q) : (Int64.ofInt x >>> s).toInt = x / 2 ^ q := by
  show ((BitVec.ofInt 64 x).sshiftRight (s.toBitVec.smod 64).toNat).toInt = _
  rw [hs, BitVec.toInt_sshiftRight, Int.shiftRight_eq_div_pow]
  congr 1
  exact i6_toInt hx
theorem shr_byt {x k : Int} (hx : N64 x) (h0 : 0 ≤ k) (h7 : k ≤ 7) : shr64 x (8 * k) % 256 = byt x k := by
  have hk : k = 0 ∨ k = 1 ∨ k = 2 ∨ k = 3 ∨ k = 4 ∨ k = 5 ∨ k = 6 ∨ k = 7 := by omega
  unfold shr64
  rcases hk with rfl | rfl | rfl | rfl | rfl | rfl | rfl | rfl
  · rw [shr_lit x hx _ 0 (by decide)]; rfl
  · rw [shr_lit x hx _ 8 (by decide)]; rfl
  · rw [shr_lit x hx _ 16 (by decide)]; rfl
  · rw [shr_lit x hx _ 24 (by decide)]; rfl
  · rw [shr_lit x hx _ 32 (by decide)]; rfl
  · rw [shr_lit x hx _ 40 (by decide)]; rfl
  · rw [shr_lit x hx _ 48 (by decide)]; rfl
  · rw [shr_lit x hx _ 56 (by decide)]; rfl
theorem byt_b (b k : Int) : 0 ≤ byt b k ∧ byt b k ≤ 255 := by unfold byt; omega
set_option maxHeartbeats 400000 in
theorem A_X2_append (l : Launch) (g : Cx) (M : FMem) (v : Int) (h0 : 0 ≤ M 17 1 ∧ M 17 1 < 240) : AMv l g true fi_X2_append [fr 17, fi v] 93 M (fun M2 => M2 = st (st M 18 (M 17 1) v) 17 1 (M 17 1 + 1)) := by
  refine AMv_intro [fr 17, fi v] (by decide) (knall rfl) (Nat.le_of_ble_eq_true rfl) rfl ?_
  intro hNV hM0 μ
  have bv : N32 v := hNV (fi v) (by simp)
  refine z_aload_nr dX2_append_0 rfl ?_
  refine z_geti (kz := 1) fl_X2_15 rfl (by decide) rfl dX2_append_1 (fun x1 hx1 bx1 => ?_)
  refine z_sipush dX2_append_4 ⟨by decide, by decide⟩ (by decide) ?_
  refine z_icmp_ge (tgt := 30) dX2_append_7 (by decide) (fun c2 => ?_) (fun c2 => ?_)
  · omega
  · refine z_aload_nr dX2_append_10 rfl ?_
    refine z_getr (b := 18) fl_X2_11 rfl (by decide) rf_17_0 rfl dX2_append_11 ?_
    refine z_aload_nr dX2_append_14 rfl ?_
    refine z_geti (kz := 1) fl_X2_15 rfl (by decide) rfl dX2_append_15 (fun x3 hx3 bx3 => ?_)
    refine z_iload_n dX2_append_18 rfl ?_
    refine z_iast rfl (by decide) (by omega) (by omega) dX2_append_19 (fun Mz4 hMz4 => ?_)
    refine z_aload_nr dX2_append_20 rfl ?_
    refine z_dup rfl dX2_append_21 ?_
    refine z_geti (kz := 1) fl_X2_15 rfl (by decide) rfl dX2_append_22 (fun x5 hx5 bx5 => ?_)
    rw [hMz4, st_cell (by decide)] at hx5
    refine z_iconst dX2_append_25 ⟨by decide, by decide⟩ ?_
    first | refine z_iaddN dX2_append_26 (by omega) (fun x6 hx6 => ?_) | refine z_iadd dX2_append_26 (fun x6 hx6 => ?_)
    refine z_puti (kz := 1) fl_X2_15 rfl (by decide) rfl nr_17_1 dX2_append_27 (fun Mz7 hMz7 => ?_)
    refine z_vret rfl (by decide) rfl (Nat.sub_self _) dX2_append_30 ?_
    subst_vars
    congr 1
set_option maxHeartbeats 400000 in
theorem A_X7_feed (l : Launch) (g : Cx) (M : FMem) (cnt bytes : Int) (h0 : 0 ≤ M 17 1 ∧ M 17 1 ≤ 240) : AMi l g true fi_X7_feed [fr 0, fi cnt, fl bytes] 93 M (fun r M2 => if ¬ (1 ≤ cnt ∧ cnt ≤ 8) then r = -1000002 ∧ M2 = M else if 240 < M 17 1 + cnt then r = -1000004 ∧ M2 = M else r = M 17 1 + cnt ∧ (∀ b j, b ≠ 18 → ¬ (b = 17 ∧ j = 1) → M2 b j = M b j) ∧ M2 17 1 = M 17 1 + cnt ∧ ∀ j, M2 18 j = if M 17 1 ≤ j ∧ j < M 17 1 + cnt then byt bytes (M 17 1 + cnt - 1 - j) else M 18 j) := by
  refine AMi_intro [fr 0, fi cnt, fl bytes, fu, fu] (by decide) (knall rfl) (Nat.le_of_ble_eq_true rfl) rfl ?_
  intro hNV hM0 μ
  have bcnt : N32 cnt := hNV (fi cnt) (by simp)
  have bbytes : N64 bytes := hNV (fl bytes) (by simp)
  have lp36 : ∀ (kq : Nat) (kz : Int) (M1 : FMem), (kz + 1).toNat = kq → (1 ≤ cnt ∧ cnt ≤ 8 ∧ M 17 1 + cnt ≤ 240) → (-1 ≤ kz ∧ kz < cnt) → ((∀ b j, b ≠ 18 → ¬ (b = 17 ∧ j = 1) → M1 b j = M b j) ∧ M1 17 1 = M 17 1 + (cnt - 1 - kz) ∧ ∀ j, M1 18 j = if M 17 1 ≤ j ∧ j < M 17 1 + (cnt - 1 - kz) then byt bytes (M 17 1 + cnt - 1 - j) else M 18 j) → Wa l g true fi_X7_feed 93 μ (Zi g true fi_X7_feed 93 μ (fun r M2 => if ¬ (1 ≤ cnt ∧ cnt ≤ 8) then r = -1000002 ∧ M2 = M else if 240 < M 17 1 + cnt then r = -1000004 ∧ M2 = M else r = M 17 1 + cnt ∧ (∀ b j, b ≠ 18 → ¬ (b = 17 ∧ j = 1) → M2 b j = M b j) ∧ M2 17 1 = M 17 1 + cnt ∧ ∀ j, M2 18 j = if M 17 1 ≤ j ∧ j < M 17 1 + cnt then byt bytes (M 17 1 + cnt - 1 - j) else M 18 j)) 36 [] [fr 0, fi cnt, fl bytes, fu, fi kz] 93 M1 := by
    intro kq
    induction kq using Nat.strongRecOn with
    | _ kq ih36 =>
    intro kz M1 hk36 hA h1 h2
    have e1 := h2.2.1
    refine z_iload dX7_feed_36 rfl ?_
    refine z_if_lt (tgt := 66) dX7_feed_38 (by decide) (fun c1 => ?_) (fun c1 => ?_)
    · refine z_aload_nr dX7_feed_66 rfl ?_
      refine z_getr (b := 17) fl_X7_26 rfl (by decide) rf_0_2 rfl dX7_feed_67 ?_
      refine z_geti (kz := 1) fl_X7_169 rfl (by decide) rfl dX7_feed_70 (fun x2 hx2 bx2 => ?_)
      refine z_iret rfl (by decide) rfl (Nat.sub_self _) dX7_feed_73 ?_
      rw [if_neg (by omega), if_neg (by omega)]
      rw [show kz = -1 by omega, show cnt - 1 - -1 = cnt by omega] at h2
      exact ⟨by omega, h2⟩
    · refine z_aload_nr dX7_feed_41 rfl ?_
      refine z_getr (b := 17) fl_X7_26 rfl (by decide) rf_0_2 rfl dX7_feed_42 ?_
      refine z_lload_n dX7_feed_45 rfl ?_
      refine z_bipush dX7_feed_46 ⟨by decide, by decide⟩ (by decide) ?_
      refine z_iload dX7_feed_48 rfl ?_
      first | refine z_imulN dX7_feed_50 (by omega) (fun x3 hx3 => ?_) | refine z_imul dX7_feed_50 (fun x3 hx3 => ?_)
      have hsh : x3 = 8 * kz := by omega
      refine z_lushr dX7_feed_51 (fun x4 hx4 bx4 => ?_)
      have hus := hx4
      rw [hsh] at hus
      refine z_l2i dX7_feed_52 (fun x5 hx5 => ?_)
      have hl2 := hx5
      refine z_sipush dX7_feed_53 ⟨by decide, by decide⟩ (by decide) ?_
      refine z_iand dX7_feed_56 (fun x6 hx6 bx6 => ?_)
      have hby : x6 = byt bytes kz := by rw [hx6, and32_255, hl2, w32_256, hus, ushr_byt (by omega) (by omega)]
      refine z_callVv (n2 := 93) (A_X2_append l g M1 x6 (by omega)) cb_X2_append cl_X7_172 (clr0 rfl rfl (by decide) (by decide)) rfl (by decide) ⟨_, rfl, rfl⟩ rfl (by decide) rfl (Nat.le_of_ble_eq_true rfl) rfl dX7_feed_57 (fun Mz7 kMz7 hc7 => ?_)
      have hap := hc7
      refine z_iinc (loc2 := fun vq => [fr 0, fi cnt, fl bytes, fu, fi vq]) dX7_feed_60 rfl (by decide) (by omega) (fun _ => rfl) (fun x8 hx8 => ?_)
      refine z_goto (tgt := 36) dX7_feed_63 (by decide) ?_
      have g2 : (∀ b j, b ≠ 18 → ¬ (b = 17 ∧ j = 1) → Mz7 b j = M b j) ∧ Mz7 17 1 = M 17 1 + (cnt - 1 - (kz - 1)) ∧ ∀ j, Mz7 18 j = if M 17 1 ≤ j ∧ j < M 17 1 + (cnt - 1 - (kz - 1)) then byt bytes (M 17 1 + cnt - 1 - j) else M 18 j := by
        refine ⟨fun b j p q => ?_, ?_, fun j => ?_⟩
        · rw [hap]
          unfold st
          rw [if_neg q, if_neg (fun z => p z.1)]
          exact h2.1 b j p q
        · rw [hap, st_same]; omega
        · rw [hap, st_cell (by decide), st_at]
          by_cases e : j = M1 17 1
          · rw [if_pos e, if_pos (by omega), hby, e, e1]
            congr 1
            omega
          · rw [if_neg e, h2.2.2 j]
            by_cases e2 : M 17 1 ≤ j ∧ j < M 17 1 + (cnt - 1 - kz)
            · rw [if_pos e2, if_pos (by omega)]
            · rw [if_neg e2, if_neg (by omega)]
      exact ih36 _ (by omega) x8 Mz7 rfl (hA) (by omega) (by rw [hx8]; exact g2)
  refine z_iload_n dX7_feed_0 rfl ?_
  refine z_iconst dX7_feed_1 ⟨by decide, by decide⟩ ?_
  refine z_bipush dX7_feed_2 ⟨by decide, by decide⟩ (by decide) ?_
  refine z_callSip (n2 := 93) (A_X7_isFrom l g M cnt 1 8) cb_X7_isFrom cl_X7_83 (clr0 rfl rfl (by decide) (by decide)) rfl (by decide) rfl (Nat.le_of_ble_eq_true rfl) rfl dX7_feed_4 (fun x9 bx9 hx9 => ?_)
  have i9 := if01 hx9
  refine z_if_ne (tgt := 13) dX7_feed_7 (by decide) (fun c10 => ?_) (fun c10 => ?_)
  · refine z_aload_nr dX7_feed_13 rfl ?_
    refine z_getr (b := 17) fl_X7_26 rfl (by decide) rf_0_2 rfl dX7_feed_14 ?_
    refine z_geti (kz := 1) fl_X7_169 rfl (by decide) rfl dX7_feed_17 (fun x11 hx11 bx11 => ?_)
    refine z_iload_n dX7_feed_20 rfl ?_
    first | refine z_iaddN dX7_feed_21 (by omega) (fun x12 hx12 => ?_) | refine z_iadd dX7_feed_21 (fun x12 hx12 => ?_)
    refine z_sipush dX7_feed_22 ⟨by decide, by decide⟩ (by decide) ?_
    refine z_icmp_le (tgt := 31) dX7_feed_25 (by decide) (fun c13 => ?_) (fun c13 => ?_)
    · refine z_iload_n dX7_feed_31 rfl ?_
      refine z_iconst dX7_feed_32 ⟨by decide, by decide⟩ ?_
      first | refine z_isubN dX7_feed_33 (by omega) (fun x14 hx14 => ?_) | refine z_isub dX7_feed_33 (fun x14 hx14 => ?_)
      refine z_istore (loc2 := [fr 0, fi cnt, fl bytes, fu, fi x14]) dX7_feed_34 (by decide) rfl ?_
      exact lp36 _ x14 M rfl (by omega) (by omega) (⟨fun _ _ _ _ => rfl, by omega, fun j => by rw [if_neg (by omega)]⟩)
    · refine z_ldc (c := -1000004) cn_X7_92 ⟨by decide, by decide⟩ dX7_feed_28 ?_
      refine z_iret rfl (by decide) rfl (Nat.sub_self _) dX7_feed_30 ?_
      rw [if_neg (by omega), if_pos (by omega)]
      exact ⟨rfl, rfl⟩
  · refine z_ldc (c := -1000002) cn_X7_87 ⟨by decide, by decide⟩ dX7_feed_10 ?_
    refine z_iret rfl (by decide) rfl (Nat.sub_self _) dX7_feed_12 ?_
    rw [if_pos (by omega)]
    exact ⟨rfl, rfl⟩
