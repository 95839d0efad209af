/-! ===== the reference's reader: the rules taken over ===== -/
def tkR (M : FMem) (a b c f : Int) : FMem := fun x j => if x = 75 ∧ 0 ≤ j ∧ j < a then M 80 j else if x = 76 ∧ 0 ≤ j ∧ j < b then M 81 j else if (77 ≤ x ∧ x ≤ 79) ∧ 0 ≤ j ∧ j < c then M (x + 5) j else if x = 60 ∧ f = 1 ∧ j = 17 then M 60 27 else if x = 60 ∧ f = 1 ∧ j = 18 then M 60 28 else if x = 60 ∧ f = 1 ∧ j = 20 then M 60 29 else if x = 60 ∧ f = 1 ∧ j = 21 then M 60 30 else M x j
theorem tkR_0 (M : FMem) : tkR M 0 0 0 0 = M := by
  funext x j
  unfold tkR
  rw [if_neg (by omega), if_neg (by omega), if_neg (by omega), if_neg (by omega), if_neg (by omega), if_neg (by omega), if_neg (by omega)]
theorem tkR_r {M : FMem} {a b c f : Int} {x : Nat} {j : Int} (h : ¬ (75 ≤ x ∧ x ≤ 79)) (h2 : ¬ (x = 60 ∧ (j = 17 ∨ j = 18 ∨ j = 20 ∨ j = 21))) : tkR M a b c f x j = M x j := by
  unfold tkR
  rw [if_neg (by omega), if_neg (by omega), if_neg (by omega), if_neg (by omega), if_neg (by omega), if_neg (by omega), if_neg (by omega)]
theorem tkR_21 (M : FMem) (a b c : Int) : tkR M a b c 1 60 21 = M 60 30 := by
  unfold tkR
  rw [if_neg (by omega), if_neg (by omega), if_neg (by omega), if_neg (by omega), if_neg (by omega), if_neg (by omega), if_pos (by omega)]
theorem tkR_a {M : FMem} {a : Int} (ha : 0 ≤ a) : st (tkR M a 0 0 0) 75 a (M 80 a) = tkR M (a + 1) 0 0 0 := by
  funext x j
  unfold st
  by_cases e : x = 75 ∧ j = a
  · rw [if_pos e]
    unfold tkR
    rw [if_pos (by omega), e.2]
  · rw [if_neg e]
    unfold tkR
    by_cases z : x = 75 ∧ 0 ≤ j ∧ j < a
    · rw [if_pos z, if_pos (show x = 75 ∧ 0 ≤ j ∧ j < a + 1 by omega)]
    · rw [if_neg z, if_neg (show ¬ (x = 75 ∧ 0 ≤ j ∧ j < a + 1) by omega)]
theorem tkR_b {M : FMem} {b : Int} (hb : 0 ≤ b) : st (tkR M 24 b 0 0) 76 b (M 81 b) = tkR M 24 (b + 1) 0 0 := by
  funext x j
  unfold st
  by_cases e : x = 76 ∧ j = b
  · rw [if_pos e]
    unfold tkR
    rw [if_neg (by omega), if_pos (by omega), e.2]
  · rw [if_neg e]
    unfold tkR
    by_cases y : x = 75 ∧ 0 ≤ j ∧ j < 24
    · rw [if_pos y, if_pos y]
    · rw [if_neg y, if_neg y]
      by_cases z : x = 76 ∧ 0 ≤ j ∧ j < b
      · rw [if_pos z, if_pos (show x = 76 ∧ 0 ≤ j ∧ j < b + 1 by omega)]
      · rw [if_neg z, if_neg (show ¬ (x = 76 ∧ 0 ≤ j ∧ j < b + 1) by omega)]
theorem tkR_f {M : FMem} : st (st (st (st (tkR M 24 6 0 0) 60 17 (M 60 27)) 60 18 (M 60 28)) 60 20 (M 60 29)) 60 21 (M 60 30) = tkR M 24 6 0 1 := by
  funext x j
  by_cases hx : x = 60
  · unfold st tkR
    rw [if_neg (fun z => by omega : ¬ (x = 75 ∧ 0 ≤ j ∧ j < 24)), if_neg (fun z => by omega : ¬ (x = 76 ∧ 0 ≤ j ∧ j < 6)), if_neg (fun z => by omega : ¬ ((77 ≤ x ∧ x ≤ 79) ∧ 0 ≤ j ∧ j < 0))]
    by_cases h21 : j = 21
    · rw [if_pos (by omega), if_neg (by omega), if_neg (by omega), if_neg (by omega), if_neg (by omega), if_neg (by omega), if_neg (by omega), if_pos (by omega)]
    · rw [if_neg (by omega)]
      by_cases h20 : j = 20
      · rw [if_pos (by omega), if_neg (by omega), if_neg (by omega), if_neg (by omega), if_neg (by omega), if_neg (by omega), if_pos (by omega)]
      · rw [if_neg (by omega)]
        by_cases h18 : j = 18
        · rw [if_pos (by omega), if_neg (by omega), if_neg (by omega), if_neg (by omega), if_neg (by omega), if_pos (by omega)]
        · rw [if_neg (by omega)]
          by_cases h17 : j = 17
          · rw [if_pos (by omega), if_neg (by omega), if_neg (by omega), if_neg (by omega), if_pos (by omega)]
          · rw [if_neg (by omega)]
            repeat rw [if_neg (by omega)]
  · rw [st_cell hx, st_cell hx, st_cell hx, st_cell hx]
    unfold tkR
    by_cases y : x = 75 ∧ 0 ≤ j ∧ j < 24
    · rw [if_pos y, if_pos y]
    · rw [if_neg y, if_neg y]
      by_cases z : x = 76 ∧ 0 ≤ j ∧ j < 6
      · rw [if_pos z, if_pos z]
      · rw [if_neg z, if_neg z]
        repeat rw [if_neg (by omega)]
theorem tkR_c {M : FMem} {c : Int} (hc : 0 ≤ c) : st (st (st (tkR M 24 6 c 1) 77 c (M 82 c)) 78 c (M 83 c)) 79 c (M 84 c) = tkR M 24 6 (c + 1) 1 := by
  funext x j
  by_cases e : (77 ≤ x ∧ x ≤ 79) ∧ j = c
  · have hr : tkR M 24 6 (c + 1) 1 x j = M (x + 5) j := by
      unfold tkR
      rw [if_neg (by omega), if_neg (by omega), if_pos (by omega)]
    rw [hr]
    have hx : x = 77 ∨ x = 78 ∨ x = 79 := by omega
    rw [e.2]
    rcases hx with rfl | rfl | rfl
    · rw [st_cell (by decide), st_cell (by decide), st_same]
    · rw [st_cell (by decide), st_same]
    · rw [st_same]
  · unfold st
    rw [if_neg (by omega), if_neg (by omega), if_neg (by omega)]
    unfold tkR
    by_cases y : x = 75 ∧ 0 ≤ j ∧ j < 24
    · rw [if_pos y, if_pos y]
    · rw [if_neg y, if_neg y]
      by_cases z : x = 76 ∧ 0 ≤ j ∧ j < 6
      · rw [if_pos z, if_pos z]
      · rw [if_neg z, if_neg z]
        by_cases w : (77 ≤ x ∧ x ≤ 79) ∧ 0 ≤ j ∧ j < c
        · rw [if_pos w, if_pos (show (77 ≤ x ∧ x ≤ 79) ∧ 0 ≤ j ∧ j < c + 1 by omega)]
        · rw [if_neg w, if_neg (show ¬ ((77 ≤ x ∧ x ≤ 79) ∧ 0 ≤ j ∧ j < c + 1) by omega)]
theorem tk75 {M : FMem} {a b c f j : Int} (h1 : 0 ≤ j) (h2 : j < a) : tkR M a b c f 75 j = M 80 j := if_pos ⟨rfl, h1, h2⟩
theorem tk76 {M : FMem} {a b c f j : Int} (h1 : 0 ≤ j) (h2 : j < b) : tkR M a b c f 76 j = M 81 j := (if_neg (by omega)).trans (if_pos ⟨rfl, h1, h2⟩)
theorem tk77 {M : FMem} {a b c f j : Int} (x : Nat) (hx : 77 ≤ x ∧ x ≤ 79) (h1 : 0 ≤ j) (h2 : j < c) : tkR M a b c f x j = M (x + 5) j := (if_neg (by omega)).trans ((if_neg (by omega)).trans (if_pos ⟨hx, h1, h2⟩))
/-- the rules of the reference, numbered as the class's -/
def rm (M : FMem) : FMem := fun c i => if c = 0 then (if i = 5 then M 60 17 else if i = 6 then M 60 18 else if i = 7 then M 60 20 else M 60 21) else if c = 5 then M 76 i else if c = 6 then M 77 i else if c = 7 then M 78 i else if c = 8 then M 79 i else M 75 (4 * i + ((c : Int) - 1))
theorem tkR_rm (M : FMem) : DrP (rm (tkR M 24 6 (M 60 30) 1)) (dm M) := by
  refine ⟨fun c i c1 c2 i1 i2 => ?_, ⟨?_, ?_, ?_, ?_⟩, fun c i c1 c2 i1 i2 => ?_⟩
  · have hc : c = 1 ∨ c = 2 ∨ c = 3 ∨ c = 4 ∨ c = 5 := by omega
    rcases hc with rfl | rfl | rfl | rfl | rfl
    · exact tk75 (by omega) (by omega)
    · exact tk75 (by omega) (by omega)
    · exact tk75 (by omega) (by omega)
    · exact tk75 (by omega) (by omega)
    · exact tk76 (a := 24) (by omega) (by omega)
  · show tkR M 24 6 (M 60 30) 1 60 17 = M 60 27
    unfold tkR
    rw [if_neg (by omega), if_neg (by omega), if_neg (by omega), if_pos (by omega)]
  · show tkR M 24 6 (M 60 30) 1 60 18 = M 60 28
    unfold tkR
    rw [if_neg (by omega), if_neg (by omega), if_neg (by omega), if_neg (by omega), if_pos (by omega)]
  · show tkR M 24 6 (M 60 30) 1 60 20 = M 60 29
    unfold tkR
    rw [if_neg (by omega), if_neg (by omega), if_neg (by omega), if_neg (by omega), if_neg (by omega), if_pos (by omega)]
  · exact tkR_21 M 24 6 (M 60 30)
  · have i3 : i < M 60 30 := i2
    have hc : c = 6 ∨ c = 7 ∨ c = 8 := by omega
    rcases hc with rfl | rfl | rfl
    · exact tk77 (a := 24) (b := 6) 77 (by omega) i1 i3
    · exact tk77 (a := 24) (b := 6) 78 (by omega) i1 i3
    · exact tk77 (a := 24) (b := 6) 79 (by omega) i1 i3
set_option maxHeartbeats 1600000 in
theorem A_X8_takeRules (l : Launch) (g : Cx) (M : FMem) (hcl : 0 ≤ M 60 30 ∧ M 60 30 ≤ 8) : AMv l g true fi_X8_takeRules [fr 60] 93 M (fun M2 => M2 = tkR M 24 6 (M 60 30) 1) := by
  refine AMv_intro [fr 60, fu] (by decide) (knall rfl) (Nat.le_of_ble_eq_true rfl) rfl ?_
  intro hNV hM0 μ
  have lp86 : ∀ (kq : Nat) (kz : Int) (M1 : FMem), (8 - kz).toNat = kq → (0 ≤ kz ∧ kz ≤ M 60 30) → (M1 = tkR M 24 6 kz 1) → Wa l g true fi_X8_takeRules 93 μ (Zv g true fi_X8_takeRules 93 μ (fun M2 => M2 = tkR M 24 6 (M 60 30) 1)) 86 [] [fr 60, fi kz] 93 M1 := by
    intro kq
    induction kq using Nat.strongRecOn with
    | _ kq ih86 =>
    intro kz M1 hk86 hk hM
    have e1 : M1 60 21 = M 60 30 := by rw [hM]; exact tkR_21 M 24 6 kz
    have r82 : M1 82 kz = M 82 kz := by rw [hM]; exact tkR_r (by omega) (by omega)
    have r83 : M1 83 kz = M 83 kz := by rw [hM]; exact tkR_r (by omega) (by omega)
    have r84 : M1 84 kz = M 84 kz := by rw [hM]; exact tkR_r (by omega) (by omega)
    refine z_iload_n dX8_takeRules_86 rfl ?_
    refine z_aload_nr dX8_takeRules_87 rfl ?_
    refine z_geti (kz := 21) fl_X8_276 rfl (by decide) rfl dX8_takeRules_88 (fun x1 hx1 bx1 => ?_)
    refine z_icmp_ge (tgt := 136) dX8_takeRules_91 (by decide) (fun c2 => ?_) (fun c2 => ?_)
    · refine z_vret rfl (by decide) rfl (Nat.sub_self _) dX8_takeRules_136 ?_
      rw [hM, show kz = M 60 30 by omega]
    · refine z_aload_nr dX8_takeRules_94 rfl ?_
      refine z_getr (b := 77) fl_X8_59 rfl (by decide) rf_60_22 rfl dX8_takeRules_95 ?_
      refine z_iload_n dX8_takeRules_98 rfl ?_
      refine z_aload_nr dX8_takeRules_99 rfl ?_
      refine z_getr (b := 82) fl_X8_74 rfl (by decide) rf_60_31 rfl dX8_takeRules_100 ?_
      refine z_iload_n dX8_takeRules_103 rfl ?_
      refine z_iald rfl (by decide) (by omega) (by omega) dX8_takeRules_104 (fun x3 hx3 bx3 => ?_)
      refine z_iast rfl (by decide) (by omega) (by omega) dX8_takeRules_105 (fun Mz4 hMz4 => ?_)
      refine z_aload_nr dX8_takeRules_106 rfl ?_
      refine z_getr (b := 78) fl_X8_62 rfl (by decide) rf_60_23 rfl dX8_takeRules_107 ?_
      refine z_iload_n dX8_takeRules_110 rfl ?_
      refine z_aload_nr dX8_takeRules_111 rfl ?_
      refine z_getr (b := 83) fl_X8_77 rfl (by decide) rf_60_32 rfl dX8_takeRules_112 ?_
      refine z_iload_n dX8_takeRules_115 rfl ?_
      refine z_iald rfl (by decide) (by omega) (by omega) dX8_takeRules_116 (fun x5 hx5 bx5 => ?_)
      rw [hMz4, st_cell (by decide)] at hx5
      refine z_iast rfl (by decide) (by omega) (by omega) dX8_takeRules_117 (fun Mz6 hMz6 => ?_)
      refine z_aload_nr dX8_takeRules_118 rfl ?_
      refine z_getr (b := 79) fl_X8_65 rfl (by decide) rf_60_24 rfl dX8_takeRules_119 ?_
      refine z_iload_n dX8_takeRules_122 rfl ?_
      refine z_aload_nr dX8_takeRules_123 rfl ?_
      refine z_getr (b := 84) fl_X8_80 rfl (by decide) rf_60_33 rfl dX8_takeRules_124 ?_
      refine z_iload_n dX8_takeRules_127 rfl ?_
      refine z_zald rfl (by decide) (by omega) (by omega) dX8_takeRules_128 (fun x7 hx7 bx7 => ?_)
      rw [hMz6, st_cell (by decide), hMz4, st_cell (by decide)] at hx7
      refine z_zast rfl (by decide) (by omega) (by omega) (by omega) dX8_takeRules_129 (fun Mz8 hMz8 => ?_)
      refine z_iinc (loc2 := fun vq => [fr 60, fi vq]) dX8_takeRules_130 rfl (by decide) (by omega) (fun _ => rfl) (fun x9 hx9 => ?_)
      refine z_goto (tgt := 86) dX8_takeRules_133 (by decide) ?_
      exact ih86 _ (by omega) x9 Mz8 rfl (by omega) (by rw [hx9, ← tkR_c hk.1, hMz8, hMz6, hMz4, hM]; congr 1 <;> first | omega | (congr 1 <;> first | omega | (congr 1; omega)))
  have lp28 : ∀ (kq : Nat) (kz : Int) (M1 : FMem), (6 - kz).toNat = kq → (0 ≤ kz ∧ kz ≤ 6) → (M1 = tkR M 24 kz 0 0) → Wa l g true fi_X8_takeRules 93 μ (Zv g true fi_X8_takeRules 93 μ (fun M2 => M2 = tkR M 24 6 (M 60 30) 1)) 28 [] [fr 60, fi kz] 93 M1 := by
    intro kq
    induction kq using Nat.strongRecOn with
    | _ kq ih28 =>
    intro kz M1 hk28 hk hM
    have e27 : M1 60 27 = M 60 27 := by rw [hM]; exact tkR_r (by omega) (by omega)
    have e28 : M1 60 28 = M 60 28 := by rw [hM]; exact tkR_r (by omega) (by omega)
    have e29 : M1 60 29 = M 60 29 := by rw [hM]; exact tkR_r (by omega) (by omega)
    have e30 : M1 60 30 = M 60 30 := by rw [hM]; exact tkR_r (by omega) (by omega)
    have r81 : M1 81 kz = M 81 kz := by rw [hM]; exact tkR_r (by omega) (by omega)
    refine z_iload_n dX8_takeRules_28 rfl ?_
    refine z_bipush dX8_takeRules_29 ⟨by decide, by decide⟩ (by decide) ?_
    refine z_icmp_ge (tgt := 52) dX8_takeRules_31 (by decide) (fun c10 => ?_) (fun c10 => ?_)
    · refine z_aload_nr dX8_takeRules_52 rfl ?_
      refine z_aload_nr dX8_takeRules_53 rfl ?_
      refine z_geti (kz := 27) fl_X8_258 rfl (by decide) rfl dX8_takeRules_54 (fun x11 hx11 bx11 => ?_)
      refine z_puti (kz := 17) fl_X8_189 rfl (by decide) rfl nr_60_17 dX8_takeRules_57 (fun Mz12 hMz12 => ?_)
      refine z_aload_nr dX8_takeRules_60 rfl ?_
      refine z_aload_nr dX8_takeRules_61 rfl ?_
      refine z_geti (kz := 28) fl_X8_261 rfl (by decide) rfl dX8_takeRules_62 (fun x13 hx13 bx13 => ?_)
      rw [hMz12, st_at, if_neg (by decide)] at hx13
      refine z_puti (kz := 18) fl_X8_192 rfl (by decide) rfl nr_60_18 dX8_takeRules_65 (fun Mz14 hMz14 => ?_)
      refine z_aload_nr dX8_takeRules_68 rfl ?_
      refine z_aload_nr dX8_takeRules_69 rfl ?_
      refine z_geti (kz := 29) fl_X8_267 rfl (by decide) rfl dX8_takeRules_70 (fun x15 hx15 bx15 => ?_)
      rw [hMz14, st_at, if_neg (by decide), hMz12, st_at, if_neg (by decide)] at hx15
      refine z_puti (kz := 20) fl_X8_273 rfl (by decide) rfl nr_60_20 dX8_takeRules_73 (fun Mz16 hMz16 => ?_)
      refine z_aload_nr dX8_takeRules_76 rfl ?_
      refine z_aload_nr dX8_takeRules_77 rfl ?_
      refine z_geti (kz := 30) fl_X8_252 rfl (by decide) rfl dX8_takeRules_78 (fun x17 hx17 bx17 => ?_)
      rw [hMz16, st_at, if_neg (by decide), hMz14, st_at, if_neg (by decide), hMz12, st_at, if_neg (by decide)] at hx17
      refine z_puti (kz := 21) fl_X8_276 rfl (by decide) rfl nr_60_21 dX8_takeRules_81 (fun Mz18 hMz18 => ?_)
      refine z_iconst dX8_takeRules_84 ⟨by decide, by decide⟩ ?_
      refine z_istore_n (loc2 := [fr 60, fi 0]) dX8_takeRules_85 (by decide) rfl ?_
      exact lp86 _ 0 Mz18 rfl (by omega) (by
        rw [hMz18, hMz16, hMz14, hMz12, hM, show kz = 6 by omega, ← tkR_f]
        congr 1 <;> first | omega | (congr 1 <;> first | omega | (congr 1 <;> first | omega | (congr 1; omega))))
    · refine z_aload_nr dX8_takeRules_34 rfl ?_
      refine z_getr (b := 76) fl_X8_56 rfl (by decide) rf_60_19 rfl dX8_takeRules_35 ?_
      refine z_iload_n dX8_takeRules_38 rfl ?_
      refine z_aload_nr dX8_takeRules_39 rfl ?_
      refine z_getr (b := 81) fl_X8_71 rfl (by decide) rf_60_26 rfl dX8_takeRules_40 ?_
      refine z_iload_n dX8_takeRules_43 rfl ?_
      refine z_iald rfl (by decide) (by omega) (by omega) dX8_takeRules_44 (fun x19 hx19 bx19 => ?_)
      refine z_iast rfl (by decide) (by omega) (by omega) dX8_takeRules_45 (fun Mz20 hMz20 => ?_)
      refine z_iinc (loc2 := fun vq => [fr 60, fi vq]) dX8_takeRules_46 rfl (by decide) (by omega) (fun _ => rfl) (fun x21 hx21 => ?_)
      refine z_goto (tgt := 28) dX8_takeRules_49 (by decide) ?_
      exact ih28 _ (by omega) x21 Mz20 rfl (by omega) (by rw [hx21, ← tkR_b hk.1, hMz20, hM]; congr 1; omega)
  have lp2 : ∀ (kq : Nat) (kz : Int) (M1 : FMem), (24 - kz).toNat = kq → (0 ≤ kz ∧ kz ≤ 24) → (M1 = tkR M kz 0 0 0) → Wa l g true fi_X8_takeRules 93 μ (Zv g true fi_X8_takeRules 93 μ (fun M2 => M2 = tkR M 24 6 (M 60 30) 1)) 2 [] [fr 60, fi kz] 93 M1 := by
    intro kq
    induction kq using Nat.strongRecOn with
    | _ kq ih2 =>
    intro kz M1 hk2 hk hM
    have r80 : M1 80 kz = M 80 kz := by rw [hM]; exact tkR_r (by omega) (by omega)
    refine z_iload_n dX8_takeRules_2 rfl ?_
    refine z_bipush dX8_takeRules_3 ⟨by decide, by decide⟩ (by decide) ?_
    refine z_icmp_ge (tgt := 26) dX8_takeRules_5 (by decide) (fun c22 => ?_) (fun c22 => ?_)
    · refine z_iconst dX8_takeRules_26 ⟨by decide, by decide⟩ ?_
      refine z_istore_n (loc2 := [fr 60, fi 0]) dX8_takeRules_27 (by decide) rfl ?_
      exact lp28 _ 0 M1 rfl (by omega) (by rw [hM, show kz = 24 by omega])
    · refine z_aload_nr dX8_takeRules_8 rfl ?_
      refine z_getr (b := 75) fl_X8_53 rfl (by decide) rf_60_16 rfl dX8_takeRules_9 ?_
      refine z_iload_n dX8_takeRules_12 rfl ?_
      refine z_aload_nr dX8_takeRules_13 rfl ?_
      refine z_getr (b := 80) fl_X8_68 rfl (by decide) rf_60_25 rfl dX8_takeRules_14 ?_
      refine z_iload_n dX8_takeRules_17 rfl ?_
      refine z_iald rfl (by decide) (by omega) (by omega) dX8_takeRules_18 (fun x23 hx23 bx23 => ?_)
      refine z_iast rfl (by decide) (by omega) (by omega) dX8_takeRules_19 (fun Mz24 hMz24 => ?_)
      refine z_iinc (loc2 := fun vq => [fr 60, fi vq]) dX8_takeRules_20 rfl (by decide) (by omega) (fun _ => rfl) (fun x25 hx25 => ?_)
      refine z_goto (tgt := 2) dX8_takeRules_23 (by decide) ?_
      exact ih2 _ (by omega) x25 Mz24 rfl (by omega) (by rw [hx25, ← tkR_a hk.1, hMz24, hM]; congr 1; omega)
  refine z_iconst dX8_takeRules_0 ⟨by decide, by decide⟩ ?_
  refine z_istore_n (loc2 := [fr 60, fi 0]) dX8_takeRules_1 (by decide) rfl ?_
  exact lp2 _ 0 M rfl (by omega) ((tkR_0 M).symm)
