/-! ===== fault, rule, blind, open ===== -/
def rulX (M : FMem) (r : Nat) (what i : Int) : Int := if ((0 ≤ what ∧ what ≤ 3) ∧ ¬ (0 ≤ i ∧ i ≤ 5)) ∨ (what = 6 ∧ ¬ (0 ≤ i ∧ i ≤ 5)) then -1000001 else if what = 0 then M (r + 1) i else if what = 1 then M (r + 2) i else if what = 2 then M (r + 3) i else if what = 3 then M (r + 4) i else if what = 4 then M r 5 else if what = 5 then M r 6 else if what = 6 then M (r + 5) i else if what = 7 then M r 7 else -1000002
set_option maxHeartbeats 400000 in
theorem A_X7_fault (l : Launch) (g : Cx) (M : FMem)  : AMi l g true fi_X7_fault [fr 0] 93 M (fun r M2 => M2 = M ∧ (fun q => q = M 17 3) r) := by
  refine AMi_intro [fr 0] (by decide) (knall rfl) (Nat.le_of_ble_eq_true rfl) rfl ?_
  intro hNV hM0 μ
  refine z_aload_nr dX7_fault_0 rfl ?_
  refine z_getr (b := 17) fl_X7_26 rfl (by decide) rf_0_2 rfl dX7_fault_1 ?_
  refine z_geti (kz := 3) fl_X7_183 rfl (by decide) rfl dX7_fault_4 (fun x1 hx1 bx1 => ?_)
  refine z_iret rfl (by decide) rfl (Nat.sub_self _) dX7_fault_7 ?_
  exact ⟨rfl, by omega⟩
set_option maxHeartbeats 400000 in
theorem A_X7_rule42 (l : Launch) (g : Cx) (M : FMem) (what i : Int) (hT : M 0 6 = 42) : AMi l g true fi_X7_rule [fr 0, fi what, fi i] 93 M (fun r M2 => M2 = M ∧ (fun q => q = rulX M 42 what i) r) := by
  refine AMi_intro [fr 0, fi what, fi i] (by decide) (knall rfl) (Nat.le_of_ble_eq_true rfl) rfl ?_
  intro hNV hM0 μ
  have bwhat : N32 what := hNV (fi what) (by simp)
  have bi : N32 i := hNV (fi i) (by simp)
  unfold rulX
  simp only [Nat.reduceAdd]
  refine z_iload_n dX7_rule_0 rfl ?_
  refine z_iconst dX7_rule_1 ⟨by decide, by decide⟩ ?_
  refine z_iconst dX7_rule_2 ⟨by decide, by decide⟩ ?_
  refine z_callSip (n2 := 93) (A_X7_isFrom l g M what 0 3) cb_X7_isFrom cl_X7_83 (clr0 rfl rfl (by decide) (by decide)) rfl (by decide) rfl (Nat.le_of_ble_eq_true rfl) rfl dX7_rule_3 (fun x1 bx1 hx1 => ?_)
  have i1 := if01 hx1
  refine z_if_eq (tgt := 16) dX7_rule_6 (by decide) (fun c2 => ?_) (fun c2 => ?_)
  · refine z_iload_n dX7_rule_16 rfl ?_
    refine z_bipush dX7_rule_17 ⟨by decide, by decide⟩ (by decide) ?_
    refine z_icmp_ne (tgt := 32) dX7_rule_19 (by decide) (fun c3 => ?_) (fun c3 => ?_)
    · refine z_iload_n dX7_rule_32 rfl ?_
      by_cases s4_0 : what = 0
      · refine z_tableIn (tgt := 80) dX7_rule_33 (by omega) (by omega) (by rw [s4_0]; rfl) (by decide) ?_
        refine z_aload_nr dX7_rule_80 rfl ?_
        refine z_getv (b := 42) (kz := 6) fl_X7_54 rfl (by decide) rfl (fun _ => hT) dX7_rule_81 ?_
        refine z_getr (b := 43) fl_X7_186 rfl (by decide) rf_42_0 rfl dX7_rule_84 ?_
        refine z_iload_n dX7_rule_87 rfl ?_
        refine z_iald rfl (by decide) (by omega) (by omega) dX7_rule_88 (fun x5 hx5 bx5 => ?_)
        refine z_iret rfl (by decide) rfl (Nat.sub_self _) dX7_rule_89 ?_
        refine ⟨rfl, ?_⟩
        first
        | (exfalso; omega)
        | (rw [if_neg (by omega)]
           first | (rw [if_pos (by omega)]; first | done | omega) | (rw [if_neg (by omega), if_pos (by omega)]; first | done | omega) | (rw [if_neg (by omega), if_neg (by omega), if_pos (by omega)]; first | done | omega) | (rw [if_neg (by omega), if_neg (by omega), if_neg (by omega), if_pos (by omega)]; first | done | omega) | (rw [if_neg (by omega), if_neg (by omega), if_neg (by omega), if_neg (by omega), if_pos (by omega)]; first | done | omega) | (rw [if_neg (by omega), if_neg (by omega), if_neg (by omega), if_neg (by omega), if_neg (by omega), if_pos (by omega)]; first | done | omega) | (rw [if_neg (by omega), if_neg (by omega), if_neg (by omega), if_neg (by omega), if_neg (by omega), if_neg (by omega), if_pos (by omega)]; first | done | omega) | (rw [if_neg (by omega), if_neg (by omega), if_neg (by omega), if_neg (by omega), if_neg (by omega), if_neg (by omega), if_neg (by omega), if_pos (by omega)]; first | done | omega) | (rw [if_neg (by omega), if_neg (by omega), if_neg (by omega), if_neg (by omega), if_neg (by omega), if_neg (by omega), if_neg (by omega), if_neg (by omega)]; first | done | omega))
      by_cases s4_1 : what = 1
      · refine z_tableIn (tgt := 90) dX7_rule_33 (by omega) (by omega) (by rw [s4_1]; rfl) (by decide) ?_
        refine z_aload_nr dX7_rule_90 rfl ?_
        refine z_getv (b := 42) (kz := 6) fl_X7_54 rfl (by decide) rfl (fun _ => hT) dX7_rule_91 ?_
        refine z_getr (b := 44) fl_X7_189 rfl (by decide) rf_42_1 rfl dX7_rule_94 ?_
        refine z_iload_n dX7_rule_97 rfl ?_
        refine z_iald rfl (by decide) (by omega) (by omega) dX7_rule_98 (fun x6 hx6 bx6 => ?_)
        refine z_iret rfl (by decide) rfl (Nat.sub_self _) dX7_rule_99 ?_
        refine ⟨rfl, ?_⟩
        first
        | (exfalso; omega)
        | (rw [if_neg (by omega)]
           first | (rw [if_pos (by omega)]; first | done | omega) | (rw [if_neg (by omega), if_pos (by omega)]; first | done | omega) | (rw [if_neg (by omega), if_neg (by omega), if_pos (by omega)]; first | done | omega) | (rw [if_neg (by omega), if_neg (by omega), if_neg (by omega), if_pos (by omega)]; first | done | omega) | (rw [if_neg (by omega), if_neg (by omega), if_neg (by omega), if_neg (by omega), if_pos (by omega)]; first | done | omega) | (rw [if_neg (by omega), if_neg (by omega), if_neg (by omega), if_neg (by omega), if_neg (by omega), if_pos (by omega)]; first | done | omega) | (rw [if_neg (by omega), if_neg (by omega), if_neg (by omega), if_neg (by omega), if_neg (by omega), if_neg (by omega), if_pos (by omega)]; first | done | omega) | (rw [if_neg (by omega), if_neg (by omega), if_neg (by omega), if_neg (by omega), if_neg (by omega), if_neg (by omega), if_neg (by omega), if_pos (by omega)]; first | done | omega) | (rw [if_neg (by omega), if_neg (by omega), if_neg (by omega), if_neg (by omega), if_neg (by omega), if_neg (by omega), if_neg (by omega), if_neg (by omega)]; first | done | omega))
      by_cases s4_2 : what = 2
      · refine z_tableIn (tgt := 100) dX7_rule_33 (by omega) (by omega) (by rw [s4_2]; rfl) (by decide) ?_
        refine z_aload_nr dX7_rule_100 rfl ?_
        refine z_getv (b := 42) (kz := 6) fl_X7_54 rfl (by decide) rfl (fun _ => hT) dX7_rule_101 ?_
        refine z_getr (b := 45) fl_X7_192 rfl (by decide) rf_42_2 rfl dX7_rule_104 ?_
        refine z_iload_n dX7_rule_107 rfl ?_
        refine z_iald rfl (by decide) (by omega) (by omega) dX7_rule_108 (fun x7 hx7 bx7 => ?_)
        refine z_iret rfl (by decide) rfl (Nat.sub_self _) dX7_rule_109 ?_
        refine ⟨rfl, ?_⟩
        first
        | (exfalso; omega)
        | (rw [if_neg (by omega)]
           first | (rw [if_pos (by omega)]; first | done | omega) | (rw [if_neg (by omega), if_pos (by omega)]; first | done | omega) | (rw [if_neg (by omega), if_neg (by omega), if_pos (by omega)]; first | done | omega) | (rw [if_neg (by omega), if_neg (by omega), if_neg (by omega), if_pos (by omega)]; first | done | omega) | (rw [if_neg (by omega), if_neg (by omega), if_neg (by omega), if_neg (by omega), if_pos (by omega)]; first | done | omega) | (rw [if_neg (by omega), if_neg (by omega), if_neg (by omega), if_neg (by omega), if_neg (by omega), if_pos (by omega)]; first | done | omega) | (rw [if_neg (by omega), if_neg (by omega), if_neg (by omega), if_neg (by omega), if_neg (by omega), if_neg (by omega), if_pos (by omega)]; first | done | omega) | (rw [if_neg (by omega), if_neg (by omega), if_neg (by omega), if_neg (by omega), if_neg (by omega), if_neg (by omega), if_neg (by omega), if_pos (by omega)]; first | done | omega) | (rw [if_neg (by omega), if_neg (by omega), if_neg (by omega), if_neg (by omega), if_neg (by omega), if_neg (by omega), if_neg (by omega), if_neg (by omega)]; first | done | omega))
      by_cases s4_3 : what = 3
      · refine z_tableIn (tgt := 110) dX7_rule_33 (by omega) (by omega) (by rw [s4_3]; rfl) (by decide) ?_
        refine z_aload_nr dX7_rule_110 rfl ?_
        refine z_getv (b := 42) (kz := 6) fl_X7_54 rfl (by decide) rfl (fun _ => hT) dX7_rule_111 ?_
        refine z_getr (b := 46) fl_X7_195 rfl (by decide) rf_42_3 rfl dX7_rule_114 ?_
        refine z_iload_n dX7_rule_117 rfl ?_
        refine z_iald rfl (by decide) (by omega) (by omega) dX7_rule_118 (fun x8 hx8 bx8 => ?_)
        refine z_iret rfl (by decide) rfl (Nat.sub_self _) dX7_rule_119 ?_
        refine ⟨rfl, ?_⟩
        first
        | (exfalso; omega)
        | (rw [if_neg (by omega)]
           first | (rw [if_pos (by omega)]; first | done | omega) | (rw [if_neg (by omega), if_pos (by omega)]; first | done | omega) | (rw [if_neg (by omega), if_neg (by omega), if_pos (by omega)]; first | done | omega) | (rw [if_neg (by omega), if_neg (by omega), if_neg (by omega), if_pos (by omega)]; first | done | omega) | (rw [if_neg (by omega), if_neg (by omega), if_neg (by omega), if_neg (by omega), if_pos (by omega)]; first | done | omega) | (rw [if_neg (by omega), if_neg (by omega), if_neg (by omega), if_neg (by omega), if_neg (by omega), if_pos (by omega)]; first | done | omega) | (rw [if_neg (by omega), if_neg (by omega), if_neg (by omega), if_neg (by omega), if_neg (by omega), if_neg (by omega), if_pos (by omega)]; first | done | omega) | (rw [if_neg (by omega), if_neg (by omega), if_neg (by omega), if_neg (by omega), if_neg (by omega), if_neg (by omega), if_neg (by omega), if_pos (by omega)]; first | done | omega) | (rw [if_neg (by omega), if_neg (by omega), if_neg (by omega), if_neg (by omega), if_neg (by omega), if_neg (by omega), if_neg (by omega), if_neg (by omega)]; first | done | omega))
      by_cases s4_4 : what = 4
      · refine z_tableIn (tgt := 120) dX7_rule_33 (by omega) (by omega) (by rw [s4_4]; rfl) (by decide) ?_
        refine z_aload_nr dX7_rule_120 rfl ?_
        refine z_getv (b := 42) (kz := 6) fl_X7_54 rfl (by decide) rfl (fun _ => hT) dX7_rule_121 ?_
        refine z_geti (kz := 5) fl_X7_198 rfl (by decide) rfl dX7_rule_124 (fun x9 hx9 bx9 => ?_)
        refine z_iret rfl (by decide) rfl (Nat.sub_self _) dX7_rule_127 ?_
        refine ⟨rfl, ?_⟩
        first
        | (exfalso; omega)
        | (rw [if_neg (by omega)]
           first | (rw [if_pos (by omega)]; first | done | omega) | (rw [if_neg (by omega), if_pos (by omega)]; first | done | omega) | (rw [if_neg (by omega), if_neg (by omega), if_pos (by omega)]; first | done | omega) | (rw [if_neg (by omega), if_neg (by omega), if_neg (by omega), if_pos (by omega)]; first | done | omega) | (rw [if_neg (by omega), if_neg (by omega), if_neg (by omega), if_neg (by omega), if_pos (by omega)]; first | done | omega) | (rw [if_neg (by omega), if_neg (by omega), if_neg (by omega), if_neg (by omega), if_neg (by omega), if_pos (by omega)]; first | done | omega) | (rw [if_neg (by omega), if_neg (by omega), if_neg (by omega), if_neg (by omega), if_neg (by omega), if_neg (by omega), if_pos (by omega)]; first | done | omega) | (rw [if_neg (by omega), if_neg (by omega), if_neg (by omega), if_neg (by omega), if_neg (by omega), if_neg (by omega), if_neg (by omega), if_pos (by omega)]; first | done | omega) | (rw [if_neg (by omega), if_neg (by omega), if_neg (by omega), if_neg (by omega), if_neg (by omega), if_neg (by omega), if_neg (by omega), if_neg (by omega)]; first | done | omega))
      by_cases s4_5 : what = 5
      · refine z_tableIn (tgt := 128) dX7_rule_33 (by omega) (by omega) (by rw [s4_5]; rfl) (by decide) ?_
        refine z_aload_nr dX7_rule_128 rfl ?_
        refine z_getv (b := 42) (kz := 6) fl_X7_54 rfl (by decide) rfl (fun _ => hT) dX7_rule_129 ?_
        refine z_geti (kz := 6) fl_X7_201 rfl (by decide) rfl dX7_rule_132 (fun x10 hx10 bx10 => ?_)
        refine z_iret rfl (by decide) rfl (Nat.sub_self _) dX7_rule_135 ?_
        refine ⟨rfl, ?_⟩
        first
        | (exfalso; omega)
        | (rw [if_neg (by omega)]
           first | (rw [if_pos (by omega)]; first | done | omega) | (rw [if_neg (by omega), if_pos (by omega)]; first | done | omega) | (rw [if_neg (by omega), if_neg (by omega), if_pos (by omega)]; first | done | omega) | (rw [if_neg (by omega), if_neg (by omega), if_neg (by omega), if_pos (by omega)]; first | done | omega) | (rw [if_neg (by omega), if_neg (by omega), if_neg (by omega), if_neg (by omega), if_pos (by omega)]; first | done | omega) | (rw [if_neg (by omega), if_neg (by omega), if_neg (by omega), if_neg (by omega), if_neg (by omega), if_pos (by omega)]; first | done | omega) | (rw [if_neg (by omega), if_neg (by omega), if_neg (by omega), if_neg (by omega), if_neg (by omega), if_neg (by omega), if_pos (by omega)]; first | done | omega) | (rw [if_neg (by omega), if_neg (by omega), if_neg (by omega), if_neg (by omega), if_neg (by omega), if_neg (by omega), if_neg (by omega), if_pos (by omega)]; first | done | omega) | (rw [if_neg (by omega), if_neg (by omega), if_neg (by omega), if_neg (by omega), if_neg (by omega), if_neg (by omega), if_neg (by omega), if_neg (by omega)]; first | done | omega))
      by_cases s4_6 : what = 6
      · refine z_tableIn (tgt := 136) dX7_rule_33 (by omega) (by omega) (by rw [s4_6]; rfl) (by decide) ?_
        refine z_aload_nr dX7_rule_136 rfl ?_
        refine z_getv (b := 42) (kz := 6) fl_X7_54 rfl (by decide) rfl (fun _ => hT) dX7_rule_137 ?_
        refine z_getr (b := 47) fl_X7_204 rfl (by decide) rf_42_4 rfl dX7_rule_140 ?_
        refine z_iload_n dX7_rule_143 rfl ?_
        refine z_iald rfl (by decide) (by omega) (by omega) dX7_rule_144 (fun x11 hx11 bx11 => ?_)
        refine z_iret rfl (by decide) rfl (Nat.sub_self _) dX7_rule_145 ?_
        refine ⟨rfl, ?_⟩
        first
        | (exfalso; omega)
        | (rw [if_neg (by omega)]
           first | (rw [if_pos (by omega)]; first | done | omega) | (rw [if_neg (by omega), if_pos (by omega)]; first | done | omega) | (rw [if_neg (by omega), if_neg (by omega), if_pos (by omega)]; first | done | omega) | (rw [if_neg (by omega), if_neg (by omega), if_neg (by omega), if_pos (by omega)]; first | done | omega) | (rw [if_neg (by omega), if_neg (by omega), if_neg (by omega), if_neg (by omega), if_pos (by omega)]; first | done | omega) | (rw [if_neg (by omega), if_neg (by omega), if_neg (by omega), if_neg (by omega), if_neg (by omega), if_pos (by omega)]; first | done | omega) | (rw [if_neg (by omega), if_neg (by omega), if_neg (by omega), if_neg (by omega), if_neg (by omega), if_neg (by omega), if_pos (by omega)]; first | done | omega) | (rw [if_neg (by omega), if_neg (by omega), if_neg (by omega), if_neg (by omega), if_neg (by omega), if_neg (by omega), if_neg (by omega), if_pos (by omega)]; first | done | omega) | (rw [if_neg (by omega), if_neg (by omega), if_neg (by omega), if_neg (by omega), if_neg (by omega), if_neg (by omega), if_neg (by omega), if_neg (by omega)]; first | done | omega))
      by_cases s4_7 : what = 7
      · refine z_tableIn (tgt := 146) dX7_rule_33 (by omega) (by omega) (by rw [s4_7]; rfl) (by decide) ?_
        refine z_aload_nr dX7_rule_146 rfl ?_
        refine z_getv (b := 42) (kz := 6) fl_X7_54 rfl (by decide) rfl (fun _ => hT) dX7_rule_147 ?_
        refine z_geti (kz := 7) fl_X7_207 rfl (by decide) rfl dX7_rule_150 (fun x12 hx12 bx12 => ?_)
        refine z_iret rfl (by decide) rfl (Nat.sub_self _) dX7_rule_153 ?_
        refine ⟨rfl, ?_⟩
        first
        | (exfalso; omega)
        | (rw [if_neg (by omega)]
           first | (rw [if_pos (by omega)]; first | done | omega) | (rw [if_neg (by omega), if_pos (by omega)]; first | done | omega) | (rw [if_neg (by omega), if_neg (by omega), if_pos (by omega)]; first | done | omega) | (rw [if_neg (by omega), if_neg (by omega), if_neg (by omega), if_pos (by omega)]; first | done | omega) | (rw [if_neg (by omega), if_neg (by omega), if_neg (by omega), if_neg (by omega), if_pos (by omega)]; first | done | omega) | (rw [if_neg (by omega), if_neg (by omega), if_neg (by omega), if_neg (by omega), if_neg (by omega), if_pos (by omega)]; first | done | omega) | (rw [if_neg (by omega), if_neg (by omega), if_neg (by omega), if_neg (by omega), if_neg (by omega), if_neg (by omega), if_pos (by omega)]; first | done | omega) | (rw [if_neg (by omega), if_neg (by omega), if_neg (by omega), if_neg (by omega), if_neg (by omega), if_neg (by omega), if_neg (by omega), if_pos (by omega)]; first | done | omega) | (rw [if_neg (by omega), if_neg (by omega), if_neg (by omega), if_neg (by omega), if_neg (by omega), if_neg (by omega), if_neg (by omega), if_neg (by omega)]; first | done | omega))
      refine z_tableOut (tgt := 154) dX7_rule_33 (by omega) (by decide) ?_
      refine z_ldc (c := -1000002) cn_X7_87 ⟨by decide, by decide⟩ dX7_rule_154 ?_
      refine z_iret rfl (by decide) rfl (Nat.sub_self _) dX7_rule_156 ?_
      refine ⟨rfl, ?_⟩
      first
      | (exfalso; omega)
      | (rw [if_neg (by omega)]
         first | (rw [if_pos (by omega)]; first | done | omega) | (rw [if_neg (by omega), if_pos (by omega)]; first | done | omega) | (rw [if_neg (by omega), if_neg (by omega), if_pos (by omega)]; first | done | omega) | (rw [if_neg (by omega), if_neg (by omega), if_neg (by omega), if_pos (by omega)]; first | done | omega) | (rw [if_neg (by omega), if_neg (by omega), if_neg (by omega), if_neg (by omega), if_pos (by omega)]; first | done | omega) | (rw [if_neg (by omega), if_neg (by omega), if_neg (by omega), if_neg (by omega), if_neg (by omega), if_pos (by omega)]; first | done | omega) | (rw [if_neg (by omega), if_neg (by omega), if_neg (by omega), if_neg (by omega), if_neg (by omega), if_neg (by omega), if_pos (by omega)]; first | done | omega) | (rw [if_neg (by omega), if_neg (by omega), if_neg (by omega), if_neg (by omega), if_neg (by omega), if_neg (by omega), if_neg (by omega), if_pos (by omega)]; first | done | omega) | (rw [if_neg (by omega), if_neg (by omega), if_neg (by omega), if_neg (by omega), if_neg (by omega), if_neg (by omega), if_neg (by omega), if_neg (by omega)]; first | done | omega))
    · refine z_iload_n dX7_rule_22 rfl ?_
      refine z_callSip (n2 := 93) (A_X7_isList l g M i) cb_X7_isList cl_X7_72 (clr0 rfl rfl (by decide) (by decide)) rfl (by decide) rfl (Nat.le_of_ble_eq_true rfl) rfl dX7_rule_23 (fun x13 bx13 hx13 => ?_)
      have i13 := if01 hx13
      refine z_if_ne (tgt := 32) dX7_rule_26 (by decide) (fun c14 => ?_) (fun c14 => ?_)
      · refine z_iload_n dX7_rule_32 rfl ?_
        by_cases s15_0 : what = 0
        · refine z_tableIn (tgt := 80) dX7_rule_33 (by omega) (by omega) (by rw [s15_0]; rfl) (by decide) ?_
          refine z_aload_nr dX7_rule_80 rfl ?_
          refine z_getv (b := 42) (kz := 6) fl_X7_54 rfl (by decide) rfl (fun _ => hT) dX7_rule_81 ?_
          refine z_getr (b := 43) fl_X7_186 rfl (by decide) rf_42_0 rfl dX7_rule_84 ?_
          refine z_iload_n dX7_rule_87 rfl ?_
          refine z_iald rfl (by decide) (by omega) (by omega) dX7_rule_88 (fun x16 hx16 bx16 => ?_)
          refine z_iret rfl (by decide) rfl (Nat.sub_self _) dX7_rule_89 ?_
          refine ⟨rfl, ?_⟩
          first
          | (exfalso; omega)
          | (rw [if_neg (by omega)]
             first | (rw [if_pos (by omega)]; first | done | omega) | (rw [if_neg (by omega), if_pos (by omega)]; first | done | omega) | (rw [if_neg (by omega), if_neg (by omega), if_pos (by omega)]; first | done | omega) | (rw [if_neg (by omega), if_neg (by omega), if_neg (by omega), if_pos (by omega)]; first | done | omega) | (rw [if_neg (by omega), if_neg (by omega), if_neg (by omega), if_neg (by omega), if_pos (by omega)]; first | done | omega) | (rw [if_neg (by omega), if_neg (by omega), if_neg (by omega), if_neg (by omega), if_neg (by omega), if_pos (by omega)]; first | done | omega) | (rw [if_neg (by omega), if_neg (by omega), if_neg (by omega), if_neg (by omega), if_neg (by omega), if_neg (by omega), if_pos (by omega)]; first | done | omega) | (rw [if_neg (by omega), if_neg (by omega), if_neg (by omega), if_neg (by omega), if_neg (by omega), if_neg (by omega), if_neg (by omega), if_pos (by omega)]; first | done | omega) | (rw [if_neg (by omega), if_neg (by omega), if_neg (by omega), if_neg (by omega), if_neg (by omega), if_neg (by omega), if_neg (by omega), if_neg (by omega)]; first | done | omega))
        by_cases s15_1 : what = 1
        · refine z_tableIn (tgt := 90) dX7_rule_33 (by omega) (by omega) (by rw [s15_1]; rfl) (by decide) ?_
          refine z_aload_nr dX7_rule_90 rfl ?_
          refine z_getv (b := 42) (kz := 6) fl_X7_54 rfl (by decide) rfl (fun _ => hT) dX7_rule_91 ?_
          refine z_getr (b := 44) fl_X7_189 rfl (by decide) rf_42_1 rfl dX7_rule_94 ?_
          refine z_iload_n dX7_rule_97 rfl ?_
          refine z_iald rfl (by decide) (by omega) (by omega) dX7_rule_98 (fun x17 hx17 bx17 => ?_)
          refine z_iret rfl (by decide) rfl (Nat.sub_self _) dX7_rule_99 ?_
          refine ⟨rfl, ?_⟩
          first
          | (exfalso; omega)
          | (rw [if_neg (by omega)]
             first | (rw [if_pos (by omega)]; first | done | omega) | (rw [if_neg (by omega), if_pos (by omega)]; first | done | omega) | (rw [if_neg (by omega), if_neg (by omega), if_pos (by omega)]; first | done | omega) | (rw [if_neg (by omega), if_neg (by omega), if_neg (by omega), if_pos (by omega)]; first | done | omega) | (rw [if_neg (by omega), if_neg (by omega), if_neg (by omega), if_neg (by omega), if_pos (by omega)]; first | done | omega) | (rw [if_neg (by omega), if_neg (by omega), if_neg (by omega), if_neg (by omega), if_neg (by omega), if_pos (by omega)]; first | done | omega) | (rw [if_neg (by omega), if_neg (by omega), if_neg (by omega), if_neg (by omega), if_neg (by omega), if_neg (by omega), if_pos (by omega)]; first | done | omega) | (rw [if_neg (by omega), if_neg (by omega), if_neg (by omega), if_neg (by omega), if_neg (by omega), if_neg (by omega), if_neg (by omega), if_pos (by omega)]; first | done | omega) | (rw [if_neg (by omega), if_neg (by omega), if_neg (by omega), if_neg (by omega), if_neg (by omega), if_neg (by omega), if_neg (by omega), if_neg (by omega)]; first | done | omega))
        by_cases s15_2 : what = 2
        · refine z_tableIn (tgt := 100) dX7_rule_33 (by omega) (by omega) (by rw [s15_2]; rfl) (by decide) ?_
          refine z_aload_nr dX7_rule_100 rfl ?_
          refine z_getv (b := 42) (kz := 6) fl_X7_54 rfl (by decide) rfl (fun _ => hT) dX7_rule_101 ?_
          refine z_getr (b := 45) fl_X7_192 rfl (by decide) rf_42_2 rfl dX7_rule_104 ?_
          refine z_iload_n dX7_rule_107 rfl ?_
          refine z_iald rfl (by decide) (by omega) (by omega) dX7_rule_108 (fun x18 hx18 bx18 => ?_)
          refine z_iret rfl (by decide) rfl (Nat.sub_self _) dX7_rule_109 ?_
          refine ⟨rfl, ?_⟩
          first
          | (exfalso; omega)
          | (rw [if_neg (by omega)]
             first | (rw [if_pos (by omega)]; first | done | omega) | (rw [if_neg (by omega), if_pos (by omega)]; first | done | omega) | (rw [if_neg (by omega), if_neg (by omega), if_pos (by omega)]; first | done | omega) | (rw [if_neg (by omega), if_neg (by omega), if_neg (by omega), if_pos (by omega)]; first | done | omega) | (rw [if_neg (by omega), if_neg (by omega), if_neg (by omega), if_neg (by omega), if_pos (by omega)]; first | done | omega) | (rw [if_neg (by omega), if_neg (by omega), if_neg (by omega), if_neg (by omega), if_neg (by omega), if_pos (by omega)]; first | done | omega) | (rw [if_neg (by omega), if_neg (by omega), if_neg (by omega), if_neg (by omega), if_neg (by omega), if_neg (by omega), if_pos (by omega)]; first | done | omega) | (rw [if_neg (by omega), if_neg (by omega), if_neg (by omega), if_neg (by omega), if_neg (by omega), if_neg (by omega), if_neg (by omega), if_pos (by omega)]; first | done | omega) | (rw [if_neg (by omega), if_neg (by omega), if_neg (by omega), if_neg (by omega), if_neg (by omega), if_neg (by omega), if_neg (by omega), if_neg (by omega)]; first | done | omega))
        by_cases s15_3 : what = 3
        · refine z_tableIn (tgt := 110) dX7_rule_33 (by omega) (by omega) (by rw [s15_3]; rfl) (by decide) ?_
          refine z_aload_nr dX7_rule_110 rfl ?_
          refine z_getv (b := 42) (kz := 6) fl_X7_54 rfl (by decide) rfl (fun _ => hT) dX7_rule_111 ?_
          refine z_getr (b := 46) fl_X7_195 rfl (by decide) rf_42_3 rfl dX7_rule_114 ?_
          refine z_iload_n dX7_rule_117 rfl ?_
          refine z_iald rfl (by decide) (by omega) (by omega) dX7_rule_118 (fun x19 hx19 bx19 => ?_)
          refine z_iret rfl (by decide) rfl (Nat.sub_self _) dX7_rule_119 ?_
          refine ⟨rfl, ?_⟩
          first
          | (exfalso; omega)
          | (rw [if_neg (by omega)]
             first | (rw [if_pos (by omega)]; first | done | omega) | (rw [if_neg (by omega), if_pos (by omega)]; first | done | omega) | (rw [if_neg (by omega), if_neg (by omega), if_pos (by omega)]; first | done | omega) | (rw [if_neg (by omega), if_neg (by omega), if_neg (by omega), if_pos (by omega)]; first | done | omega) | (rw [if_neg (by omega), if_neg (by omega), if_neg (by omega), if_neg (by omega), if_pos (by omega)]; first | done | omega) | (rw [if_neg (by omega), if_neg (by omega), if_neg (by omega), if_neg (by omega), if_neg (by omega), if_pos (by omega)]; first | done | omega) | (rw [if_neg (by omega), if_neg (by omega), if_neg (by omega), if_neg (by omega), if_neg (by omega), if_neg (by omega), if_pos (by omega)]; first | done | omega) | (rw [if_neg (by omega), if_neg (by omega), if_neg (by omega), if_neg (by omega), if_neg (by omega), if_neg (by omega), if_neg (by omega), if_pos (by omega)]; first | done | omega) | (rw [if_neg (by omega), if_neg (by omega), if_neg (by omega), if_neg (by omega), if_neg (by omega), if_neg (by omega), if_neg (by omega), if_neg (by omega)]; first | done | omega))
        by_cases s15_4 : what = 4
        · refine z_tableIn (tgt := 120) dX7_rule_33 (by omega) (by omega) (by rw [s15_4]; rfl) (by decide) ?_
          refine z_aload_nr dX7_rule_120 rfl ?_
          refine z_getv (b := 42) (kz := 6) fl_X7_54 rfl (by decide) rfl (fun _ => hT) dX7_rule_121 ?_
          refine z_geti (kz := 5) fl_X7_198 rfl (by decide) rfl dX7_rule_124 (fun x20 hx20 bx20 => ?_)
          refine z_iret rfl (by decide) rfl (Nat.sub_self _) dX7_rule_127 ?_
          refine ⟨rfl, ?_⟩
          first
          | (exfalso; omega)
          | (rw [if_neg (by omega)]
             first | (rw [if_pos (by omega)]; first | done | omega) | (rw [if_neg (by omega), if_pos (by omega)]; first | done | omega) | (rw [if_neg (by omega), if_neg (by omega), if_pos (by omega)]; first | done | omega) | (rw [if_neg (by omega), if_neg (by omega), if_neg (by omega), if_pos (by omega)]; first | done | omega) | (rw [if_neg (by omega), if_neg (by omega), if_neg (by omega), if_neg (by omega), if_pos (by omega)]; first | done | omega) | (rw [if_neg (by omega), if_neg (by omega), if_neg (by omega), if_neg (by omega), if_neg (by omega), if_pos (by omega)]; first | done | omega) | (rw [if_neg (by omega), if_neg (by omega), if_neg (by omega), if_neg (by omega), if_neg (by omega), if_neg (by omega), if_pos (by omega)]; first | done | omega) | (rw [if_neg (by omega), if_neg (by omega), if_neg (by omega), if_neg (by omega), if_neg (by omega), if_neg (by omega), if_neg (by omega), if_pos (by omega)]; first | done | omega) | (rw [if_neg (by omega), if_neg (by omega), if_neg (by omega), if_neg (by omega), if_neg (by omega), if_neg (by omega), if_neg (by omega), if_neg (by omega)]; first | done | omega))
        by_cases s15_5 : what = 5
        · refine z_tableIn (tgt := 128) dX7_rule_33 (by omega) (by omega) (by rw [s15_5]; rfl) (by decide) ?_
          refine z_aload_nr dX7_rule_128 rfl ?_
          refine z_getv (b := 42) (kz := 6) fl_X7_54 rfl (by decide) rfl (fun _ => hT) dX7_rule_129 ?_
          refine z_geti (kz := 6) fl_X7_201 rfl (by decide) rfl dX7_rule_132 (fun x21 hx21 bx21 => ?_)
          refine z_iret rfl (by decide) rfl (Nat.sub_self _) dX7_rule_135 ?_
          refine ⟨rfl, ?_⟩
          first
          | (exfalso; omega)
          | (rw [if_neg (by omega)]
             first | (rw [if_pos (by omega)]; first | done | omega) | (rw [if_neg (by omega), if_pos (by omega)]; first | done | omega) | (rw [if_neg (by omega), if_neg (by omega), if_pos (by omega)]; first | done | omega) | (rw [if_neg (by omega), if_neg (by omega), if_neg (by omega), if_pos (by omega)]; first | done | omega) | (rw [if_neg (by omega), if_neg (by omega), if_neg (by omega), if_neg (by omega), if_pos (by omega)]; first | done | omega) | (rw [if_neg (by omega), if_neg (by omega), if_neg (by omega), if_neg (by omega), if_neg (by omega), if_pos (by omega)]; first | done | omega) | (rw [if_neg (by omega), if_neg (by omega), if_neg (by omega), if_neg (by omega), if_neg (by omega), if_neg (by omega), if_pos (by omega)]; first | done | omega) | (rw [if_neg (by omega), if_neg (by omega), if_neg (by omega), if_neg (by omega), if_neg (by omega), if_neg (by omega), if_neg (by omega), if_pos (by omega)]; first | done | omega) | (rw [if_neg (by omega), if_neg (by omega), if_neg (by omega), if_neg (by omega), if_neg (by omega), if_neg (by omega), if_neg (by omega), if_neg (by omega)]; first | done | omega))
        by_cases s15_6 : what = 6
        · refine z_tableIn (tgt := 136) dX7_rule_33 (by omega) (by omega) (by rw [s15_6]; rfl) (by decide) ?_
          refine z_aload_nr dX7_rule_136 rfl ?_
          refine z_getv (b := 42) (kz := 6) fl_X7_54 rfl (by decide) rfl (fun _ => hT) dX7_rule_137 ?_
          refine z_getr (b := 47) fl_X7_204 rfl (by decide) rf_42_4 rfl dX7_rule_140 ?_
          refine z_iload_n dX7_rule_143 rfl ?_
          refine z_iald rfl (by decide) (by omega) (by omega) dX7_rule_144 (fun x22 hx22 bx22 => ?_)
          refine z_iret rfl (by decide) rfl (Nat.sub_self _) dX7_rule_145 ?_
          refine ⟨rfl, ?_⟩
          first
          | (exfalso; omega)
          | (rw [if_neg (by omega)]
             first | (rw [if_pos (by omega)]; first | done | omega) | (rw [if_neg (by omega), if_pos (by omega)]; first | done | omega) | (rw [if_neg (by omega), if_neg (by omega), if_pos (by omega)]; first | done | omega) | (rw [if_neg (by omega), if_neg (by omega), if_neg (by omega), if_pos (by omega)]; first | done | omega) | (rw [if_neg (by omega), if_neg (by omega), if_neg (by omega), if_neg (by omega), if_pos (by omega)]; first | done | omega) | (rw [if_neg (by omega), if_neg (by omega), if_neg (by omega), if_neg (by omega), if_neg (by omega), if_pos (by omega)]; first | done | omega) | (rw [if_neg (by omega), if_neg (by omega), if_neg (by omega), if_neg (by omega), if_neg (by omega), if_neg (by omega), if_pos (by omega)]; first | done | omega) | (rw [if_neg (by omega), if_neg (by omega), if_neg (by omega), if_neg (by omega), if_neg (by omega), if_neg (by omega), if_neg (by omega), if_pos (by omega)]; first | done | omega) | (rw [if_neg (by omega), if_neg (by omega), if_neg (by omega), if_neg (by omega), if_neg (by omega), if_neg (by omega), if_neg (by omega), if_neg (by omega)]; first | done | omega))
        by_cases s15_7 : what = 7
        · refine z_tableIn (tgt := 146) dX7_rule_33 (by omega) (by omega) (by rw [s15_7]; rfl) (by decide) ?_
          refine z_aload_nr dX7_rule_146 rfl ?_
          refine z_getv (b := 42) (kz := 6) fl_X7_54 rfl (by decide) rfl (fun _ => hT) dX7_rule_147 ?_
          refine z_geti (kz := 7) fl_X7_207 rfl (by decide) rfl dX7_rule_150 (fun x23 hx23 bx23 => ?_)
          refine z_iret rfl (by decide) rfl (Nat.sub_self _) dX7_rule_153 ?_
          refine ⟨rfl, ?_⟩
          first
          | (exfalso; omega)
          | (rw [if_neg (by omega)]
             first | (rw [if_pos (by omega)]; first | done | omega) | (rw [if_neg (by omega), if_pos (by omega)]; first | done | omega) | (rw [if_neg (by omega), if_neg (by omega), if_pos (by omega)]; first | done | omega) | (rw [if_neg (by omega), if_neg (by omega), if_neg (by omega), if_pos (by omega)]; first | done | omega) | (rw [if_neg (by omega), if_neg (by omega), if_neg (by omega), if_neg (by omega), if_pos (by omega)]; first | done | omega) | (rw [if_neg (by omega), if_neg (by omega), if_neg (by omega), if_neg (by omega), if_neg (by omega), if_pos (by omega)]; first | done | omega) | (rw [if_neg (by omega), if_neg (by omega), if_neg (by omega), if_neg (by omega), if_neg (by omega), if_neg (by omega), if_pos (by omega)]; first | done | omega) | (rw [if_neg (by omega), if_neg (by omega), if_neg (by omega), if_neg (by omega), if_neg (by omega), if_neg (by omega), if_neg (by omega), if_pos (by omega)]; first | done | omega) | (rw [if_neg (by omega), if_neg (by omega), if_neg (by omega), if_neg (by omega), if_neg (by omega), if_neg (by omega), if_neg (by omega), if_neg (by omega)]; first | done | omega))
        refine z_tableOut (tgt := 154) dX7_rule_33 (by omega) (by decide) ?_
        refine z_ldc (c := -1000002) cn_X7_87 ⟨by decide, by decide⟩ dX7_rule_154 ?_
        refine z_iret rfl (by decide) rfl (Nat.sub_self _) dX7_rule_156 ?_
        refine ⟨rfl, ?_⟩
        first
        | (exfalso; omega)
        | (rw [if_neg (by omega)]
           first | (rw [if_pos (by omega)]; first | done | omega) | (rw [if_neg (by omega), if_pos (by omega)]; first | done | omega) | (rw [if_neg (by omega), if_neg (by omega), if_pos (by omega)]; first | done | omega) | (rw [if_neg (by omega), if_neg (by omega), if_neg (by omega), if_pos (by omega)]; first | done | omega) | (rw [if_neg (by omega), if_neg (by omega), if_neg (by omega), if_neg (by omega), if_pos (by omega)]; first | done | omega) | (rw [if_neg (by omega), if_neg (by omega), if_neg (by omega), if_neg (by omega), if_neg (by omega), if_pos (by omega)]; first | done | omega) | (rw [if_neg (by omega), if_neg (by omega), if_neg (by omega), if_neg (by omega), if_neg (by omega), if_neg (by omega), if_pos (by omega)]; first | done | omega) | (rw [if_neg (by omega), if_neg (by omega), if_neg (by omega), if_neg (by omega), if_neg (by omega), if_neg (by omega), if_neg (by omega), if_pos (by omega)]; first | done | omega) | (rw [if_neg (by omega), if_neg (by omega), if_neg (by omega), if_neg (by omega), if_neg (by omega), if_neg (by omega), if_neg (by omega), if_neg (by omega)]; first | done | omega))
      · refine z_ldc (c := -1000001) cn_X7_82 ⟨by decide, by decide⟩ dX7_rule_29 ?_
        refine z_iret rfl (by decide) rfl (Nat.sub_self _) dX7_rule_31 ?_
        refine ⟨rfl, ?_⟩
        rw [if_pos (by omega)]
  · refine z_iload_n dX7_rule_9 rfl ?_
    refine z_callSip (n2 := 93) (A_X7_isSort l g M i) cb_X7_isSort cl_X7_76 (clr0 rfl rfl (by decide) (by decide)) rfl (by decide) rfl (Nat.le_of_ble_eq_true rfl) rfl dX7_rule_10 (fun x24 bx24 hx24 => ?_)
    have i24 := if01 hx24
    refine z_if_eq (tgt := 29) dX7_rule_13 (by decide) (fun c25 => ?_) (fun c25 => ?_)
    · refine z_ldc (c := -1000001) cn_X7_82 ⟨by decide, by decide⟩ dX7_rule_29 ?_
      refine z_iret rfl (by decide) rfl (Nat.sub_self _) dX7_rule_31 ?_
      refine ⟨rfl, ?_⟩
      rw [if_pos (by omega)]
    · refine z_iload_n dX7_rule_16 rfl ?_
      refine z_bipush dX7_rule_17 ⟨by decide, by decide⟩ (by decide) ?_
      refine z_icmp_ne (tgt := 32) dX7_rule_19 (by decide) (fun c26 => ?_) (fun c26 => ?_)
      · refine z_iload_n dX7_rule_32 rfl ?_
        by_cases s27_0 : what = 0
        · refine z_tableIn (tgt := 80) dX7_rule_33 (by omega) (by omega) (by rw [s27_0]; rfl) (by decide) ?_
          refine z_aload_nr dX7_rule_80 rfl ?_
          refine z_getv (b := 42) (kz := 6) fl_X7_54 rfl (by decide) rfl (fun _ => hT) dX7_rule_81 ?_
          refine z_getr (b := 43) fl_X7_186 rfl (by decide) rf_42_0 rfl dX7_rule_84 ?_
          refine z_iload_n dX7_rule_87 rfl ?_
          refine z_iald rfl (by decide) (by omega) (by omega) dX7_rule_88 (fun x28 hx28 bx28 => ?_)
          refine z_iret rfl (by decide) rfl (Nat.sub_self _) dX7_rule_89 ?_
          refine ⟨rfl, ?_⟩
          first
          | (exfalso; omega)
          | (rw [if_neg (by omega)]
             first | (rw [if_pos (by omega)]; first | done | omega) | (rw [if_neg (by omega), if_pos (by omega)]; first | done | omega) | (rw [if_neg (by omega), if_neg (by omega), if_pos (by omega)]; first | done | omega) | (rw [if_neg (by omega), if_neg (by omega), if_neg (by omega), if_pos (by omega)]; first | done | omega) | (rw [if_neg (by omega), if_neg (by omega), if_neg (by omega), if_neg (by omega), if_pos (by omega)]; first | done | omega) | (rw [if_neg (by omega), if_neg (by omega), if_neg (by omega), if_neg (by omega), if_neg (by omega), if_pos (by omega)]; first | done | omega) | (rw [if_neg (by omega), if_neg (by omega), if_neg (by omega), if_neg (by omega), if_neg (by omega), if_neg (by omega), if_pos (by omega)]; first | done | omega) | (rw [if_neg (by omega), if_neg (by omega), if_neg (by omega), if_neg (by omega), if_neg (by omega), if_neg (by omega), if_neg (by omega), if_pos (by omega)]; first | done | omega) | (rw [if_neg (by omega), if_neg (by omega), if_neg (by omega), if_neg (by omega), if_neg (by omega), if_neg (by omega), if_neg (by omega), if_neg (by omega)]; first | done | omega))
        by_cases s27_1 : what = 1
        · refine z_tableIn (tgt := 90) dX7_rule_33 (by omega) (by omega) (by rw [s27_1]; rfl) (by decide) ?_
          refine z_aload_nr dX7_rule_90 rfl ?_
          refine z_getv (b := 42) (kz := 6) fl_X7_54 rfl (by decide) rfl (fun _ => hT) dX7_rule_91 ?_
          refine z_getr (b := 44) fl_X7_189 rfl (by decide) rf_42_1 rfl dX7_rule_94 ?_
          refine z_iload_n dX7_rule_97 rfl ?_
          refine z_iald rfl (by decide) (by omega) (by omega) dX7_rule_98 (fun x29 hx29 bx29 => ?_)
          refine z_iret rfl (by decide) rfl (Nat.sub_self _) dX7_rule_99 ?_
          refine ⟨rfl, ?_⟩
          first
          | (exfalso; omega)
          | (rw [if_neg (by omega)]
             first | (rw [if_pos (by omega)]; first | done | omega) | (rw [if_neg (by omega), if_pos (by omega)]; first | done | omega) | (rw [if_neg (by omega), if_neg (by omega), if_pos (by omega)]; first | done | omega) | (rw [if_neg (by omega), if_neg (by omega), if_neg (by omega), if_pos (by omega)]; first | done | omega) | (rw [if_neg (by omega), if_neg (by omega), if_neg (by omega), if_neg (by omega), if_pos (by omega)]; first | done | omega) | (rw [if_neg (by omega), if_neg (by omega), if_neg (by omega), if_neg (by omega), if_neg (by omega), if_pos (by omega)]; first | done | omega) | (rw [if_neg (by omega), if_neg (by omega), if_neg (by omega), if_neg (by omega), if_neg (by omega), if_neg (by omega), if_pos (by omega)]; first | done | omega) | (rw [if_neg (by omega), if_neg (by omega), if_neg (by omega), if_neg (by omega), if_neg (by omega), if_neg (by omega), if_neg (by omega), if_pos (by omega)]; first | done | omega) | (rw [if_neg (by omega), if_neg (by omega), if_neg (by omega), if_neg (by omega), if_neg (by omega), if_neg (by omega), if_neg (by omega), if_neg (by omega)]; first | done | omega))
        by_cases s27_2 : what = 2
        · refine z_tableIn (tgt := 100) dX7_rule_33 (by omega) (by omega) (by rw [s27_2]; rfl) (by decide) ?_
          refine z_aload_nr dX7_rule_100 rfl ?_
          refine z_getv (b := 42) (kz := 6) fl_X7_54 rfl (by decide) rfl (fun _ => hT) dX7_rule_101 ?_
          refine z_getr (b := 45) fl_X7_192 rfl (by decide) rf_42_2 rfl dX7_rule_104 ?_
          refine z_iload_n dX7_rule_107 rfl ?_
          refine z_iald rfl (by decide) (by omega) (by omega) dX7_rule_108 (fun x30 hx30 bx30 => ?_)
          refine z_iret rfl (by decide) rfl (Nat.sub_self _) dX7_rule_109 ?_
          refine ⟨rfl, ?_⟩
          first
          | (exfalso; omega)
          | (rw [if_neg (by omega)]
             first | (rw [if_pos (by omega)]; first | done | omega) | (rw [if_neg (by omega), if_pos (by omega)]; first | done | omega) | (rw [if_neg (by omega), if_neg (by omega), if_pos (by omega)]; first | done | omega) | (rw [if_neg (by omega), if_neg (by omega), if_neg (by omega), if_pos (by omega)]; first | done | omega) | (rw [if_neg (by omega), if_neg (by omega), if_neg (by omega), if_neg (by omega), if_pos (by omega)]; first | done | omega) | (rw [if_neg (by omega), if_neg (by omega), if_neg (by omega), if_neg (by omega), if_neg (by omega), if_pos (by omega)]; first | done | omega) | (rw [if_neg (by omega), if_neg (by omega), if_neg (by omega), if_neg (by omega), if_neg (by omega), if_neg (by omega), if_pos (by omega)]; first | done | omega) | (rw [if_neg (by omega), if_neg (by omega), if_neg (by omega), if_neg (by omega), if_neg (by omega), if_neg (by omega), if_neg (by omega), if_pos (by omega)]; first | done | omega) | (rw [if_neg (by omega), if_neg (by omega), if_neg (by omega), if_neg (by omega), if_neg (by omega), if_neg (by omega), if_neg (by omega), if_neg (by omega)]; first | done | omega))
        by_cases s27_3 : what = 3
        · refine z_tableIn (tgt := 110) dX7_rule_33 (by omega) (by omega) (by rw [s27_3]; rfl) (by decide) ?_
          refine z_aload_nr dX7_rule_110 rfl ?_
          refine z_getv (b := 42) (kz := 6) fl_X7_54 rfl (by decide) rfl (fun _ => hT) dX7_rule_111 ?_
          refine z_getr (b := 46) fl_X7_195 rfl (by decide) rf_42_3 rfl dX7_rule_114 ?_
          refine z_iload_n dX7_rule_117 rfl ?_
          refine z_iald rfl (by decide) (by omega) (by omega) dX7_rule_118 (fun x31 hx31 bx31 => ?_)
          refine z_iret rfl (by decide) rfl (Nat.sub_self _) dX7_rule_119 ?_
          refine ⟨rfl, ?_⟩
          first
          | (exfalso; omega)
          | (rw [if_neg (by omega)]
             first | (rw [if_pos (by omega)]; first | done | omega) | (rw [if_neg (by omega), if_pos (by omega)]; first | done | omega) | (rw [if_neg (by omega), if_neg (by omega), if_pos (by omega)]; first | done | omega) | (rw [if_neg (by omega), if_neg (by omega), if_neg (by omega), if_pos (by omega)]; first | done | omega) | (rw [if_neg (by omega), if_neg (by omega), if_neg (by omega), if_neg (by omega), if_pos (by omega)]; first | done | omega) | (rw [if_neg (by omega), if_neg (by omega), if_neg (by omega), if_neg (by omega), if_neg (by omega), if_pos (by omega)]; first | done | omega) | (rw [if_neg (by omega), if_neg (by omega), if_neg (by omega), if_neg (by omega), if_neg (by omega), if_neg (by omega), if_pos (by omega)]; first | done | omega) | (rw [if_neg (by omega), if_neg (by omega), if_neg (by omega), if_neg (by omega), if_neg (by omega), if_neg (by omega), if_neg (by omega), if_pos (by omega)]; first | done | omega) | (rw [if_neg (by omega), if_neg (by omega), if_neg (by omega), if_neg (by omega), if_neg (by omega), if_neg (by omega), if_neg (by omega), if_neg (by omega)]; first | done | omega))
        by_cases s27_4 : what = 4
        · refine z_tableIn (tgt := 120) dX7_rule_33 (by omega) (by omega) (by rw [s27_4]; rfl) (by decide) ?_
          refine z_aload_nr dX7_rule_120 rfl ?_
          refine z_getv (b := 42) (kz := 6) fl_X7_54 rfl (by decide) rfl (fun _ => hT) dX7_rule_121 ?_
          refine z_geti (kz := 5) fl_X7_198 rfl (by decide) rfl dX7_rule_124 (fun x32 hx32 bx32 => ?_)
          refine z_iret rfl (by decide) rfl (Nat.sub_self _) dX7_rule_127 ?_
          refine ⟨rfl, ?_⟩
          first
          | (exfalso; omega)
          | (rw [if_neg (by omega)]
             first | (rw [if_pos (by omega)]; first | done | omega) | (rw [if_neg (by omega), if_pos (by omega)]; first | done | omega) | (rw [if_neg (by omega), if_neg (by omega), if_pos (by omega)]; first | done | omega) | (rw [if_neg (by omega), if_neg (by omega), if_neg (by omega), if_pos (by omega)]; first | done | omega) | (rw [if_neg (by omega), if_neg (by omega), if_neg (by omega), if_neg (by omega), if_pos (by omega)]; first | done | omega) | (rw [if_neg (by omega), if_neg (by omega), if_neg (by omega), if_neg (by omega), if_neg (by omega), if_pos (by omega)]; first | done | omega) | (rw [if_neg (by omega), if_neg (by omega), if_neg (by omega), if_neg (by omega), if_neg (by omega), if_neg (by omega), if_pos (by omega)]; first | done | omega) | (rw [if_neg (by omega), if_neg (by omega), if_neg (by omega), if_neg (by omega), if_neg (by omega), if_neg (by omega), if_neg (by omega), if_pos (by omega)]; first | done | omega) | (rw [if_neg (by omega), if_neg (by omega), if_neg (by omega), if_neg (by omega), if_neg (by omega), if_neg (by omega), if_neg (by omega), if_neg (by omega)]; first | done | omega))
        by_cases s27_5 : what = 5
        · refine z_tableIn (tgt := 128) dX7_rule_33 (by omega) (by omega) (by rw [s27_5]; rfl) (by decide) ?_
          refine z_aload_nr dX7_rule_128 rfl ?_
          refine z_getv (b := 42) (kz := 6) fl_X7_54 rfl (by decide) rfl (fun _ => hT) dX7_rule_129 ?_
          refine z_geti (kz := 6) fl_X7_201 rfl (by decide) rfl dX7_rule_132 (fun x33 hx33 bx33 => ?_)
          refine z_iret rfl (by decide) rfl (Nat.sub_self _) dX7_rule_135 ?_
          refine ⟨rfl, ?_⟩
          first
          | (exfalso; omega)
          | (rw [if_neg (by omega)]
             first | (rw [if_pos (by omega)]; first | done | omega) | (rw [if_neg (by omega), if_pos (by omega)]; first | done | omega) | (rw [if_neg (by omega), if_neg (by omega), if_pos (by omega)]; first | done | omega) | (rw [if_neg (by omega), if_neg (by omega), if_neg (by omega), if_pos (by omega)]; first | done | omega) | (rw [if_neg (by omega), if_neg (by omega), if_neg (by omega), if_neg (by omega), if_pos (by omega)]; first | done | omega) | (rw [if_neg (by omega), if_neg (by omega), if_neg (by omega), if_neg (by omega), if_neg (by omega), if_pos (by omega)]; first | done | omega) | (rw [if_neg (by omega), if_neg (by omega), if_neg (by omega), if_neg (by omega), if_neg (by omega), if_neg (by omega), if_pos (by omega)]; first | done | omega) | (rw [if_neg (by omega), if_neg (by omega), if_neg (by omega), if_neg (by omega), if_neg (by omega), if_neg (by omega), if_neg (by omega), if_pos (by omega)]; first | done | omega) | (rw [if_neg (by omega), if_neg (by omega), if_neg (by omega), if_neg (by omega), if_neg (by omega), if_neg (by omega), if_neg (by omega), if_neg (by omega)]; first | done | omega))
        by_cases s27_6 : what = 6
        · refine z_tableIn (tgt := 136) dX7_rule_33 (by omega) (by omega) (by rw [s27_6]; rfl) (by decide) ?_
          refine z_aload_nr dX7_rule_136 rfl ?_
          refine z_getv (b := 42) (kz := 6) fl_X7_54 rfl (by decide) rfl (fun _ => hT) dX7_rule_137 ?_
          refine z_getr (b := 47) fl_X7_204 rfl (by decide) rf_42_4 rfl dX7_rule_140 ?_
          refine z_iload_n dX7_rule_143 rfl ?_
          refine z_iald rfl (by decide) (by omega) (by omega) dX7_rule_144 (fun x34 hx34 bx34 => ?_)
          refine z_iret rfl (by decide) rfl (Nat.sub_self _) dX7_rule_145 ?_
          refine ⟨rfl, ?_⟩
          first
          | (exfalso; omega)
          | (rw [if_neg (by omega)]
             first | (rw [if_pos (by omega)]; first | done | omega) | (rw [if_neg (by omega), if_pos (by omega)]; first | done | omega) | (rw [if_neg (by omega), if_neg (by omega), if_pos (by omega)]; first | done | omega) | (rw [if_neg (by omega), if_neg (by omega), if_neg (by omega), if_pos (by omega)]; first | done | omega) | (rw [if_neg (by omega), if_neg (by omega), if_neg (by omega), if_neg (by omega), if_pos (by omega)]; first | done | omega) | (rw [if_neg (by omega), if_neg (by omega), if_neg (by omega), if_neg (by omega), if_neg (by omega), if_pos (by omega)]; first | done | omega) | (rw [if_neg (by omega), if_neg (by omega), if_neg (by omega), if_neg (by omega), if_neg (by omega), if_neg (by omega), if_pos (by omega)]; first | done | omega) | (rw [if_neg (by omega), if_neg (by omega), if_neg (by omega), if_neg (by omega), if_neg (by omega), if_neg (by omega), if_neg (by omega), if_pos (by omega)]; first | done | omega) | (rw [if_neg (by omega), if_neg (by omega), if_neg (by omega), if_neg (by omega), if_neg (by omega), if_neg (by omega), if_neg (by omega), if_neg (by omega)]; first | done | omega))
        by_cases s27_7 : what = 7
        · refine z_tableIn (tgt := 146) dX7_rule_33 (by omega) (by omega) (by rw [s27_7]; rfl) (by decide) ?_
          refine z_aload_nr dX7_rule_146 rfl ?_
          refine z_getv (b := 42) (kz := 6) fl_X7_54 rfl (by decide) rfl (fun _ => hT) dX7_rule_147 ?_
          refine z_geti (kz := 7) fl_X7_207 rfl (by decide) rfl dX7_rule_150 (fun x35 hx35 bx35 => ?_)
          refine z_iret rfl (by decide) rfl (Nat.sub_self _) dX7_rule_153 ?_
          refine ⟨rfl, ?_⟩
          first
          | (exfalso; omega)
          | (rw [if_neg (by omega)]
             first | (rw [if_pos (by omega)]; first | done | omega) | (rw [if_neg (by omega), if_pos (by omega)]; first | done | omega) | (rw [if_neg (by omega), if_neg (by omega), if_pos (by omega)]; first | done | omega) | (rw [if_neg (by omega), if_neg (by omega), if_neg (by omega), if_pos (by omega)]; first | done | omega) | (rw [if_neg (by omega), if_neg (by omega), if_neg (by omega), if_neg (by omega), if_pos (by omega)]; first | done | omega) | (rw [if_neg (by omega), if_neg (by omega), if_neg (by omega), if_neg (by omega), if_neg (by omega), if_pos (by omega)]; first | done | omega) | (rw [if_neg (by omega), if_neg (by omega), if_neg (by omega), if_neg (by omega), if_neg (by omega), if_neg (by omega), if_pos (by omega)]; first | done | omega) | (rw [if_neg (by omega), if_neg (by omega), if_neg (by omega), if_neg (by omega), if_neg (by omega), if_neg (by omega), if_neg (by omega), if_pos (by omega)]; first | done | omega) | (rw [if_neg (by omega), if_neg (by omega), if_neg (by omega), if_neg (by omega), if_neg (by omega), if_neg (by omega), if_neg (by omega), if_neg (by omega)]; first | done | omega))
        refine z_tableOut (tgt := 154) dX7_rule_33 (by omega) (by decide) ?_
        refine z_ldc (c := -1000002) cn_X7_87 ⟨by decide, by decide⟩ dX7_rule_154 ?_
        refine z_iret rfl (by decide) rfl (Nat.sub_self _) dX7_rule_156 ?_
        refine ⟨rfl, ?_⟩
        first
        | (exfalso; omega)
        | (rw [if_neg (by omega)]
           first | (rw [if_pos (by omega)]; first | done | omega) | (rw [if_neg (by omega), if_pos (by omega)]; first | done | omega) | (rw [if_neg (by omega), if_neg (by omega), if_pos (by omega)]; first | done | omega) | (rw [if_neg (by omega), if_neg (by omega), if_neg (by omega), if_pos (by omega)]; first | done | omega) | (rw [if_neg (by omega), if_neg (by omega), if_neg (by omega), if_neg (by omega), if_pos (by omega)]; first | done | omega) | (rw [if_neg (by omega), if_neg (by omega), if_neg (by omega), if_neg (by omega), if_neg (by omega), if_pos (by omega)]; first | done | omega) | (rw [if_neg (by omega), if_neg (by omega), if_neg (by omega), if_neg (by omega), if_neg (by omega), if_neg (by omega), if_pos (by omega)]; first | done | omega) | (rw [if_neg (by omega), if_neg (by omega), if_neg (by omega), if_neg (by omega), if_neg (by omega), if_neg (by omega), if_neg (by omega), if_pos (by omega)]; first | done | omega) | (rw [if_neg (by omega), if_neg (by omega), if_neg (by omega), if_neg (by omega), if_neg (by omega), if_neg (by omega), if_neg (by omega), if_neg (by omega)]; first | done | omega))
      · refine z_iload_n dX7_rule_22 rfl ?_
        refine z_callSip (n2 := 93) (A_X7_isList l g M i) cb_X7_isList cl_X7_72 (clr0 rfl rfl (by decide) (by decide)) rfl (by decide) rfl (Nat.le_of_ble_eq_true rfl) rfl dX7_rule_23 (fun x36 bx36 hx36 => ?_)
        have i36 := if01 hx36
        refine z_if_ne (tgt := 32) dX7_rule_26 (by decide) (fun c37 => ?_) (fun c37 => ?_)
        · refine z_iload_n dX7_rule_32 rfl ?_
          by_cases s38_0 : what = 0
          · refine z_tableIn (tgt := 80) dX7_rule_33 (by omega) (by omega) (by rw [s38_0]; rfl) (by decide) ?_
            refine z_aload_nr dX7_rule_80 rfl ?_
            refine z_getv (b := 42) (kz := 6) fl_X7_54 rfl (by decide) rfl (fun _ => hT) dX7_rule_81 ?_
            refine z_getr (b := 43) fl_X7_186 rfl (by decide) rf_42_0 rfl dX7_rule_84 ?_
            refine z_iload_n dX7_rule_87 rfl ?_
            refine z_iald rfl (by decide) (by omega) (by omega) dX7_rule_88 (fun x39 hx39 bx39 => ?_)
            refine z_iret rfl (by decide) rfl (Nat.sub_self _) dX7_rule_89 ?_
            refine ⟨rfl, ?_⟩
            first
            | (exfalso; omega)
            | (rw [if_neg (by omega)]
               first | (rw [if_pos (by omega)]; first | done | omega) | (rw [if_neg (by omega), if_pos (by omega)]; first | done | omega) | (rw [if_neg (by omega), if_neg (by omega), if_pos (by omega)]; first | done | omega) | (rw [if_neg (by omega), if_neg (by omega), if_neg (by omega), if_pos (by omega)]; first | done | omega) | (rw [if_neg (by omega), if_neg (by omega), if_neg (by omega), if_neg (by omega), if_pos (by omega)]; first | done | omega) | (rw [if_neg (by omega), if_neg (by omega), if_neg (by omega), if_neg (by omega), if_neg (by omega), if_pos (by omega)]; first | done | omega) | (rw [if_neg (by omega), if_neg (by omega), if_neg (by omega), if_neg (by omega), if_neg (by omega), if_neg (by omega), if_pos (by omega)]; first | done | omega) | (rw [if_neg (by omega), if_neg (by omega), if_neg (by omega), if_neg (by omega), if_neg (by omega), if_neg (by omega), if_neg (by omega), if_pos (by omega)]; first | done | omega) | (rw [if_neg (by omega), if_neg (by omega), if_neg (by omega), if_neg (by omega), if_neg (by omega), if_neg (by omega), if_neg (by omega), if_neg (by omega)]; first | done | omega))
          by_cases s38_1 : what = 1
          · refine z_tableIn (tgt := 90) dX7_rule_33 (by omega) (by omega) (by rw [s38_1]; rfl) (by decide) ?_
            refine z_aload_nr dX7_rule_90 rfl ?_
            refine z_getv (b := 42) (kz := 6) fl_X7_54 rfl (by decide) rfl (fun _ => hT) dX7_rule_91 ?_
            refine z_getr (b := 44) fl_X7_189 rfl (by decide) rf_42_1 rfl dX7_rule_94 ?_
            refine z_iload_n dX7_rule_97 rfl ?_
            refine z_iald rfl (by decide) (by omega) (by omega) dX7_rule_98 (fun x40 hx40 bx40 => ?_)
            refine z_iret rfl (by decide) rfl (Nat.sub_self _) dX7_rule_99 ?_
            refine ⟨rfl, ?_⟩
            first
            | (exfalso; omega)
            | (rw [if_neg (by omega)]
               first | (rw [if_pos (by omega)]; first | done | omega) | (rw [if_neg (by omega), if_pos (by omega)]; first | done | omega) | (rw [if_neg (by omega), if_neg (by omega), if_pos (by omega)]; first | done | omega) | (rw [if_neg (by omega), if_neg (by omega), if_neg (by omega), if_pos (by omega)]; first | done | omega) | (rw [if_neg (by omega), if_neg (by omega), if_neg (by omega), if_neg (by omega), if_pos (by omega)]; first | done | omega) | (rw [if_neg (by omega), if_neg (by omega), if_neg (by omega), if_neg (by omega), if_neg (by omega), if_pos (by omega)]; first | done | omega) | (rw [if_neg (by omega), if_neg (by omega), if_neg (by omega), if_neg (by omega), if_neg (by omega), if_neg (by omega), if_pos (by omega)]; first | done | omega) | (rw [if_neg (by omega), if_neg (by omega), if_neg (by omega), if_neg (by omega), if_neg (by omega), if_neg (by omega), if_neg (by omega), if_pos (by omega)]; first | done | omega) | (rw [if_neg (by omega), if_neg (by omega), if_neg (by omega), if_neg (by omega), if_neg (by omega), if_neg (by omega), if_neg (by omega), if_neg (by omega)]; first | done | omega))
          by_cases s38_2 : what = 2
          · refine z_tableIn (tgt := 100) dX7_rule_33 (by omega) (by omega) (by rw [s38_2]; rfl) (by decide) ?_
            refine z_aload_nr dX7_rule_100 rfl ?_
            refine z_getv (b := 42) (kz := 6) fl_X7_54 rfl (by decide) rfl (fun _ => hT) dX7_rule_101 ?_
            refine z_getr (b := 45) fl_X7_192 rfl (by decide) rf_42_2 rfl dX7_rule_104 ?_
            refine z_iload_n dX7_rule_107 rfl ?_
            refine z_iald rfl (by decide) (by omega) (by omega) dX7_rule_108 (fun x41 hx41 bx41 => ?_)
            refine z_iret rfl (by decide) rfl (Nat.sub_self _) dX7_rule_109 ?_
            refine ⟨rfl, ?_⟩
            first
            | (exfalso; omega)
            | (rw [if_neg (by omega)]
               first | (rw [if_pos (by omega)]; first | done | omega) | (rw [if_neg (by omega), if_pos (by omega)]; first | done | omega) | (rw [if_neg (by omega), if_neg (by omega), if_pos (by omega)]; first | done | omega) | (rw [if_neg (by omega), if_neg (by omega), if_neg (by omega), if_pos (by omega)]; first | done | omega) | (rw [if_neg (by omega), if_neg (by omega), if_neg (by omega), if_neg (by omega), if_pos (by omega)]; first | done | omega) | (rw [if_neg (by omega), if_neg (by omega), if_neg (by omega), if_neg (by omega), if_neg (by omega), if_pos (by omega)]; first | done | omega) | (rw [if_neg (by omega), if_neg (by omega), if_neg (by omega), if_neg (by omega), if_neg (by omega), if_neg (by omega), if_pos (by omega)]; first | done | omega) | (rw [if_neg (by omega), if_neg (by omega), if_neg (by omega), if_neg (by omega), if_neg (by omega), if_neg (by omega), if_neg (by omega), if_pos (by omega)]; first | done | omega) | (rw [if_neg (by omega), if_neg (by omega), if_neg (by omega), if_neg (by omega), if_neg (by omega), if_neg (by omega), if_neg (by omega), if_neg (by omega)]; first | done | omega))
          by_cases s38_3 : what = 3
          · refine z_tableIn (tgt := 110) dX7_rule_33 (by omega) (by omega) (by rw [s38_3]; rfl) (by decide) ?_
            refine z_aload_nr dX7_rule_110 rfl ?_
            refine z_getv (b := 42) (kz := 6) fl_X7_54 rfl (by decide) rfl (fun _ => hT) dX7_rule_111 ?_
            refine z_getr (b := 46) fl_X7_195 rfl (by decide) rf_42_3 rfl dX7_rule_114 ?_
            refine z_iload_n dX7_rule_117 rfl ?_
            refine z_iald rfl (by decide) (by omega) (by omega) dX7_rule_118 (fun x42 hx42 bx42 => ?_)
            refine z_iret rfl (by decide) rfl (Nat.sub_self _) dX7_rule_119 ?_
            refine ⟨rfl, ?_⟩
            first
            | (exfalso; omega)
            | (rw [if_neg (by omega)]
               first | (rw [if_pos (by omega)]; first | done | omega) | (rw [if_neg (by omega), if_pos (by omega)]; first | done | omega) | (rw [if_neg (by omega), if_neg (by omega), if_pos (by omega)]; first | done | omega) | (rw [if_neg (by omega), if_neg (by omega), if_neg (by omega), if_pos (by omega)]; first | done | omega) | (rw [if_neg (by omega), if_neg (by omega), if_neg (by omega), if_neg (by omega), if_pos (by omega)]; first | done | omega) | (rw [if_neg (by omega), if_neg (by omega), if_neg (by omega), if_neg (by omega), if_neg (by omega), if_pos (by omega)]; first | done | omega) | (rw [if_neg (by omega), if_neg (by omega), if_neg (by omega), if_neg (by omega), if_neg (by omega), if_neg (by omega), if_pos (by omega)]; first | done | omega) | (rw [if_neg (by omega), if_neg (by omega), if_neg (by omega), if_neg (by omega), if_neg (by omega), if_neg (by omega), if_neg (by omega), if_pos (by omega)]; first | done | omega) | (rw [if_neg (by omega), if_neg (by omega), if_neg (by omega), if_neg (by omega), if_neg (by omega), if_neg (by omega), if_neg (by omega), if_neg (by omega)]; first | done | omega))
          by_cases s38_4 : what = 4
          · refine z_tableIn (tgt := 120) dX7_rule_33 (by omega) (by omega) (by rw [s38_4]; rfl) (by decide) ?_
            refine z_aload_nr dX7_rule_120 rfl ?_
            refine z_getv (b := 42) (kz := 6) fl_X7_54 rfl (by decide) rfl (fun _ => hT) dX7_rule_121 ?_
            refine z_geti (kz := 5) fl_X7_198 rfl (by decide) rfl dX7_rule_124 (fun x43 hx43 bx43 => ?_)
            refine z_iret rfl (by decide) rfl (Nat.sub_self _) dX7_rule_127 ?_
            refine ⟨rfl, ?_⟩
            first
            | (exfalso; omega)
            | (rw [if_neg (by omega)]
               first | (rw [if_pos (by omega)]; first | done | omega) | (rw [if_neg (by omega), if_pos (by omega)]; first | done | omega) | (rw [if_neg (by omega), if_neg (by omega), if_pos (by omega)]; first | done | omega) | (rw [if_neg (by omega), if_neg (by omega), if_neg (by omega), if_pos (by omega)]; first | done | omega) | (rw [if_neg (by omega), if_neg (by omega), if_neg (by omega), if_neg (by omega), if_pos (by omega)]; first | done | omega) | (rw [if_neg (by omega), if_neg (by omega), if_neg (by omega), if_neg (by omega), if_neg (by omega), if_pos (by omega)]; first | done | omega) | (rw [if_neg (by omega), if_neg (by omega), if_neg (by omega), if_neg (by omega), if_neg (by omega), if_neg (by omega), if_pos (by omega)]; first | done | omega) | (rw [if_neg (by omega), if_neg (by omega), if_neg (by omega), if_neg (by omega), if_neg (by omega), if_neg (by omega), if_neg (by omega), if_pos (by omega)]; first | done | omega) | (rw [if_neg (by omega), if_neg (by omega), if_neg (by omega), if_neg (by omega), if_neg (by omega), if_neg (by omega), if_neg (by omega), if_neg (by omega)]; first | done | omega))
          by_cases s38_5 : what = 5
          · refine z_tableIn (tgt := 128) dX7_rule_33 (by omega) (by omega) (by rw [s38_5]; rfl) (by decide) ?_
            refine z_aload_nr dX7_rule_128 rfl ?_
            refine z_getv (b := 42) (kz := 6) fl_X7_54 rfl (by decide) rfl (fun _ => hT) dX7_rule_129 ?_
            refine z_geti (kz := 6) fl_X7_201 rfl (by decide) rfl dX7_rule_132 (fun x44 hx44 bx44 => ?_)
            refine z_iret rfl (by decide) rfl (Nat.sub_self _) dX7_rule_135 ?_
            refine ⟨rfl, ?_⟩
            first
            | (exfalso; omega)
            | (rw [if_neg (by omega)]
               first | (rw [if_pos (by omega)]; first | done | omega) | (rw [if_neg (by omega), if_pos (by omega)]; first | done | omega) | (rw [if_neg (by omega), if_neg (by omega), if_pos (by omega)]; first | done | omega) | (rw [if_neg (by omega), if_neg (by omega), if_neg (by omega), if_pos (by omega)]; first | done | omega) | (rw [if_neg (by omega), if_neg (by omega), if_neg (by omega), if_neg (by omega), if_pos (by omega)]; first | done | omega) | (rw [if_neg (by omega), if_neg (by omega), if_neg (by omega), if_neg (by omega), if_neg (by omega), if_pos (by omega)]; first | done | omega) | (rw [if_neg (by omega), if_neg (by omega), if_neg (by omega), if_neg (by omega), if_neg (by omega), if_neg (by omega), if_pos (by omega)]; first | done | omega) | (rw [if_neg (by omega), if_neg (by omega), if_neg (by omega), if_neg (by omega), if_neg (by omega), if_neg (by omega), if_neg (by omega), if_pos (by omega)]; first | done | omega) | (rw [if_neg (by omega), if_neg (by omega), if_neg (by omega), if_neg (by omega), if_neg (by omega), if_neg (by omega), if_neg (by omega), if_neg (by omega)]; first | done | omega))
          by_cases s38_6 : what = 6
          · refine z_tableIn (tgt := 136) dX7_rule_33 (by omega) (by omega) (by rw [s38_6]; rfl) (by decide) ?_
            refine z_aload_nr dX7_rule_136 rfl ?_
            refine z_getv (b := 42) (kz := 6) fl_X7_54 rfl (by decide) rfl (fun _ => hT) dX7_rule_137 ?_
            refine z_getr (b := 47) fl_X7_204 rfl (by decide) rf_42_4 rfl dX7_rule_140 ?_
            refine z_iload_n dX7_rule_143 rfl ?_
            refine z_iald rfl (by decide) (by omega) (by omega) dX7_rule_144 (fun x45 hx45 bx45 => ?_)
            refine z_iret rfl (by decide) rfl (Nat.sub_self _) dX7_rule_145 ?_
            refine ⟨rfl, ?_⟩
            first
            | (exfalso; omega)
            | (rw [if_neg (by omega)]
               first | (rw [if_pos (by omega)]; first | done | omega) | (rw [if_neg (by omega), if_pos (by omega)]; first | done | omega) | (rw [if_neg (by omega), if_neg (by omega), if_pos (by omega)]; first | done | omega) | (rw [if_neg (by omega), if_neg (by omega), if_neg (by omega), if_pos (by omega)]; first | done | omega) | (rw [if_neg (by omega), if_neg (by omega), if_neg (by omega), if_neg (by omega), if_pos (by omega)]; first | done | omega) | (rw [if_neg (by omega), if_neg (by omega), if_neg (by omega), if_neg (by omega), if_neg (by omega), if_pos (by omega)]; first | done | omega) | (rw [if_neg (by omega), if_neg (by omega), if_neg (by omega), if_neg (by omega), if_neg (by omega), if_neg (by omega), if_pos (by omega)]; first | done | omega) | (rw [if_neg (by omega), if_neg (by omega), if_neg (by omega), if_neg (by omega), if_neg (by omega), if_neg (by omega), if_neg (by omega), if_pos (by omega)]; first | done | omega) | (rw [if_neg (by omega), if_neg (by omega), if_neg (by omega), if_neg (by omega), if_neg (by omega), if_neg (by omega), if_neg (by omega), if_neg (by omega)]; first | done | omega))
          by_cases s38_7 : what = 7
          · refine z_tableIn (tgt := 146) dX7_rule_33 (by omega) (by omega) (by rw [s38_7]; rfl) (by decide) ?_
            refine z_aload_nr dX7_rule_146 rfl ?_
            refine z_getv (b := 42) (kz := 6) fl_X7_54 rfl (by decide) rfl (fun _ => hT) dX7_rule_147 ?_
            refine z_geti (kz := 7) fl_X7_207 rfl (by decide) rfl dX7_rule_150 (fun x46 hx46 bx46 => ?_)
            refine z_iret rfl (by decide) rfl (Nat.sub_self _) dX7_rule_153 ?_
            refine ⟨rfl, ?_⟩
            first
            | (exfalso; omega)
            | (rw [if_neg (by omega)]
               first | (rw [if_pos (by omega)]; first | done | omega) | (rw [if_neg (by omega), if_pos (by omega)]; first | done | omega) | (rw [if_neg (by omega), if_neg (by omega), if_pos (by omega)]; first | done | omega) | (rw [if_neg (by omega), if_neg (by omega), if_neg (by omega), if_pos (by omega)]; first | done | omega) | (rw [if_neg (by omega), if_neg (by omega), if_neg (by omega), if_neg (by omega), if_pos (by omega)]; first | done | omega) | (rw [if_neg (by omega), if_neg (by omega), if_neg (by omega), if_neg (by omega), if_neg (by omega), if_pos (by omega)]; first | done | omega) | (rw [if_neg (by omega), if_neg (by omega), if_neg (by omega), if_neg (by omega), if_neg (by omega), if_neg (by omega), if_pos (by omega)]; first | done | omega) | (rw [if_neg (by omega), if_neg (by omega), if_neg (by omega), if_neg (by omega), if_neg (by omega), if_neg (by omega), if_neg (by omega), if_pos (by omega)]; first | done | omega) | (rw [if_neg (by omega), if_neg (by omega), if_neg (by omega), if_neg (by omega), if_neg (by omega), if_neg (by omega), if_neg (by omega), if_neg (by omega)]; first | done | omega))
          refine z_tableOut (tgt := 154) dX7_rule_33 (by omega) (by decide) ?_
          refine z_ldc (c := -1000002) cn_X7_87 ⟨by decide, by decide⟩ dX7_rule_154 ?_
          refine z_iret rfl (by decide) rfl (Nat.sub_self _) dX7_rule_156 ?_
          refine ⟨rfl, ?_⟩
          first
          | (exfalso; omega)
          | (rw [if_neg (by omega)]
             first | (rw [if_pos (by omega)]; first | done | omega) | (rw [if_neg (by omega), if_pos (by omega)]; first | done | omega) | (rw [if_neg (by omega), if_neg (by omega), if_pos (by omega)]; first | done | omega) | (rw [if_neg (by omega), if_neg (by omega), if_neg (by omega), if_pos (by omega)]; first | done | omega) | (rw [if_neg (by omega), if_neg (by omega), if_neg (by omega), if_neg (by omega), if_pos (by omega)]; first | done | omega) | (rw [if_neg (by omega), if_neg (by omega), if_neg (by omega), if_neg (by omega), if_neg (by omega), if_pos (by omega)]; first | done | omega) | (rw [if_neg (by omega), if_neg (by omega), if_neg (by omega), if_neg (by omega), if_neg (by omega), if_neg (by omega), if_pos (by omega)]; first | done | omega) | (rw [if_neg (by omega), if_neg (by omega), if_neg (by omega), if_neg (by omega), if_neg (by omega), if_neg (by omega), if_neg (by omega), if_pos (by omega)]; first | done | omega) | (rw [if_neg (by omega), if_neg (by omega), if_neg (by omega), if_neg (by omega), if_neg (by omega), if_neg (by omega), if_neg (by omega), if_neg (by omega)]; first | done | omega))
        · refine z_ldc (c := -1000001) cn_X7_82 ⟨by decide, by decide⟩ dX7_rule_29 ?_
          refine z_iret rfl (by decide) rfl (Nat.sub_self _) dX7_rule_31 ?_
          refine ⟨rfl, ?_⟩
          rw [if_pos (by omega)]
set_option maxHeartbeats 400000 in
theorem A_X7_rule51 (l : Launch) (g : Cx) (M : FMem) (what i : Int) (hT : M 0 6 = 51) : AMi l g true fi_X7_rule [fr 0, fi what, fi i] 93 M (fun r M2 => M2 = M ∧ (fun q => q = rulX M 51 what i) r) := by
  refine AMi_intro [fr 0, fi what, fi i] (by decide) (knall rfl) (Nat.le_of_ble_eq_true rfl) rfl ?_
  intro hNV hM0 μ
  have bwhat : N32 what := hNV (fi what) (by simp)
  have bi : N32 i := hNV (fi i) (by simp)
  unfold rulX
  simp only [Nat.reduceAdd]
  refine z_iload_n dX7_rule_0 rfl ?_
  refine z_iconst dX7_rule_1 ⟨by decide, by decide⟩ ?_
  refine z_iconst dX7_rule_2 ⟨by decide, by decide⟩ ?_
  refine z_callSip (n2 := 93) (A_X7_isFrom l g M what 0 3) cb_X7_isFrom cl_X7_83 (clr0 rfl rfl (by decide) (by decide)) rfl (by decide) rfl (Nat.le_of_ble_eq_true rfl) rfl dX7_rule_3 (fun x1 bx1 hx1 => ?_)
  have i1 := if01 hx1
  refine z_if_eq (tgt := 16) dX7_rule_6 (by decide) (fun c2 => ?_) (fun c2 => ?_)
  · refine z_iload_n dX7_rule_16 rfl ?_
    refine z_bipush dX7_rule_17 ⟨by decide, by decide⟩ (by decide) ?_
    refine z_icmp_ne (tgt := 32) dX7_rule_19 (by decide) (fun c3 => ?_) (fun c3 => ?_)
    · refine z_iload_n dX7_rule_32 rfl ?_
      by_cases s4_0 : what = 0
      · refine z_tableIn (tgt := 80) dX7_rule_33 (by omega) (by omega) (by rw [s4_0]; rfl) (by decide) ?_
        refine z_aload_nr dX7_rule_80 rfl ?_
        refine z_getv (b := 51) (kz := 6) fl_X7_54 rfl (by decide) rfl (fun _ => hT) dX7_rule_81 ?_
        refine z_getr (b := 52) fl_X7_186 rfl (by decide) rf_51_0 rfl dX7_rule_84 ?_
        refine z_iload_n dX7_rule_87 rfl ?_
        refine z_iald rfl (by decide) (by omega) (by omega) dX7_rule_88 (fun x5 hx5 bx5 => ?_)
        refine z_iret rfl (by decide) rfl (Nat.sub_self _) dX7_rule_89 ?_
        refine ⟨rfl, ?_⟩
        first
        | (exfalso; omega)
        | (rw [if_neg (by omega)]
           first | (rw [if_pos (by omega)]; first | done | omega) | (rw [if_neg (by omega), if_pos (by omega)]; first | done | omega) | (rw [if_neg (by omega), if_neg (by omega), if_pos (by omega)]; first | done | omega) | (rw [if_neg (by omega), if_neg (by omega), if_neg (by omega), if_pos (by omega)]; first | done | omega) | (rw [if_neg (by omega), if_neg (by omega), if_neg (by omega), if_neg (by omega), if_pos (by omega)]; first | done | omega) | (rw [if_neg (by omega), if_neg (by omega), if_neg (by omega), if_neg (by omega), if_neg (by omega), if_pos (by omega)]; first | done | omega) | (rw [if_neg (by omega), if_neg (by omega), if_neg (by omega), if_neg (by omega), if_neg (by omega), if_neg (by omega), if_pos (by omega)]; first | done | omega) | (rw [if_neg (by omega), if_neg (by omega), if_neg (by omega), if_neg (by omega), if_neg (by omega), if_neg (by omega), if_neg (by omega), if_pos (by omega)]; first | done | omega) | (rw [if_neg (by omega), if_neg (by omega), if_neg (by omega), if_neg (by omega), if_neg (by omega), if_neg (by omega), if_neg (by omega), if_neg (by omega)]; first | done | omega))
      by_cases s4_1 : what = 1
      · refine z_tableIn (tgt := 90) dX7_rule_33 (by omega) (by omega) (by rw [s4_1]; rfl) (by decide) ?_
        refine z_aload_nr dX7_rule_90 rfl ?_
        refine z_getv (b := 51) (kz := 6) fl_X7_54 rfl (by decide) rfl (fun _ => hT) dX7_rule_91 ?_
        refine z_getr (b := 53) fl_X7_189 rfl (by decide) rf_51_1 rfl dX7_rule_94 ?_
        refine z_iload_n dX7_rule_97 rfl ?_
        refine z_iald rfl (by decide) (by omega) (by omega) dX7_rule_98 (fun x6 hx6 bx6 => ?_)
        refine z_iret rfl (by decide) rfl (Nat.sub_self _) dX7_rule_99 ?_
        refine ⟨rfl, ?_⟩
        first
        | (exfalso; omega)
        | (rw [if_neg (by omega)]
           first | (rw [if_pos (by omega)]; first | done | omega) | (rw [if_neg (by omega), if_pos (by omega)]; first | done | omega) | (rw [if_neg (by omega), if_neg (by omega), if_pos (by omega)]; first | done | omega) | (rw [if_neg (by omega), if_neg (by omega), if_neg (by omega), if_pos (by omega)]; first | done | omega) | (rw [if_neg (by omega), if_neg (by omega), if_neg (by omega), if_neg (by omega), if_pos (by omega)]; first | done | omega) | (rw [if_neg (by omega), if_neg (by omega), if_neg (by omega), if_neg (by omega), if_neg (by omega), if_pos (by omega)]; first | done | omega) | (rw [if_neg (by omega), if_neg (by omega), if_neg (by omega), if_neg (by omega), if_neg (by omega), if_neg (by omega), if_pos (by omega)]; first | done | omega) | (rw [if_neg (by omega), if_neg (by omega), if_neg (by omega), if_neg (by omega), if_neg (by omega), if_neg (by omega), if_neg (by omega), if_pos (by omega)]; first | done | omega) | (rw [if_neg (by omega), if_neg (by omega), if_neg (by omega), if_neg (by omega), if_neg (by omega), if_neg (by omega), if_neg (by omega), if_neg (by omega)]; first | done | omega))
      by_cases s4_2 : what = 2
      · refine z_tableIn (tgt := 100) dX7_rule_33 (by omega) (by omega) (by rw [s4_2]; rfl) (by decide) ?_
        refine z_aload_nr dX7_rule_100 rfl ?_
        refine z_getv (b := 51) (kz := 6) fl_X7_54 rfl (by decide) rfl (fun _ => hT) dX7_rule_101 ?_
        refine z_getr (b := 54) fl_X7_192 rfl (by decide) rf_51_2 rfl dX7_rule_104 ?_
        refine z_iload_n dX7_rule_107 rfl ?_
        refine z_iald rfl (by decide) (by omega) (by omega) dX7_rule_108 (fun x7 hx7 bx7 => ?_)
        refine z_iret rfl (by decide) rfl (Nat.sub_self _) dX7_rule_109 ?_
        refine ⟨rfl, ?_⟩
        first
        | (exfalso; omega)
        | (rw [if_neg (by omega)]
           first | (rw [if_pos (by omega)]; first | done | omega) | (rw [if_neg (by omega), if_pos (by omega)]; first | done | omega) | (rw [if_neg (by omega), if_neg (by omega), if_pos (by omega)]; first | done | omega) | (rw [if_neg (by omega), if_neg (by omega), if_neg (by omega), if_pos (by omega)]; first | done | omega) | (rw [if_neg (by omega), if_neg (by omega), if_neg (by omega), if_neg (by omega), if_pos (by omega)]; first | done | omega) | (rw [if_neg (by omega), if_neg (by omega), if_neg (by omega), if_neg (by omega), if_neg (by omega), if_pos (by omega)]; first | done | omega) | (rw [if_neg (by omega), if_neg (by omega), if_neg (by omega), if_neg (by omega), if_neg (by omega), if_neg (by omega), if_pos (by omega)]; first | done | omega) | (rw [if_neg (by omega), if_neg (by omega), if_neg (by omega), if_neg (by omega), if_neg (by omega), if_neg (by omega), if_neg (by omega), if_pos (by omega)]; first | done | omega) | (rw [if_neg (by omega), if_neg (by omega), if_neg (by omega), if_neg (by omega), if_neg (by omega), if_neg (by omega), if_neg (by omega), if_neg (by omega)]; first | done | omega))
      by_cases s4_3 : what = 3
      · refine z_tableIn (tgt := 110) dX7_rule_33 (by omega) (by omega) (by rw [s4_3]; rfl) (by decide) ?_
        refine z_aload_nr dX7_rule_110 rfl ?_
        refine z_getv (b := 51) (kz := 6) fl_X7_54 rfl (by decide) rfl (fun _ => hT) dX7_rule_111 ?_
        refine z_getr (b := 55) fl_X7_195 rfl (by decide) rf_51_3 rfl dX7_rule_114 ?_
        refine z_iload_n dX7_rule_117 rfl ?_
        refine z_iald rfl (by decide) (by omega) (by omega) dX7_rule_118 (fun x8 hx8 bx8 => ?_)
        refine z_iret rfl (by decide) rfl (Nat.sub_self _) dX7_rule_119 ?_
        refine ⟨rfl, ?_⟩
        first
        | (exfalso; omega)
        | (rw [if_neg (by omega)]
           first | (rw [if_pos (by omega)]; first | done | omega) | (rw [if_neg (by omega), if_pos (by omega)]; first | done | omega) | (rw [if_neg (by omega), if_neg (by omega), if_pos (by omega)]; first | done | omega) | (rw [if_neg (by omega), if_neg (by omega), if_neg (by omega), if_pos (by omega)]; first | done | omega) | (rw [if_neg (by omega), if_neg (by omega), if_neg (by omega), if_neg (by omega), if_pos (by omega)]; first | done | omega) | (rw [if_neg (by omega), if_neg (by omega), if_neg (by omega), if_neg (by omega), if_neg (by omega), if_pos (by omega)]; first | done | omega) | (rw [if_neg (by omega), if_neg (by omega), if_neg (by omega), if_neg (by omega), if_neg (by omega), if_neg (by omega), if_pos (by omega)]; first | done | omega) | (rw [if_neg (by omega), if_neg (by omega), if_neg (by omega), if_neg (by omega), if_neg (by omega), if_neg (by omega), if_neg (by omega), if_pos (by omega)]; first | done | omega) | (rw [if_neg (by omega), if_neg (by omega), if_neg (by omega), if_neg (by omega), if_neg (by omega), if_neg (by omega), if_neg (by omega), if_neg (by omega)]; first | done | omega))
      by_cases s4_4 : what = 4
      · refine z_tableIn (tgt := 120) dX7_rule_33 (by omega) (by omega) (by rw [s4_4]; rfl) (by decide) ?_
        refine z_aload_nr dX7_rule_120 rfl ?_
        refine z_getv (b := 51) (kz := 6) fl_X7_54 rfl (by decide) rfl (fun _ => hT) dX7_rule_121 ?_
        refine z_geti (kz := 5) fl_X7_198 rfl (by decide) rfl dX7_rule_124 (fun x9 hx9 bx9 => ?_)
        refine z_iret rfl (by decide) rfl (Nat.sub_self _) dX7_rule_127 ?_
        refine ⟨rfl, ?_⟩
        first
        | (exfalso; omega)
        | (rw [if_neg (by omega)]
           first | (rw [if_pos (by omega)]; first | done | omega) | (rw [if_neg (by omega), if_pos (by omega)]; first | done | omega) | (rw [if_neg (by omega), if_neg (by omega), if_pos (by omega)]; first | done | omega) | (rw [if_neg (by omega), if_neg (by omega), if_neg (by omega), if_pos (by omega)]; first | done | omega) | (rw [if_neg (by omega), if_neg (by omega), if_neg (by omega), if_neg (by omega), if_pos (by omega)]; first | done | omega) | (rw [if_neg (by omega), if_neg (by omega), if_neg (by omega), if_neg (by omega), if_neg (by omega), if_pos (by omega)]; first | done | omega) | (rw [if_neg (by omega), if_neg (by omega), if_neg (by omega), if_neg (by omega), if_neg (by omega), if_neg (by omega), if_pos (by omega)]; first | done | omega) | (rw [if_neg (by omega), if_neg (by omega), if_neg (by omega), if_neg (by omega), if_neg (by omega), if_neg (by omega), if_neg (by omega), if_pos (by omega)]; first | done | omega) | (rw [if_neg (by omega), if_neg (by omega), if_neg (by omega), if_neg (by omega), if_neg (by omega), if_neg (by omega), if_neg (by omega), if_neg (by omega)]; first | done | omega))
      by_cases s4_5 : what = 5
      · refine z_tableIn (tgt := 128) dX7_rule_33 (by omega) (by omega) (by rw [s4_5]; rfl) (by decide) ?_
        refine z_aload_nr dX7_rule_128 rfl ?_
        refine z_getv (b := 51) (kz := 6) fl_X7_54 rfl (by decide) rfl (fun _ => hT) dX7_rule_129 ?_
        refine z_geti (kz := 6) fl_X7_201 rfl (by decide) rfl dX7_rule_132 (fun x10 hx10 bx10 => ?_)
        refine z_iret rfl (by decide) rfl (Nat.sub_self _) dX7_rule_135 ?_
        refine ⟨rfl, ?_⟩
        first
        | (exfalso; omega)
        | (rw [if_neg (by omega)]
           first | (rw [if_pos (by omega)]; first | done | omega) | (rw [if_neg (by omega), if_pos (by omega)]; first | done | omega) | (rw [if_neg (by omega), if_neg (by omega), if_pos (by omega)]; first | done | omega) | (rw [if_neg (by omega), if_neg (by omega), if_neg (by omega), if_pos (by omega)]; first | done | omega) | (rw [if_neg (by omega), if_neg (by omega), if_neg (by omega), if_neg (by omega), if_pos (by omega)]; first | done | omega) | (rw [if_neg (by omega), if_neg (by omega), if_neg (by omega), if_neg (by omega), if_neg (by omega), if_pos (by omega)]; first | done | omega) | (rw [if_neg (by omega), if_neg (by omega), if_neg (by omega), if_neg (by omega), if_neg (by omega), if_neg (by omega), if_pos (by omega)]; first | done | omega) | (rw [if_neg (by omega), if_neg (by omega), if_neg (by omega), if_neg (by omega), if_neg (by omega), if_neg (by omega), if_neg (by omega), if_pos (by omega)]; first | done | omega) | (rw [if_neg (by omega), if_neg (by omega), if_neg (by omega), if_neg (by omega), if_neg (by omega), if_neg (by omega), if_neg (by omega), if_neg (by omega)]; first | done | omega))
      by_cases s4_6 : what = 6
      · refine z_tableIn (tgt := 136) dX7_rule_33 (by omega) (by omega) (by rw [s4_6]; rfl) (by decide) ?_
        refine z_aload_nr dX7_rule_136 rfl ?_
        refine z_getv (b := 51) (kz := 6) fl_X7_54 rfl (by decide) rfl (fun _ => hT) dX7_rule_137 ?_
        refine z_getr (b := 56) fl_X7_204 rfl (by decide) rf_51_4 rfl dX7_rule_140 ?_
        refine z_iload_n dX7_rule_143 rfl ?_
        refine z_iald rfl (by decide) (by omega) (by omega) dX7_rule_144 (fun x11 hx11 bx11 => ?_)
        refine z_iret rfl (by decide) rfl (Nat.sub_self _) dX7_rule_145 ?_
        refine ⟨rfl, ?_⟩
        first
        | (exfalso; omega)
        | (rw [if_neg (by omega)]
           first | (rw [if_pos (by omega)]; first | done | omega) | (rw [if_neg (by omega), if_pos (by omega)]; first | done | omega) | (rw [if_neg (by omega), if_neg (by omega), if_pos (by omega)]; first | done | omega) | (rw [if_neg (by omega), if_neg (by omega), if_neg (by omega), if_pos (by omega)]; first | done | omega) | (rw [if_neg (by omega), if_neg (by omega), if_neg (by omega), if_neg (by omega), if_pos (by omega)]; first | done | omega) | (rw [if_neg (by omega), if_neg (by omega), if_neg (by omega), if_neg (by omega), if_neg (by omega), if_pos (by omega)]; first | done | omega) | (rw [if_neg (by omega), if_neg (by omega), if_neg (by omega), if_neg (by omega), if_neg (by omega), if_neg (by omega), if_pos (by omega)]; first | done | omega) | (rw [if_neg (by omega), if_neg (by omega), if_neg (by omega), if_neg (by omega), if_neg (by omega), if_neg (by omega), if_neg (by omega), if_pos (by omega)]; first | done | omega) | (rw [if_neg (by omega), if_neg (by omega), if_neg (by omega), if_neg (by omega), if_neg (by omega), if_neg (by omega), if_neg (by omega), if_neg (by omega)]; first | done | omega))
      by_cases s4_7 : what = 7
      · refine z_tableIn (tgt := 146) dX7_rule_33 (by omega) (by omega) (by rw [s4_7]; rfl) (by decide) ?_
        refine z_aload_nr dX7_rule_146 rfl ?_
        refine z_getv (b := 51) (kz := 6) fl_X7_54 rfl (by decide) rfl (fun _ => hT) dX7_rule_147 ?_
        refine z_geti (kz := 7) fl_X7_207 rfl (by decide) rfl dX7_rule_150 (fun x12 hx12 bx12 => ?_)
        refine z_iret rfl (by decide) rfl (Nat.sub_self _) dX7_rule_153 ?_
        refine ⟨rfl, ?_⟩
        first
        | (exfalso; omega)
        | (rw [if_neg (by omega)]
           first | (rw [if_pos (by omega)]; first | done | omega) | (rw [if_neg (by omega), if_pos (by omega)]; first | done | omega) | (rw [if_neg (by omega), if_neg (by omega), if_pos (by omega)]; first | done | omega) | (rw [if_neg (by omega), if_neg (by omega), if_neg (by omega), if_pos (by omega)]; first | done | omega) | (rw [if_neg (by omega), if_neg (by omega), if_neg (by omega), if_neg (by omega), if_pos (by omega)]; first | done | omega) | (rw [if_neg (by omega), if_neg (by omega), if_neg (by omega), if_neg (by omega), if_neg (by omega), if_pos (by omega)]; first | done | omega) | (rw [if_neg (by omega), if_neg (by omega), if_neg (by omega), if_neg (by omega), if_neg (by omega), if_neg (by omega), if_pos (by omega)]; first | done | omega) | (rw [if_neg (by omega), if_neg (by omega), if_neg (by omega), if_neg (by omega), if_neg (by omega), if_neg (by omega), if_neg (by omega), if_pos (by omega)]; first | done | omega) | (rw [if_neg (by omega), if_neg (by omega), if_neg (by omega), if_neg (by omega), if_neg (by omega), if_neg (by omega), if_neg (by omega), if_neg (by omega)]; first | done | omega))
      refine z_tableOut (tgt := 154) dX7_rule_33 (by omega) (by decide) ?_
      refine z_ldc (c := -1000002) cn_X7_87 ⟨by decide, by decide⟩ dX7_rule_154 ?_
      refine z_iret rfl (by decide) rfl (Nat.sub_self _) dX7_rule_156 ?_
      refine ⟨rfl, ?_⟩
      first
      | (exfalso; omega)
      | (rw [if_neg (by omega)]
         first | (rw [if_pos (by omega)]; first | done | omega) | (rw [if_neg (by omega), if_pos (by omega)]; first | done | omega) | (rw [if_neg (by omega), if_neg (by omega), if_pos (by omega)]; first | done | omega) | (rw [if_neg (by omega), if_neg (by omega), if_neg (by omega), if_pos (by omega)]; first | done | omega) | (rw [if_neg (by omega), if_neg (by omega), if_neg (by omega), if_neg (by omega), if_pos (by omega)]; first | done | omega) | (rw [if_neg (by omega), if_neg (by omega), if_neg (by omega), if_neg (by omega), if_neg (by omega), if_pos (by omega)]; first | done | omega) | (rw [if_neg (by omega), if_neg (by omega), if_neg (by omega), if_neg (by omega), if_neg (by omega), if_neg (by omega), if_pos (by omega)]; first | done | omega) | (rw [if_neg (by omega), if_neg (by omega), if_neg (by omega), if_neg (by omega), if_neg (by omega), if_neg (by omega), if_neg (by omega), if_pos (by omega)]; first | done | omega) | (rw [if_neg (by omega), if_neg (by omega), if_neg (by omega), if_neg (by omega), if_neg (by omega), if_neg (by omega), if_neg (by omega), if_neg (by omega)]; first | done | omega))
    · refine z_iload_n dX7_rule_22 rfl ?_
      refine z_callSip (n2 := 93) (A_X7_isList l g M i) cb_X7_isList cl_X7_72 (clr0 rfl rfl (by decide) (by decide)) rfl (by decide) rfl (Nat.le_of_ble_eq_true rfl) rfl dX7_rule_23 (fun x13 bx13 hx13 => ?_)
      have i13 := if01 hx13
      refine z_if_ne (tgt := 32) dX7_rule_26 (by decide) (fun c14 => ?_) (fun c14 => ?_)
      · refine z_iload_n dX7_rule_32 rfl ?_
        by_cases s15_0 : what = 0
        · refine z_tableIn (tgt := 80) dX7_rule_33 (by omega) (by omega) (by rw [s15_0]; rfl) (by decide) ?_
          refine z_aload_nr dX7_rule_80 rfl ?_
          refine z_getv (b := 51) (kz := 6) fl_X7_54 rfl (by decide) rfl (fun _ => hT) dX7_rule_81 ?_
          refine z_getr (b := 52) fl_X7_186 rfl (by decide) rf_51_0 rfl dX7_rule_84 ?_
          refine z_iload_n dX7_rule_87 rfl ?_
          refine z_iald rfl (by decide) (by omega) (by omega) dX7_rule_88 (fun x16 hx16 bx16 => ?_)
          refine z_iret rfl (by decide) rfl (Nat.sub_self _) dX7_rule_89 ?_
          refine ⟨rfl, ?_⟩
          first
          | (exfalso; omega)
          | (rw [if_neg (by omega)]
             first | (rw [if_pos (by omega)]; first | done | omega) | (rw [if_neg (by omega), if_pos (by omega)]; first | done | omega) | (rw [if_neg (by omega), if_neg (by omega), if_pos (by omega)]; first | done | omega) | (rw [if_neg (by omega), if_neg (by omega), if_neg (by omega), if_pos (by omega)]; first | done | omega) | (rw [if_neg (by omega), if_neg (by omega), if_neg (by omega), if_neg (by omega), if_pos (by omega)]; first | done | omega) | (rw [if_neg (by omega), if_neg (by omega), if_neg (by omega), if_neg (by omega), if_neg (by omega), if_pos (by omega)]; first | done | omega) | (rw [if_neg (by omega), if_neg (by omega), if_neg (by omega), if_neg (by omega), if_neg (by omega), if_neg (by omega), if_pos (by omega)]; first | done | omega) | (rw [if_neg (by omega), if_neg (by omega), if_neg (by omega), if_neg (by omega), if_neg (by omega), if_neg (by omega), if_neg (by omega), if_pos (by omega)]; first | done | omega) | (rw [if_neg (by omega), if_neg (by omega), if_neg (by omega), if_neg (by omega), if_neg (by omega), if_neg (by omega), if_neg (by omega), if_neg (by omega)]; first | done | omega))
        by_cases s15_1 : what = 1
        · refine z_tableIn (tgt := 90) dX7_rule_33 (by omega) (by omega) (by rw [s15_1]; rfl) (by decide) ?_
          refine z_aload_nr dX7_rule_90 rfl ?_
          refine z_getv (b := 51) (kz := 6) fl_X7_54 rfl (by decide) rfl (fun _ => hT) dX7_rule_91 ?_
          refine z_getr (b := 53) fl_X7_189 rfl (by decide) rf_51_1 rfl dX7_rule_94 ?_
          refine z_iload_n dX7_rule_97 rfl ?_
          refine z_iald rfl (by decide) (by omega) (by omega) dX7_rule_98 (fun x17 hx17 bx17 => ?_)
          refine z_iret rfl (by decide) rfl (Nat.sub_self _) dX7_rule_99 ?_
          refine ⟨rfl, ?_⟩
          first
          | (exfalso; omega)
          | (rw [if_neg (by omega)]
             first | (rw [if_pos (by omega)]; first | done | omega) | (rw [if_neg (by omega), if_pos (by omega)]; first | done | omega) | (rw [if_neg (by omega), if_neg (by omega), if_pos (by omega)]; first | done | omega) | (rw [if_neg (by omega), if_neg (by omega), if_neg (by omega), if_pos (by omega)]; first | done | omega) | (rw [if_neg (by omega), if_neg (by omega), if_neg (by omega), if_neg (by omega), if_pos (by omega)]; first | done | omega) | (rw [if_neg (by omega), if_neg (by omega), if_neg (by omega), if_neg (by omega), if_neg (by omega), if_pos (by omega)]; first | done | omega) | (rw [if_neg (by omega), if_neg (by omega), if_neg (by omega), if_neg (by omega), if_neg (by omega), if_neg (by omega), if_pos (by omega)]; first | done | omega) | (rw [if_neg (by omega), if_neg (by omega), if_neg (by omega), if_neg (by omega), if_neg (by omega), if_neg (by omega), if_neg (by omega), if_pos (by omega)]; first | done | omega) | (rw [if_neg (by omega), if_neg (by omega), if_neg (by omega), if_neg (by omega), if_neg (by omega), if_neg (by omega), if_neg (by omega), if_neg (by omega)]; first | done | omega))
        by_cases s15_2 : what = 2
        · refine z_tableIn (tgt := 100) dX7_rule_33 (by omega) (by omega) (by rw [s15_2]; rfl) (by decide) ?_
          refine z_aload_nr dX7_rule_100 rfl ?_
          refine z_getv (b := 51) (kz := 6) fl_X7_54 rfl (by decide) rfl (fun _ => hT) dX7_rule_101 ?_
          refine z_getr (b := 54) fl_X7_192 rfl (by decide) rf_51_2 rfl dX7_rule_104 ?_
          refine z_iload_n dX7_rule_107 rfl ?_
          refine z_iald rfl (by decide) (by omega) (by omega) dX7_rule_108 (fun x18 hx18 bx18 => ?_)
          refine z_iret rfl (by decide) rfl (Nat.sub_self _) dX7_rule_109 ?_
          refine ⟨rfl, ?_⟩
          first
          | (exfalso; omega)
          | (rw [if_neg (by omega)]
             first | (rw [if_pos (by omega)]; first | done | omega) | (rw [if_neg (by omega), if_pos (by omega)]; first | done | omega) | (rw [if_neg (by omega), if_neg (by omega), if_pos (by omega)]; first | done | omega) | (rw [if_neg (by omega), if_neg (by omega), if_neg (by omega), if_pos (by omega)]; first | done | omega) | (rw [if_neg (by omega), if_neg (by omega), if_neg (by omega), if_neg (by omega), if_pos (by omega)]; first | done | omega) | (rw [if_neg (by omega), if_neg (by omega), if_neg (by omega), if_neg (by omega), if_neg (by omega), if_pos (by omega)]; first | done | omega) | (rw [if_neg (by omega), if_neg (by omega), if_neg (by omega), if_neg (by omega), if_neg (by omega), if_neg (by omega), if_pos (by omega)]; first | done | omega) | (rw [if_neg (by omega), if_neg (by omega), if_neg (by omega), if_neg (by omega), if_neg (by omega), if_neg (by omega), if_neg (by omega), if_pos (by omega)]; first | done | omega) | (rw [if_neg (by omega), if_neg (by omega), if_neg (by omega), if_neg (by omega), if_neg (by omega), if_neg (by omega), if_neg (by omega), if_neg (by omega)]; first | done | omega))
        by_cases s15_3 : what = 3
        · refine z_tableIn (tgt := 110) dX7_rule_33 (by omega) (by omega) (by rw [s15_3]; rfl) (by decide) ?_
          refine z_aload_nr dX7_rule_110 rfl ?_
          refine z_getv (b := 51) (kz := 6) fl_X7_54 rfl (by decide) rfl (fun _ => hT) dX7_rule_111 ?_
          refine z_getr (b := 55) fl_X7_195 rfl (by decide) rf_51_3 rfl dX7_rule_114 ?_
          refine z_iload_n dX7_rule_117 rfl ?_
          refine z_iald rfl (by decide) (by omega) (by omega) dX7_rule_118 (fun x19 hx19 bx19 => ?_)
          refine z_iret rfl (by decide) rfl (Nat.sub_self _) dX7_rule_119 ?_
          refine ⟨rfl, ?_⟩
          first
          | (exfalso; omega)
          | (rw [if_neg (by omega)]
             first | (rw [if_pos (by omega)]; first | done | omega) | (rw [if_neg (by omega), if_pos (by omega)]; first | done | omega) | (rw [if_neg (by omega), if_neg (by omega), if_pos (by omega)]; first | done | omega) | (rw [if_neg (by omega), if_neg (by omega), if_neg (by omega), if_pos (by omega)]; first | done | omega) | (rw [if_neg (by omega), if_neg (by omega), if_neg (by omega), if_neg (by omega), if_pos (by omega)]; first | done | omega) | (rw [if_neg (by omega), if_neg (by omega), if_neg (by omega), if_neg (by omega), if_neg (by omega), if_pos (by omega)]; first | done | omega) | (rw [if_neg (by omega), if_neg (by omega), if_neg (by omega), if_neg (by omega), if_neg (by omega), if_neg (by omega), if_pos (by omega)]; first | done | omega) | (rw [if_neg (by omega), if_neg (by omega), if_neg (by omega), if_neg (by omega), if_neg (by omega), if_neg (by omega), if_neg (by omega), if_pos (by omega)]; first | done | omega) | (rw [if_neg (by omega), if_neg (by omega), if_neg (by omega), if_neg (by omega), if_neg (by omega), if_neg (by omega), if_neg (by omega), if_neg (by omega)]; first | done | omega))
        by_cases s15_4 : what = 4
        · refine z_tableIn (tgt := 120) dX7_rule_33 (by omega) (by omega) (by rw [s15_4]; rfl) (by decide) ?_
          refine z_aload_nr dX7_rule_120 rfl ?_
          refine z_getv (b := 51) (kz := 6) fl_X7_54 rfl (by decide) rfl (fun _ => hT) dX7_rule_121 ?_
          refine z_geti (kz := 5) fl_X7_198 rfl (by decide) rfl dX7_rule_124 (fun x20 hx20 bx20 => ?_)
          refine z_iret rfl (by decide) rfl (Nat.sub_self _) dX7_rule_127 ?_
          refine ⟨rfl, ?_⟩
          first
          | (exfalso; omega)
          | (rw [if_neg (by omega)]
             first | (rw [if_pos (by omega)]; first | done | omega) | (rw [if_neg (by omega), if_pos (by omega)]; first | done | omega) | (rw [if_neg (by omega), if_neg (by omega), if_pos (by omega)]; first | done | omega) | (rw [if_neg (by omega), if_neg (by omega), if_neg (by omega), if_pos (by omega)]; first | done | omega) | (rw [if_neg (by omega), if_neg (by omega), if_neg (by omega), if_neg (by omega), if_pos (by omega)]; first | done | omega) | (rw [if_neg (by omega), if_neg (by omega), if_neg (by omega), if_neg (by omega), if_neg (by omega), if_pos (by omega)]; first | done | omega) | (rw [if_neg (by omega), if_neg (by omega), if_neg (by omega), if_neg (by omega), if_neg (by omega), if_neg (by omega), if_pos (by omega)]; first | done | omega) | (rw [if_neg (by omega), if_neg (by omega), if_neg (by omega), if_neg (by omega), if_neg (by omega), if_neg (by omega), if_neg (by omega), if_pos (by omega)]; first | done | omega) | (rw [if_neg (by omega), if_neg (by omega), if_neg (by omega), if_neg (by omega), if_neg (by omega), if_neg (by omega), if_neg (by omega), if_neg (by omega)]; first | done | omega))
        by_cases s15_5 : what = 5
        · refine z_tableIn (tgt := 128) dX7_rule_33 (by omega) (by omega) (by rw [s15_5]; rfl) (by decide) ?_
          refine z_aload_nr dX7_rule_128 rfl ?_
          refine z_getv (b := 51) (kz := 6) fl_X7_54 rfl (by decide) rfl (fun _ => hT) dX7_rule_129 ?_
          refine z_geti (kz := 6) fl_X7_201 rfl (by decide) rfl dX7_rule_132 (fun x21 hx21 bx21 => ?_)
          refine z_iret rfl (by decide) rfl (Nat.sub_self _) dX7_rule_135 ?_
          refine ⟨rfl, ?_⟩
          first
          | (exfalso; omega)
          | (rw [if_neg (by omega)]
             first | (rw [if_pos (by omega)]; first | done | omega) | (rw [if_neg (by omega), if_pos (by omega)]; first | done | omega) | (rw [if_neg (by omega), if_neg (by omega), if_pos (by omega)]; first | done | omega) | (rw [if_neg (by omega), if_neg (by omega), if_neg (by omega), if_pos (by omega)]; first | done | omega) | (rw [if_neg (by omega), if_neg (by omega), if_neg (by omega), if_neg (by omega), if_pos (by omega)]; first | done | omega) | (rw [if_neg (by omega), if_neg (by omega), if_neg (by omega), if_neg (by omega), if_neg (by omega), if_pos (by omega)]; first | done | omega) | (rw [if_neg (by omega), if_neg (by omega), if_neg (by omega), if_neg (by omega), if_neg (by omega), if_neg (by omega), if_pos (by omega)]; first | done | omega) | (rw [if_neg (by omega), if_neg (by omega), if_neg (by omega), if_neg (by omega), if_neg (by omega), if_neg (by omega), if_neg (by omega), if_pos (by omega)]; first | done | omega) | (rw [if_neg (by omega), if_neg (by omega), if_neg (by omega), if_neg (by omega), if_neg (by omega), if_neg (by omega), if_neg (by omega), if_neg (by omega)]; first | done | omega))
        by_cases s15_6 : what = 6
        · refine z_tableIn (tgt := 136) dX7_rule_33 (by omega) (by omega) (by rw [s15_6]; rfl) (by decide) ?_
          refine z_aload_nr dX7_rule_136 rfl ?_
          refine z_getv (b := 51) (kz := 6) fl_X7_54 rfl (by decide) rfl (fun _ => hT) dX7_rule_137 ?_
          refine z_getr (b := 56) fl_X7_204 rfl (by decide) rf_51_4 rfl dX7_rule_140 ?_
          refine z_iload_n dX7_rule_143 rfl ?_
          refine z_iald rfl (by decide) (by omega) (by omega) dX7_rule_144 (fun x22 hx22 bx22 => ?_)
          refine z_iret rfl (by decide) rfl (Nat.sub_self _) dX7_rule_145 ?_
          refine ⟨rfl, ?_⟩
          first
          | (exfalso; omega)
          | (rw [if_neg (by omega)]
             first | (rw [if_pos (by omega)]; first | done | omega) | (rw [if_neg (by omega), if_pos (by omega)]; first | done | omega) | (rw [if_neg (by omega), if_neg (by omega), if_pos (by omega)]; first | done | omega) | (rw [if_neg (by omega), if_neg (by omega), if_neg (by omega), if_pos (by omega)]; first | done | omega) | (rw [if_neg (by omega), if_neg (by omega), if_neg (by omega), if_neg (by omega), if_pos (by omega)]; first | done | omega) | (rw [if_neg (by omega), if_neg (by omega), if_neg (by omega), if_neg (by omega), if_neg (by omega), if_pos (by omega)]; first | done | omega) | (rw [if_neg (by omega), if_neg (by omega), if_neg (by omega), if_neg (by omega), if_neg (by omega), if_neg (by omega), if_pos (by omega)]; first | done | omega) | (rw [if_neg (by omega), if_neg (by omega), if_neg (by omega), if_neg (by omega), if_neg (by omega), if_neg (by omega), if_neg (by omega), if_pos (by omega)]; first | done | omega) | (rw [if_neg (by omega), if_neg (by omega), if_neg (by omega), if_neg (by omega), if_neg (by omega), if_neg (by omega), if_neg (by omega), if_neg (by omega)]; first | done | omega))
        by_cases s15_7 : what = 7
        · refine z_tableIn (tgt := 146) dX7_rule_33 (by omega) (by omega) (by rw [s15_7]; rfl) (by decide) ?_
          refine z_aload_nr dX7_rule_146 rfl ?_
          refine z_getv (b := 51) (kz := 6) fl_X7_54 rfl (by decide) rfl (fun _ => hT) dX7_rule_147 ?_
          refine z_geti (kz := 7) fl_X7_207 rfl (by decide) rfl dX7_rule_150 (fun x23 hx23 bx23 => ?_)
          refine z_iret rfl (by decide) rfl (Nat.sub_self _) dX7_rule_153 ?_
          refine ⟨rfl, ?_⟩
          first
          | (exfalso; omega)
          | (rw [if_neg (by omega)]
             first | (rw [if_pos (by omega)]; first | done | omega) | (rw [if_neg (by omega), if_pos (by omega)]; first | done | omega) | (rw [if_neg (by omega), if_neg (by omega), if_pos (by omega)]; first | done | omega) | (rw [if_neg (by omega), if_neg (by omega), if_neg (by omega), if_pos (by omega)]; first | done | omega) | (rw [if_neg (by omega), if_neg (by omega), if_neg (by omega), if_neg (by omega), if_pos (by omega)]; first | done | omega) | (rw [if_neg (by omega), if_neg (by omega), if_neg (by omega), if_neg (by omega), if_neg (by omega), if_pos (by omega)]; first | done | omega) | (rw [if_neg (by omega), if_neg (by omega), if_neg (by omega), if_neg (by omega), if_neg (by omega), if_neg (by omega), if_pos (by omega)]; first | done | omega) | (rw [if_neg (by omega), if_neg (by omega), if_neg (by omega), if_neg (by omega), if_neg (by omega), if_neg (by omega), if_neg (by omega), if_pos (by omega)]; first | done | omega) | (rw [if_neg (by omega), if_neg (by omega), if_neg (by omega), if_neg (by omega), if_neg (by omega), if_neg (by omega), if_neg (by omega), if_neg (by omega)]; first | done | omega))
        refine z_tableOut (tgt := 154) dX7_rule_33 (by omega) (by decide) ?_
        refine z_ldc (c := -1000002) cn_X7_87 ⟨by decide, by decide⟩ dX7_rule_154 ?_
        refine z_iret rfl (by decide) rfl (Nat.sub_self _) dX7_rule_156 ?_
        refine ⟨rfl, ?_⟩
        first
        | (exfalso; omega)
        | (rw [if_neg (by omega)]
           first | (rw [if_pos (by omega)]; first | done | omega) | (rw [if_neg (by omega), if_pos (by omega)]; first | done | omega) | (rw [if_neg (by omega), if_neg (by omega), if_pos (by omega)]; first | done | omega) | (rw [if_neg (by omega), if_neg (by omega), if_neg (by omega), if_pos (by omega)]; first | done | omega) | (rw [if_neg (by omega), if_neg (by omega), if_neg (by omega), if_neg (by omega), if_pos (by omega)]; first | done | omega) | (rw [if_neg (by omega), if_neg (by omega), if_neg (by omega), if_neg (by omega), if_neg (by omega), if_pos (by omega)]; first | done | omega) | (rw [if_neg (by omega), if_neg (by omega), if_neg (by omega), if_neg (by omega), if_neg (by omega), if_neg (by omega), if_pos (by omega)]; first | done | omega) | (rw [if_neg (by omega), if_neg (by omega), if_neg (by omega), if_neg (by omega), if_neg (by omega), if_neg (by omega), if_neg (by omega), if_pos (by omega)]; first | done | omega) | (rw [if_neg (by omega), if_neg (by omega), if_neg (by omega), if_neg (by omega), if_neg (by omega), if_neg (by omega), if_neg (by omega), if_neg (by omega)]; first | done | omega))
      · refine z_ldc (c := -1000001) cn_X7_82 ⟨by decide, by decide⟩ dX7_rule_29 ?_
        refine z_iret rfl (by decide) rfl (Nat.sub_self _) dX7_rule_31 ?_
        refine ⟨rfl, ?_⟩
        rw [if_pos (by omega)]
  · refine z_iload_n dX7_rule_9 rfl ?_
    refine z_callSip (n2 := 93) (A_X7_isSort l g M i) cb_X7_isSort cl_X7_76 (clr0 rfl rfl (by decide) (by decide)) rfl (by decide) rfl (Nat.le_of_ble_eq_true rfl) rfl dX7_rule_10 (fun x24 bx24 hx24 => ?_)
    have i24 := if01 hx24
    refine z_if_eq (tgt := 29) dX7_rule_13 (by decide) (fun c25 => ?_) (fun c25 => ?_)
    · refine z_ldc (c := -1000001) cn_X7_82 ⟨by decide, by decide⟩ dX7_rule_29 ?_
      refine z_iret rfl (by decide) rfl (Nat.sub_self _) dX7_rule_31 ?_
      refine ⟨rfl, ?_⟩
      rw [if_pos (by omega)]
    · refine z_iload_n dX7_rule_16 rfl ?_
      refine z_bipush dX7_rule_17 ⟨by decide, by decide⟩ (by decide) ?_
      refine z_icmp_ne (tgt := 32) dX7_rule_19 (by decide) (fun c26 => ?_) (fun c26 => ?_)
      · refine z_iload_n dX7_rule_32 rfl ?_
        by_cases s27_0 : what = 0
        · refine z_tableIn (tgt := 80) dX7_rule_33 (by omega) (by omega) (by rw [s27_0]; rfl) (by decide) ?_
          refine z_aload_nr dX7_rule_80 rfl ?_
          refine z_getv (b := 51) (kz := 6) fl_X7_54 rfl (by decide) rfl (fun _ => hT) dX7_rule_81 ?_
          refine z_getr (b := 52) fl_X7_186 rfl (by decide) rf_51_0 rfl dX7_rule_84 ?_
          refine z_iload_n dX7_rule_87 rfl ?_
          refine z_iald rfl (by decide) (by omega) (by omega) dX7_rule_88 (fun x28 hx28 bx28 => ?_)
          refine z_iret rfl (by decide) rfl (Nat.sub_self _) dX7_rule_89 ?_
          refine ⟨rfl, ?_⟩
          first
          | (exfalso; omega)
          | (rw [if_neg (by omega)]
             first | (rw [if_pos (by omega)]; first | done | omega) | (rw [if_neg (by omega), if_pos (by omega)]; first | done | omega) | (rw [if_neg (by omega), if_neg (by omega), if_pos (by omega)]; first | done | omega) | (rw [if_neg (by omega), if_neg (by omega), if_neg (by omega), if_pos (by omega)]; first | done | omega) | (rw [if_neg (by omega), if_neg (by omega), if_neg (by omega), if_neg (by omega), if_pos (by omega)]; first | done | omega) | (rw [if_neg (by omega), if_neg (by omega), if_neg (by omega), if_neg (by omega), if_neg (by omega), if_pos (by omega)]; first | done | omega) | (rw [if_neg (by omega), if_neg (by omega), if_neg (by omega), if_neg (by omega), if_neg (by omega), if_neg (by omega), if_pos (by omega)]; first | done | omega) | (rw [if_neg (by omega), if_neg (by omega), if_neg (by omega), if_neg (by omega), if_neg (by omega), if_neg (by omega), if_neg (by omega), if_pos (by omega)]; first | done | omega) | (rw [if_neg (by omega), if_neg (by omega), if_neg (by omega), if_neg (by omega), if_neg (by omega), if_neg (by omega), if_neg (by omega), if_neg (by omega)]; first | done | omega))
        by_cases s27_1 : what = 1
        · refine z_tableIn (tgt := 90) dX7_rule_33 (by omega) (by omega) (by rw [s27_1]; rfl) (by decide) ?_
          refine z_aload_nr dX7_rule_90 rfl ?_
          refine z_getv (b := 51) (kz := 6) fl_X7_54 rfl (by decide) rfl (fun _ => hT) dX7_rule_91 ?_
          refine z_getr (b := 53) fl_X7_189 rfl (by decide) rf_51_1 rfl dX7_rule_94 ?_
          refine z_iload_n dX7_rule_97 rfl ?_
          refine z_iald rfl (by decide) (by omega) (by omega) dX7_rule_98 (fun x29 hx29 bx29 => ?_)
          refine z_iret rfl (by decide) rfl (Nat.sub_self _) dX7_rule_99 ?_
          refine ⟨rfl, ?_⟩
          first
          | (exfalso; omega)
          | (rw [if_neg (by omega)]
             first | (rw [if_pos (by omega)]; first | done | omega) | (rw [if_neg (by omega), if_pos (by omega)]; first | done | omega) | (rw [if_neg (by omega), if_neg (by omega), if_pos (by omega)]; first | done | omega) | (rw [if_neg (by omega), if_neg (by omega), if_neg (by omega), if_pos (by omega)]; first | done | omega) | (rw [if_neg (by omega), if_neg (by omega), if_neg (by omega), if_neg (by omega), if_pos (by omega)]; first | done | omega) | (rw [if_neg (by omega), if_neg (by omega), if_neg (by omega), if_neg (by omega), if_neg (by omega), if_pos (by omega)]; first | done | omega) | (rw [if_neg (by omega), if_neg (by omega), if_neg (by omega), if_neg (by omega), if_neg (by omega), if_neg (by omega), if_pos (by omega)]; first | done | omega) | (rw [if_neg (by omega), if_neg (by omega), if_neg (by omega), if_neg (by omega), if_neg (by omega), if_neg (by omega), if_neg (by omega), if_pos (by omega)]; first | done | omega) | (rw [if_neg (by omega), if_neg (by omega), if_neg (by omega), if_neg (by omega), if_neg (by omega), if_neg (by omega), if_neg (by omega), if_neg (by omega)]; first | done | omega))
        by_cases s27_2 : what = 2
        · refine z_tableIn (tgt := 100) dX7_rule_33 (by omega) (by omega) (by rw [s27_2]; rfl) (by decide) ?_
          refine z_aload_nr dX7_rule_100 rfl ?_
          refine z_getv (b := 51) (kz := 6) fl_X7_54 rfl (by decide) rfl (fun _ => hT) dX7_rule_101 ?_
          refine z_getr (b := 54) fl_X7_192 rfl (by decide) rf_51_2 rfl dX7_rule_104 ?_
          refine z_iload_n dX7_rule_107 rfl ?_
          refine z_iald rfl (by decide) (by omega) (by omega) dX7_rule_108 (fun x30 hx30 bx30 => ?_)
          refine z_iret rfl (by decide) rfl (Nat.sub_self _) dX7_rule_109 ?_
          refine ⟨rfl, ?_⟩
          first
          | (exfalso; omega)
          | (rw [if_neg (by omega)]
             first | (rw [if_pos (by omega)]; first | done | omega) | (rw [if_neg (by omega), if_pos (by omega)]; first | done | omega) | (rw [if_neg (by omega), if_neg (by omega), if_pos (by omega)]; first | done | omega) | (rw [if_neg (by omega), if_neg (by omega), if_neg (by omega), if_pos (by omega)]; first | done | omega) | (rw [if_neg (by omega), if_neg (by omega), if_neg (by omega), if_neg (by omega), if_pos (by omega)]; first | done | omega) | (rw [if_neg (by omega), if_neg (by omega), if_neg (by omega), if_neg (by omega), if_neg (by omega), if_pos (by omega)]; first | done | omega) | (rw [if_neg (by omega), if_neg (by omega), if_neg (by omega), if_neg (by omega), if_neg (by omega), if_neg (by omega), if_pos (by omega)]; first | done | omega) | (rw [if_neg (by omega), if_neg (by omega), if_neg (by omega), if_neg (by omega), if_neg (by omega), if_neg (by omega), if_neg (by omega), if_pos (by omega)]; first | done | omega) | (rw [if_neg (by omega), if_neg (by omega), if_neg (by omega), if_neg (by omega), if_neg (by omega), if_neg (by omega), if_neg (by omega), if_neg (by omega)]; first | done | omega))
        by_cases s27_3 : what = 3
        · refine z_tableIn (tgt := 110) dX7_rule_33 (by omega) (by omega) (by rw [s27_3]; rfl) (by decide) ?_
          refine z_aload_nr dX7_rule_110 rfl ?_
          refine z_getv (b := 51) (kz := 6) fl_X7_54 rfl (by decide) rfl (fun _ => hT) dX7_rule_111 ?_
          refine z_getr (b := 55) fl_X7_195 rfl (by decide) rf_51_3 rfl dX7_rule_114 ?_
          refine z_iload_n dX7_rule_117 rfl ?_
          refine z_iald rfl (by decide) (by omega) (by omega) dX7_rule_118 (fun x31 hx31 bx31 => ?_)
          refine z_iret rfl (by decide) rfl (Nat.sub_self _) dX7_rule_119 ?_
          refine ⟨rfl, ?_⟩
          first
          | (exfalso; omega)
          | (rw [if_neg (by omega)]
             first | (rw [if_pos (by omega)]; first | done | omega) | (rw [if_neg (by omega), if_pos (by omega)]; first | done | omega) | (rw [if_neg (by omega), if_neg (by omega), if_pos (by omega)]; first | done | omega) | (rw [if_neg (by omega), if_neg (by omega), if_neg (by omega), if_pos (by omega)]; first | done | omega) | (rw [if_neg (by omega), if_neg (by omega), if_neg (by omega), if_neg (by omega), if_pos (by omega)]; first | done | omega) | (rw [if_neg (by omega), if_neg (by omega), if_neg (by omega), if_neg (by omega), if_neg (by omega), if_pos (by omega)]; first | done | omega) | (rw [if_neg (by omega), if_neg (by omega), if_neg (by omega), if_neg (by omega), if_neg (by omega), if_neg (by omega), if_pos (by omega)]; first | done | omega) | (rw [if_neg (by omega), if_neg (by omega), if_neg (by omega), if_neg (by omega), if_neg (by omega), if_neg (by omega), if_neg (by omega), if_pos (by omega)]; first | done | omega) | (rw [if_neg (by omega), if_neg (by omega), if_neg (by omega), if_neg (by omega), if_neg (by omega), if_neg (by omega), if_neg (by omega), if_neg (by omega)]; first | done | omega))
        by_cases s27_4 : what = 4
        · refine z_tableIn (tgt := 120) dX7_rule_33 (by omega) (by omega) (by rw [s27_4]; rfl) (by decide) ?_
          refine z_aload_nr dX7_rule_120 rfl ?_
          refine z_getv (b := 51) (kz := 6) fl_X7_54 rfl (by decide) rfl (fun _ => hT) dX7_rule_121 ?_
          refine z_geti (kz := 5) fl_X7_198 rfl (by decide) rfl dX7_rule_124 (fun x32 hx32 bx32 => ?_)
          refine z_iret rfl (by decide) rfl (Nat.sub_self _) dX7_rule_127 ?_
          refine ⟨rfl, ?_⟩
          first
          | (exfalso; omega)
          | (rw [if_neg (by omega)]
             first | (rw [if_pos (by omega)]; first | done | omega) | (rw [if_neg (by omega), if_pos (by omega)]; first | done | omega) | (rw [if_neg (by omega), if_neg (by omega), if_pos (by omega)]; first | done | omega) | (rw [if_neg (by omega), if_neg (by omega), if_neg (by omega), if_pos (by omega)]; first | done | omega) | (rw [if_neg (by omega), if_neg (by omega), if_neg (by omega), if_neg (by omega), if_pos (by omega)]; first | done | omega) | (rw [if_neg (by omega), if_neg (by omega), if_neg (by omega), if_neg (by omega), if_neg (by omega), if_pos (by omega)]; first | done | omega) | (rw [if_neg (by omega), if_neg (by omega), if_neg (by omega), if_neg (by omega), if_neg (by omega), if_neg (by omega), if_pos (by omega)]; first | done | omega) | (rw [if_neg (by omega), if_neg (by omega), if_neg (by omega), if_neg (by omega), if_neg (by omega), if_neg (by omega), if_neg (by omega), if_pos (by omega)]; first | done | omega) | (rw [if_neg (by omega), if_neg (by omega), if_neg (by omega), if_neg (by omega), if_neg (by omega), if_neg (by omega), if_neg (by omega), if_neg (by omega)]; first | done | omega))
        by_cases s27_5 : what = 5
        · refine z_tableIn (tgt := 128) dX7_rule_33 (by omega) (by omega) (by rw [s27_5]; rfl) (by decide) ?_
          refine z_aload_nr dX7_rule_128 rfl ?_
          refine z_getv (b := 51) (kz := 6) fl_X7_54 rfl (by decide) rfl (fun _ => hT) dX7_rule_129 ?_
          refine z_geti (kz := 6) fl_X7_201 rfl (by decide) rfl dX7_rule_132 (fun x33 hx33 bx33 => ?_)
          refine z_iret rfl (by decide) rfl (Nat.sub_self _) dX7_rule_135 ?_
          refine ⟨rfl, ?_⟩
          first
          | (exfalso; omega)
          | (rw [if_neg (by omega)]
             first | (rw [if_pos (by omega)]; first | done | omega) | (rw [if_neg (by omega), if_pos (by omega)]; first | done | omega) | (rw [if_neg (by omega), if_neg (by omega), if_pos (by omega)]; first | done | omega) | (rw [if_neg (by omega), if_neg (by omega), if_neg (by omega), if_pos (by omega)]; first | done | omega) | (rw [if_neg (by omega), if_neg (by omega), if_neg (by omega), if_neg (by omega), if_pos (by omega)]; first | done | omega) | (rw [if_neg (by omega), if_neg (by omega), if_neg (by omega), if_neg (by omega), if_neg (by omega), if_pos (by omega)]; first | done | omega) | (rw [if_neg (by omega), if_neg (by omega), if_neg (by omega), if_neg (by omega), if_neg (by omega), if_neg (by omega), if_pos (by omega)]; first | done | omega) | (rw [if_neg (by omega), if_neg (by omega), if_neg (by omega), if_neg (by omega), if_neg (by omega), if_neg (by omega), if_neg (by omega), if_pos (by omega)]; first | done | omega) | (rw [if_neg (by omega), if_neg (by omega), if_neg (by omega), if_neg (by omega), if_neg (by omega), if_neg (by omega), if_neg (by omega), if_neg (by omega)]; first | done | omega))
        by_cases s27_6 : what = 6
        · refine z_tableIn (tgt := 136) dX7_rule_33 (by omega) (by omega) (by rw [s27_6]; rfl) (by decide) ?_
          refine z_aload_nr dX7_rule_136 rfl ?_
          refine z_getv (b := 51) (kz := 6) fl_X7_54 rfl (by decide) rfl (fun _ => hT) dX7_rule_137 ?_
          refine z_getr (b := 56) fl_X7_204 rfl (by decide) rf_51_4 rfl dX7_rule_140 ?_
          refine z_iload_n dX7_rule_143 rfl ?_
          refine z_iald rfl (by decide) (by omega) (by omega) dX7_rule_144 (fun x34 hx34 bx34 => ?_)
          refine z_iret rfl (by decide) rfl (Nat.sub_self _) dX7_rule_145 ?_
          refine ⟨rfl, ?_⟩
          first
          | (exfalso; omega)
          | (rw [if_neg (by omega)]
             first | (rw [if_pos (by omega)]; first | done | omega) | (rw [if_neg (by omega), if_pos (by omega)]; first | done | omega) | (rw [if_neg (by omega), if_neg (by omega), if_pos (by omega)]; first | done | omega) | (rw [if_neg (by omega), if_neg (by omega), if_neg (by omega), if_pos (by omega)]; first | done | omega) | (rw [if_neg (by omega), if_neg (by omega), if_neg (by omega), if_neg (by omega), if_pos (by omega)]; first | done | omega) | (rw [if_neg (by omega), if_neg (by omega), if_neg (by omega), if_neg (by omega), if_neg (by omega), if_pos (by omega)]; first | done | omega) | (rw [if_neg (by omega), if_neg (by omega), if_neg (by omega), if_neg (by omega), if_neg (by omega), if_neg (by omega), if_pos (by omega)]; first | done | omega) | (rw [if_neg (by omega), if_neg (by omega), if_neg (by omega), if_neg (by omega), if_neg (by omega), if_neg (by omega), if_neg (by omega), if_pos (by omega)]; first | done | omega) | (rw [if_neg (by omega), if_neg (by omega), if_neg (by omega), if_neg (by omega), if_neg (by omega), if_neg (by omega), if_neg (by omega), if_neg (by omega)]; first | done | omega))
        by_cases s27_7 : what = 7
        · refine z_tableIn (tgt := 146) dX7_rule_33 (by omega) (by omega) (by rw [s27_7]; rfl) (by decide) ?_
          refine z_aload_nr dX7_rule_146 rfl ?_
          refine z_getv (b := 51) (kz := 6) fl_X7_54 rfl (by decide) rfl (fun _ => hT) dX7_rule_147 ?_
          refine z_geti (kz := 7) fl_X7_207 rfl (by decide) rfl dX7_rule_150 (fun x35 hx35 bx35 => ?_)
          refine z_iret rfl (by decide) rfl (Nat.sub_self _) dX7_rule_153 ?_
          refine ⟨rfl, ?_⟩
          first
          | (exfalso; omega)
          | (rw [if_neg (by omega)]
             first | (rw [if_pos (by omega)]; first | done | omega) | (rw [if_neg (by omega), if_pos (by omega)]; first | done | omega) | (rw [if_neg (by omega), if_neg (by omega), if_pos (by omega)]; first | done | omega) | (rw [if_neg (by omega), if_neg (by omega), if_neg (by omega), if_pos (by omega)]; first | done | omega) | (rw [if_neg (by omega), if_neg (by omega), if_neg (by omega), if_neg (by omega), if_pos (by omega)]; first | done | omega) | (rw [if_neg (by omega), if_neg (by omega), if_neg (by omega), if_neg (by omega), if_neg (by omega), if_pos (by omega)]; first | done | omega) | (rw [if_neg (by omega), if_neg (by omega), if_neg (by omega), if_neg (by omega), if_neg (by omega), if_neg (by omega), if_pos (by omega)]; first | done | omega) | (rw [if_neg (by omega), if_neg (by omega), if_neg (by omega), if_neg (by omega), if_neg (by omega), if_neg (by omega), if_neg (by omega), if_pos (by omega)]; first | done | omega) | (rw [if_neg (by omega), if_neg (by omega), if_neg (by omega), if_neg (by omega), if_neg (by omega), if_neg (by omega), if_neg (by omega), if_neg (by omega)]; first | done | omega))
        refine z_tableOut (tgt := 154) dX7_rule_33 (by omega) (by decide) ?_
        refine z_ldc (c := -1000002) cn_X7_87 ⟨by decide, by decide⟩ dX7_rule_154 ?_
        refine z_iret rfl (by decide) rfl (Nat.sub_self _) dX7_rule_156 ?_
        refine ⟨rfl, ?_⟩
        first
        | (exfalso; omega)
        | (rw [if_neg (by omega)]
           first | (rw [if_pos (by omega)]; first | done | omega) | (rw [if_neg (by omega), if_pos (by omega)]; first | done | omega) | (rw [if_neg (by omega), if_neg (by omega), if_pos (by omega)]; first | done | omega) | (rw [if_neg (by omega), if_neg (by omega), if_neg (by omega), if_pos (by omega)]; first | done | omega) | (rw [if_neg (by omega), if_neg (by omega), if_neg (by omega), if_neg (by omega), if_pos (by omega)]; first | done | omega) | (rw [if_neg (by omega), if_neg (by omega), if_neg (by omega), if_neg (by omega), if_neg (by omega), if_pos (by omega)]; first | done | omega) | (rw [if_neg (by omega), if_neg (by omega), if_neg (by omega), if_neg (by omega), if_neg (by omega), if_neg (by omega), if_pos (by omega)]; first | done | omega) | (rw [if_neg (by omega), if_neg (by omega), if_neg (by omega), if_neg (by omega), if_neg (by omega), if_neg (by omega), if_neg (by omega), if_pos (by omega)]; first | done | omega) | (rw [if_neg (by omega), if_neg (by omega), if_neg (by omega), if_neg (by omega), if_neg (by omega), if_neg (by omega), if_neg (by omega), if_neg (by omega)]; first | done | omega))
      · refine z_iload_n dX7_rule_22 rfl ?_
        refine z_callSip (n2 := 93) (A_X7_isList l g M i) cb_X7_isList cl_X7_72 (clr0 rfl rfl (by decide) (by decide)) rfl (by decide) rfl (Nat.le_of_ble_eq_true rfl) rfl dX7_rule_23 (fun x36 bx36 hx36 => ?_)
        have i36 := if01 hx36
        refine z_if_ne (tgt := 32) dX7_rule_26 (by decide) (fun c37 => ?_) (fun c37 => ?_)
        · refine z_iload_n dX7_rule_32 rfl ?_
          by_cases s38_0 : what = 0
          · refine z_tableIn (tgt := 80) dX7_rule_33 (by omega) (by omega) (by rw [s38_0]; rfl) (by decide) ?_
            refine z_aload_nr dX7_rule_80 rfl ?_
            refine z_getv (b := 51) (kz := 6) fl_X7_54 rfl (by decide) rfl (fun _ => hT) dX7_rule_81 ?_
            refine z_getr (b := 52) fl_X7_186 rfl (by decide) rf_51_0 rfl dX7_rule_84 ?_
            refine z_iload_n dX7_rule_87 rfl ?_
            refine z_iald rfl (by decide) (by omega) (by omega) dX7_rule_88 (fun x39 hx39 bx39 => ?_)
            refine z_iret rfl (by decide) rfl (Nat.sub_self _) dX7_rule_89 ?_
            refine ⟨rfl, ?_⟩
            first
            | (exfalso; omega)
            | (rw [if_neg (by omega)]
               first | (rw [if_pos (by omega)]; first | done | omega) | (rw [if_neg (by omega), if_pos (by omega)]; first | done | omega) | (rw [if_neg (by omega), if_neg (by omega), if_pos (by omega)]; first | done | omega) | (rw [if_neg (by omega), if_neg (by omega), if_neg (by omega), if_pos (by omega)]; first | done | omega) | (rw [if_neg (by omega), if_neg (by omega), if_neg (by omega), if_neg (by omega), if_pos (by omega)]; first | done | omega) | (rw [if_neg (by omega), if_neg (by omega), if_neg (by omega), if_neg (by omega), if_neg (by omega), if_pos (by omega)]; first | done | omega) | (rw [if_neg (by omega), if_neg (by omega), if_neg (by omega), if_neg (by omega), if_neg (by omega), if_neg (by omega), if_pos (by omega)]; first | done | omega) | (rw [if_neg (by omega), if_neg (by omega), if_neg (by omega), if_neg (by omega), if_neg (by omega), if_neg (by omega), if_neg (by omega), if_pos (by omega)]; first | done | omega) | (rw [if_neg (by omega), if_neg (by omega), if_neg (by omega), if_neg (by omega), if_neg (by omega), if_neg (by omega), if_neg (by omega), if_neg (by omega)]; first | done | omega))
          by_cases s38_1 : what = 1
          · refine z_tableIn (tgt := 90) dX7_rule_33 (by omega) (by omega) (by rw [s38_1]; rfl) (by decide) ?_
            refine z_aload_nr dX7_rule_90 rfl ?_
            refine z_getv (b := 51) (kz := 6) fl_X7_54 rfl (by decide) rfl (fun _ => hT) dX7_rule_91 ?_
            refine z_getr (b := 53) fl_X7_189 rfl (by decide) rf_51_1 rfl dX7_rule_94 ?_
            refine z_iload_n dX7_rule_97 rfl ?_
            refine z_iald rfl (by decide) (by omega) (by omega) dX7_rule_98 (fun x40 hx40 bx40 => ?_)
            refine z_iret rfl (by decide) rfl (Nat.sub_self _) dX7_rule_99 ?_
            refine ⟨rfl, ?_⟩
            first
            | (exfalso; omega)
            | (rw [if_neg (by omega)]
               first | (rw [if_pos (by omega)]; first | done | omega) | (rw [if_neg (by omega), if_pos (by omega)]; first | done | omega) | (rw [if_neg (by omega), if_neg (by omega), if_pos (by omega)]; first | done | omega) | (rw [if_neg (by omega), if_neg (by omega), if_neg (by omega), if_pos (by omega)]; first | done | omega) | (rw [if_neg (by omega), if_neg (by omega), if_neg (by omega), if_neg (by omega), if_pos (by omega)]; first | done | omega) | (rw [if_neg (by omega), if_neg (by omega), if_neg (by omega), if_neg (by omega), if_neg (by omega), if_pos (by omega)]; first | done | omega) | (rw [if_neg (by omega), if_neg (by omega), if_neg (by omega), if_neg (by omega), if_neg (by omega), if_neg (by omega), if_pos (by omega)]; first | done | omega) | (rw [if_neg (by omega), if_neg (by omega), if_neg (by omega), if_neg (by omega), if_neg (by omega), if_neg (by omega), if_neg (by omega), if_pos (by omega)]; first | done | omega) | (rw [if_neg (by omega), if_neg (by omega), if_neg (by omega), if_neg (by omega), if_neg (by omega), if_neg (by omega), if_neg (by omega), if_neg (by omega)]; first | done | omega))
          by_cases s38_2 : what = 2
          · refine z_tableIn (tgt := 100) dX7_rule_33 (by omega) (by omega) (by rw [s38_2]; rfl) (by decide) ?_
            refine z_aload_nr dX7_rule_100 rfl ?_
            refine z_getv (b := 51) (kz := 6) fl_X7_54 rfl (by decide) rfl (fun _ => hT) dX7_rule_101 ?_
            refine z_getr (b := 54) fl_X7_192 rfl (by decide) rf_51_2 rfl dX7_rule_104 ?_
            refine z_iload_n dX7_rule_107 rfl ?_
            refine z_iald rfl (by decide) (by omega) (by omega) dX7_rule_108 (fun x41 hx41 bx41 => ?_)
            refine z_iret rfl (by decide) rfl (Nat.sub_self _) dX7_rule_109 ?_
            refine ⟨rfl, ?_⟩
            first
            | (exfalso; omega)
            | (rw [if_neg (by omega)]
               first | (rw [if_pos (by omega)]; first | done | omega) | (rw [if_neg (by omega), if_pos (by omega)]; first | done | omega) | (rw [if_neg (by omega), if_neg (by omega), if_pos (by omega)]; first | done | omega) | (rw [if_neg (by omega), if_neg (by omega), if_neg (by omega), if_pos (by omega)]; first | done | omega) | (rw [if_neg (by omega), if_neg (by omega), if_neg (by omega), if_neg (by omega), if_pos (by omega)]; first | done | omega) | (rw [if_neg (by omega), if_neg (by omega), if_neg (by omega), if_neg (by omega), if_neg (by omega), if_pos (by omega)]; first | done | omega) | (rw [if_neg (by omega), if_neg (by omega), if_neg (by omega), if_neg (by omega), if_neg (by omega), if_neg (by omega), if_pos (by omega)]; first | done | omega) | (rw [if_neg (by omega), if_neg (by omega), if_neg (by omega), if_neg (by omega), if_neg (by omega), if_neg (by omega), if_neg (by omega), if_pos (by omega)]; first | done | omega) | (rw [if_neg (by omega), if_neg (by omega), if_neg (by omega), if_neg (by omega), if_neg (by omega), if_neg (by omega), if_neg (by omega), if_neg (by omega)]; first | done | omega))
          by_cases s38_3 : what = 3
          · refine z_tableIn (tgt := 110) dX7_rule_33 (by omega) (by omega) (by rw [s38_3]; rfl) (by decide) ?_
            refine z_aload_nr dX7_rule_110 rfl ?_
            refine z_getv (b := 51) (kz := 6) fl_X7_54 rfl (by decide) rfl (fun _ => hT) dX7_rule_111 ?_
            refine z_getr (b := 55) fl_X7_195 rfl (by decide) rf_51_3 rfl dX7_rule_114 ?_
            refine z_iload_n dX7_rule_117 rfl ?_
            refine z_iald rfl (by decide) (by omega) (by omega) dX7_rule_118 (fun x42 hx42 bx42 => ?_)
            refine z_iret rfl (by decide) rfl (Nat.sub_self _) dX7_rule_119 ?_
            refine ⟨rfl, ?_⟩
            first
            | (exfalso; omega)
            | (rw [if_neg (by omega)]
               first | (rw [if_pos (by omega)]; first | done | omega) | (rw [if_neg (by omega), if_pos (by omega)]; first | done | omega) | (rw [if_neg (by omega), if_neg (by omega), if_pos (by omega)]; first | done | omega) | (rw [if_neg (by omega), if_neg (by omega), if_neg (by omega), if_pos (by omega)]; first | done | omega) | (rw [if_neg (by omega), if_neg (by omega), if_neg (by omega), if_neg (by omega), if_pos (by omega)]; first | done | omega) | (rw [if_neg (by omega), if_neg (by omega), if_neg (by omega), if_neg (by omega), if_neg (by omega), if_pos (by omega)]; first | done | omega) | (rw [if_neg (by omega), if_neg (by omega), if_neg (by omega), if_neg (by omega), if_neg (by omega), if_neg (by omega), if_pos (by omega)]; first | done | omega) | (rw [if_neg (by omega), if_neg (by omega), if_neg (by omega), if_neg (by omega), if_neg (by omega), if_neg (by omega), if_neg (by omega), if_pos (by omega)]; first | done | omega) | (rw [if_neg (by omega), if_neg (by omega), if_neg (by omega), if_neg (by omega), if_neg (by omega), if_neg (by omega), if_neg (by omega), if_neg (by omega)]; first | done | omega))
          by_cases s38_4 : what = 4
          · refine z_tableIn (tgt := 120) dX7_rule_33 (by omega) (by omega) (by rw [s38_4]; rfl) (by decide) ?_
            refine z_aload_nr dX7_rule_120 rfl ?_
            refine z_getv (b := 51) (kz := 6) fl_X7_54 rfl (by decide) rfl (fun _ => hT) dX7_rule_121 ?_
            refine z_geti (kz := 5) fl_X7_198 rfl (by decide) rfl dX7_rule_124 (fun x43 hx43 bx43 => ?_)
            refine z_iret rfl (by decide) rfl (Nat.sub_self _) dX7_rule_127 ?_
            refine ⟨rfl, ?_⟩
            first
            | (exfalso; omega)
            | (rw [if_neg (by omega)]
               first | (rw [if_pos (by omega)]; first | done | omega) | (rw [if_neg (by omega), if_pos (by omega)]; first | done | omega) | (rw [if_neg (by omega), if_neg (by omega), if_pos (by omega)]; first | done | omega) | (rw [if_neg (by omega), if_neg (by omega), if_neg (by omega), if_pos (by omega)]; first | done | omega) | (rw [if_neg (by omega), if_neg (by omega), if_neg (by omega), if_neg (by omega), if_pos (by omega)]; first | done | omega) | (rw [if_neg (by omega), if_neg (by omega), if_neg (by omega), if_neg (by omega), if_neg (by omega), if_pos (by omega)]; first | done | omega) | (rw [if_neg (by omega), if_neg (by omega), if_neg (by omega), if_neg (by omega), if_neg (by omega), if_neg (by omega), if_pos (by omega)]; first | done | omega) | (rw [if_neg (by omega), if_neg (by omega), if_neg (by omega), if_neg (by omega), if_neg (by omega), if_neg (by omega), if_neg (by omega), if_pos (by omega)]; first | done | omega) | (rw [if_neg (by omega), if_neg (by omega), if_neg (by omega), if_neg (by omega), if_neg (by omega), if_neg (by omega), if_neg (by omega), if_neg (by omega)]; first | done | omega))
          by_cases s38_5 : what = 5
          · refine z_tableIn (tgt := 128) dX7_rule_33 (by omega) (by omega) (by rw [s38_5]; rfl) (by decide) ?_
            refine z_aload_nr dX7_rule_128 rfl ?_
            refine z_getv (b := 51) (kz := 6) fl_X7_54 rfl (by decide) rfl (fun _ => hT) dX7_rule_129 ?_
            refine z_geti (kz := 6) fl_X7_201 rfl (by decide) rfl dX7_rule_132 (fun x44 hx44 bx44 => ?_)
            refine z_iret rfl (by decide) rfl (Nat.sub_self _) dX7_rule_135 ?_
            refine ⟨rfl, ?_⟩
            first
            | (exfalso; omega)
            | (rw [if_neg (by omega)]
               first | (rw [if_pos (by omega)]; first | done | omega) | (rw [if_neg (by omega), if_pos (by omega)]; first | done | omega) | (rw [if_neg (by omega), if_neg (by omega), if_pos (by omega)]; first | done | omega) | (rw [if_neg (by omega), if_neg (by omega), if_neg (by omega), if_pos (by omega)]; first | done | omega) | (rw [if_neg (by omega), if_neg (by omega), if_neg (by omega), if_neg (by omega), if_pos (by omega)]; first | done | omega) | (rw [if_neg (by omega), if_neg (by omega), if_neg (by omega), if_neg (by omega), if_neg (by omega), if_pos (by omega)]; first | done | omega) | (rw [if_neg (by omega), if_neg (by omega), if_neg (by omega), if_neg (by omega), if_neg (by omega), if_neg (by omega), if_pos (by omega)]; first | done | omega) | (rw [if_neg (by omega), if_neg (by omega), if_neg (by omega), if_neg (by omega), if_neg (by omega), if_neg (by omega), if_neg (by omega), if_pos (by omega)]; first | done | omega) | (rw [if_neg (by omega), if_neg (by omega), if_neg (by omega), if_neg (by omega), if_neg (by omega), if_neg (by omega), if_neg (by omega), if_neg (by omega)]; first | done | omega))
          by_cases s38_6 : what = 6
          · refine z_tableIn (tgt := 136) dX7_rule_33 (by omega) (by omega) (by rw [s38_6]; rfl) (by decide) ?_
            refine z_aload_nr dX7_rule_136 rfl ?_
            refine z_getv (b := 51) (kz := 6) fl_X7_54 rfl (by decide) rfl (fun _ => hT) dX7_rule_137 ?_
            refine z_getr (b := 56) fl_X7_204 rfl (by decide) rf_51_4 rfl dX7_rule_140 ?_
            refine z_iload_n dX7_rule_143 rfl ?_
            refine z_iald rfl (by decide) (by omega) (by omega) dX7_rule_144 (fun x45 hx45 bx45 => ?_)
            refine z_iret rfl (by decide) rfl (Nat.sub_self _) dX7_rule_145 ?_
            refine ⟨rfl, ?_⟩
            first
            | (exfalso; omega)
            | (rw [if_neg (by omega)]
               first | (rw [if_pos (by omega)]; first | done | omega) | (rw [if_neg (by omega), if_pos (by omega)]; first | done | omega) | (rw [if_neg (by omega), if_neg (by omega), if_pos (by omega)]; first | done | omega) | (rw [if_neg (by omega), if_neg (by omega), if_neg (by omega), if_pos (by omega)]; first | done | omega) | (rw [if_neg (by omega), if_neg (by omega), if_neg (by omega), if_neg (by omega), if_pos (by omega)]; first | done | omega) | (rw [if_neg (by omega), if_neg (by omega), if_neg (by omega), if_neg (by omega), if_neg (by omega), if_pos (by omega)]; first | done | omega) | (rw [if_neg (by omega), if_neg (by omega), if_neg (by omega), if_neg (by omega), if_neg (by omega), if_neg (by omega), if_pos (by omega)]; first | done | omega) | (rw [if_neg (by omega), if_neg (by omega), if_neg (by omega), if_neg (by omega), if_neg (by omega), if_neg (by omega), if_neg (by omega), if_pos (by omega)]; first | done | omega) | (rw [if_neg (by omega), if_neg (by omega), if_neg (by omega), if_neg (by omega), if_neg (by omega), if_neg (by omega), if_neg (by omega), if_neg (by omega)]; first | done | omega))
          by_cases s38_7 : what = 7
          · refine z_tableIn (tgt := 146) dX7_rule_33 (by omega) (by omega) (by rw [s38_7]; rfl) (by decide) ?_
            refine z_aload_nr dX7_rule_146 rfl ?_
            refine z_getv (b := 51) (kz := 6) fl_X7_54 rfl (by decide) rfl (fun _ => hT) dX7_rule_147 ?_
            refine z_geti (kz := 7) fl_X7_207 rfl (by decide) rfl dX7_rule_150 (fun x46 hx46 bx46 => ?_)
            refine z_iret rfl (by decide) rfl (Nat.sub_self _) dX7_rule_153 ?_
            refine ⟨rfl, ?_⟩
            first
            | (exfalso; omega)
            | (rw [if_neg (by omega)]
               first | (rw [if_pos (by omega)]; first | done | omega) | (rw [if_neg (by omega), if_pos (by omega)]; first | done | omega) | (rw [if_neg (by omega), if_neg (by omega), if_pos (by omega)]; first | done | omega) | (rw [if_neg (by omega), if_neg (by omega), if_neg (by omega), if_pos (by omega)]; first | done | omega) | (rw [if_neg (by omega), if_neg (by omega), if_neg (by omega), if_neg (by omega), if_pos (by omega)]; first | done | omega) | (rw [if_neg (by omega), if_neg (by omega), if_neg (by omega), if_neg (by omega), if_neg (by omega), if_pos (by omega)]; first | done | omega) | (rw [if_neg (by omega), if_neg (by omega), if_neg (by omega), if_neg (by omega), if_neg (by omega), if_neg (by omega), if_pos (by omega)]; first | done | omega) | (rw [if_neg (by omega), if_neg (by omega), if_neg (by omega), if_neg (by omega), if_neg (by omega), if_neg (by omega), if_neg (by omega), if_pos (by omega)]; first | done | omega) | (rw [if_neg (by omega), if_neg (by omega), if_neg (by omega), if_neg (by omega), if_neg (by omega), if_neg (by omega), if_neg (by omega), if_neg (by omega)]; first | done | omega))
          refine z_tableOut (tgt := 154) dX7_rule_33 (by omega) (by decide) ?_
          refine z_ldc (c := -1000002) cn_X7_87 ⟨by decide, by decide⟩ dX7_rule_154 ?_
          refine z_iret rfl (by decide) rfl (Nat.sub_self _) dX7_rule_156 ?_
          refine ⟨rfl, ?_⟩
          first
          | (exfalso; omega)
          | (rw [if_neg (by omega)]
             first | (rw [if_pos (by omega)]; first | done | omega) | (rw [if_neg (by omega), if_pos (by omega)]; first | done | omega) | (rw [if_neg (by omega), if_neg (by omega), if_pos (by omega)]; first | done | omega) | (rw [if_neg (by omega), if_neg (by omega), if_neg (by omega), if_pos (by omega)]; first | done | omega) | (rw [if_neg (by omega), if_neg (by omega), if_neg (by omega), if_neg (by omega), if_pos (by omega)]; first | done | omega) | (rw [if_neg (by omega), if_neg (by omega), if_neg (by omega), if_neg (by omega), if_neg (by omega), if_pos (by omega)]; first | done | omega) | (rw [if_neg (by omega), if_neg (by omega), if_neg (by omega), if_neg (by omega), if_neg (by omega), if_neg (by omega), if_pos (by omega)]; first | done | omega) | (rw [if_neg (by omega), if_neg (by omega), if_neg (by omega), if_neg (by omega), if_neg (by omega), if_neg (by omega), if_neg (by omega), if_pos (by omega)]; first | done | omega) | (rw [if_neg (by omega), if_neg (by omega), if_neg (by omega), if_neg (by omega), if_neg (by omega), if_neg (by omega), if_neg (by omega), if_neg (by omega)]; first | done | omega))
        · refine z_ldc (c := -1000001) cn_X7_82 ⟨by decide, by decide⟩ dX7_rule_29 ?_
          refine z_iret rfl (by decide) rfl (Nat.sub_self _) dX7_rule_31 ?_
          refine ⟨rfl, ?_⟩
          rw [if_pos (by omega)]
set_option maxHeartbeats 400000 in
theorem A_X7_blind (l : Launch) (g : Cx) (M : FMem) (v : Int) : AMi l g true fi_X7_blind [fr 0, fi v] 93 M (fun q M2 => if ¬ (-999 ≤ v ∧ v ≤ 999) then q = -1000002 ∧ M2 = M else if M 0 9 ≠ 0 then q = -1000003 ∧ M2 = M else q = 1 ∧ M2 = st (st (st M 0 8 v) 0 9 1) 0 10 1) := by
  refine AMi_intro [fr 0, fi v] (by decide) (knall rfl) (Nat.le_of_ble_eq_true rfl) rfl ?_
  intro hNV hM0 μ
  have bv : N32 v := hNV (fi v) (by simp)
  refine z_iload_n dX7_blind_0 rfl ?_
  refine z_sipush dX7_blind_1 ⟨by decide, by decide⟩ (by decide) ?_
  refine z_sipush dX7_blind_4 ⟨by decide, by decide⟩ (by decide) ?_
  refine z_callSip (n2 := 93) (A_X7_isFrom l g M v (-999) 999) cb_X7_isFrom cl_X7_83 (clr0 rfl rfl (by decide) (by decide)) rfl (by decide) rfl (Nat.le_of_ble_eq_true rfl) rfl dX7_blind_7 (fun x1 bx1 hx1 => ?_)
  have i1 := if01 hx1
  refine z_if_ne (tgt := 16) dX7_blind_10 (by decide) (fun c2 => ?_) (fun c2 => ?_)
  · refine z_aload_nr dX7_blind_16 rfl ?_
    refine z_getz (kz := 9) fl_X7_65 rfl (by decide) rfl dX7_blind_17 (fun x3 hx3 bx3 => ?_)
    refine z_if_eq (tgt := 26) dX7_blind_20 (by decide) (fun c4 => ?_) (fun c4 => ?_)
    · refine z_aload_nr dX7_blind_26 rfl ?_
      refine z_iload_n dX7_blind_27 rfl ?_
      refine z_puti (kz := 8) fl_X7_61 rfl (by decide) rfl nr_0_8 dX7_blind_28 (fun Mz5 hMz5 => ?_)
      refine z_aload_nr dX7_blind_31 rfl ?_
      refine z_iconst dX7_blind_32 ⟨by decide, by decide⟩ ?_
      refine z_putz (kz := 9) fl_X7_65 rfl (by decide) rfl (by omega) nr_0_9 dX7_blind_33 (fun Mz6 hMz6 => ?_)
      refine z_aload_nr dX7_blind_36 rfl ?_
      refine z_iconst dX7_blind_37 ⟨by decide, by decide⟩ ?_
      refine z_putz (kz := 10) fl_X7_69 rfl (by decide) rfl (by omega) nr_0_10 dX7_blind_38 (fun Mz7 hMz7 => ?_)
      refine z_iconst dX7_blind_41 ⟨by decide, by decide⟩ ?_
      refine z_iret rfl (by decide) rfl (Nat.sub_self _) dX7_blind_42 ?_
      rw [if_neg (by omega), if_neg (by omega)]
      subst_vars
      exact ⟨rfl, rfl⟩
    · refine z_ldc (c := -1000003) cn_X7_131 ⟨by decide, by decide⟩ dX7_blind_23 ?_
      refine z_iret rfl (by decide) rfl (Nat.sub_self _) dX7_blind_25 ?_
      rw [if_neg (by omega), if_pos (by omega)]
      exact ⟨rfl, rfl⟩
  · refine z_ldc (c := -1000002) cn_X7_87 ⟨by decide, by decide⟩ dX7_blind_13 ?_
    refine z_iret rfl (by decide) rfl (Nat.sub_self _) dX7_blind_15 ?_
    rw [if_pos (by omega)]
    exact ⟨rfl, rfl⟩
set_option maxHeartbeats 400000 in
theorem A_X7_open (l : Launch) (g : Cx) (M : FMem)  : AMi l g true fi_X7_open [fr 0] 93 M (fun q M2 => if M 0 10 = 0 then q = -1000003 ∧ M2 = M else q = M 0 8 ∧ M2 = st M 0 10 0) := by
  refine AMi_intro [fr 0] (by decide) (knall rfl) (Nat.le_of_ble_eq_true rfl) rfl ?_
  intro hNV hM0 μ
  refine z_aload_nr dX7_open_0 rfl ?_
  refine z_getz (kz := 10) fl_X7_69 rfl (by decide) rfl dX7_open_1 (fun x1 hx1 bx1 => ?_)
  refine z_if_ne (tgt := 10) dX7_open_4 (by decide) (fun c2 => ?_) (fun c2 => ?_)
  · refine z_aload_nr dX7_open_10 rfl ?_
    refine z_iconst dX7_open_11 ⟨by decide, by decide⟩ ?_
    refine z_putz (kz := 10) fl_X7_69 rfl (by decide) rfl (by omega) nr_0_10 dX7_open_12 (fun Mz3 hMz3 => ?_)
    refine z_aload_nr dX7_open_15 rfl ?_
    refine z_geti (kz := 8) fl_X7_61 rfl (by decide) rfl dX7_open_16 (fun x4 hx4 bx4 => ?_)
    rw [hMz3, st_at, if_neg (by decide)] at hx4
    refine z_iret rfl (by decide) rfl (Nat.sub_self _) dX7_open_19 ?_
    rw [if_neg (by omega)]
    subst_vars
    exact ⟨rfl, rfl⟩
  · refine z_ldc (c := -1000003) cn_X7_131 ⟨by decide, by decide⟩ dX7_open_7 ?_
    refine z_iret rfl (by decide) rfl (Nat.sub_self _) dX7_open_9 ?_
    rw [if_pos (by omega)]
    exact ⟨rfl, rfl⟩
