/-! ===== the reference: far, boxes, delay ===== -/
set_option maxHeartbeats 400000 in
theorem A_X8_lowTable (l : Launch) (g : Cx) (M : FMem) (k : Int) (hk : 0 ≤ k ∧ k < 25) : AMi l g true fi_X8_lowTable [fi k] 93 M (fun r M2 => M2 = M ∧ (fun r => r = tabV k) r) := by
  refine AMi_intro [fi k] (by decide) (knall rfl) (Nat.le_of_ble_eq_true rfl) rfl ?_
  intro hNV hM0 μ
  have bk : N32 k := hNV (fi k) (by simp)
  refine z_iload_n dX8_lowTable_0 rfl ?_
  by_cases s1_0 : k = 0
  · refine z_tableIn (tgt := 112) dX8_lowTable_1 (by omega) (by omega) (by rw [s1_0]; rfl) (by decide) ?_
    refine z_sipush dX8_lowTable_112 ⟨by decide, by decide⟩ (by decide) ?_
    refine z_iret rfl (by decide) rfl (Nat.sub_self _) dX8_lowTable_115 ?_
    refine ⟨rfl, ?_⟩
    rw [show k = 0 by omega]
    rfl
  by_cases s1_1 : k = 1
  · refine z_tableIn (tgt := 116) dX8_lowTable_1 (by omega) (by omega) (by rw [s1_1]; rfl) (by decide) ?_
    refine z_sipush dX8_lowTable_116 ⟨by decide, by decide⟩ (by decide) ?_
    refine z_iret rfl (by decide) rfl (Nat.sub_self _) dX8_lowTable_119 ?_
    refine ⟨rfl, ?_⟩
    rw [show k = 1 by omega]
    rfl
  by_cases s1_2 : k = 2
  · refine z_tableIn (tgt := 120) dX8_lowTable_1 (by omega) (by omega) (by rw [s1_2]; rfl) (by decide) ?_
    refine z_sipush dX8_lowTable_120 ⟨by decide, by decide⟩ (by decide) ?_
    refine z_iret rfl (by decide) rfl (Nat.sub_self _) dX8_lowTable_123 ?_
    refine ⟨rfl, ?_⟩
    rw [show k = 2 by omega]
    rfl
  by_cases s1_3 : k = 3
  · refine z_tableIn (tgt := 124) dX8_lowTable_1 (by omega) (by omega) (by rw [s1_3]; rfl) (by decide) ?_
    refine z_sipush dX8_lowTable_124 ⟨by decide, by decide⟩ (by decide) ?_
    refine z_iret rfl (by decide) rfl (Nat.sub_self _) dX8_lowTable_127 ?_
    refine ⟨rfl, ?_⟩
    rw [show k = 3 by omega]
    rfl
  by_cases s1_4 : k = 4
  · refine z_tableIn (tgt := 128) dX8_lowTable_1 (by omega) (by omega) (by rw [s1_4]; rfl) (by decide) ?_
    refine z_sipush dX8_lowTable_128 ⟨by decide, by decide⟩ (by decide) ?_
    refine z_iret rfl (by decide) rfl (Nat.sub_self _) dX8_lowTable_131 ?_
    refine ⟨rfl, ?_⟩
    rw [show k = 4 by omega]
    rfl
  by_cases s1_5 : k = 5
  · refine z_tableIn (tgt := 132) dX8_lowTable_1 (by omega) (by omega) (by rw [s1_5]; rfl) (by decide) ?_
    refine z_sipush dX8_lowTable_132 ⟨by decide, by decide⟩ (by decide) ?_
    refine z_iret rfl (by decide) rfl (Nat.sub_self _) dX8_lowTable_135 ?_
    refine ⟨rfl, ?_⟩
    rw [show k = 5 by omega]
    rfl
  by_cases s1_6 : k = 6
  · refine z_tableIn (tgt := 136) dX8_lowTable_1 (by omega) (by omega) (by rw [s1_6]; rfl) (by decide) ?_
    refine z_sipush dX8_lowTable_136 ⟨by decide, by decide⟩ (by decide) ?_
    refine z_iret rfl (by decide) rfl (Nat.sub_self _) dX8_lowTable_139 ?_
    refine ⟨rfl, ?_⟩
    rw [show k = 6 by omega]
    rfl
  by_cases s1_7 : k = 7
  · refine z_tableIn (tgt := 140) dX8_lowTable_1 (by omega) (by omega) (by rw [s1_7]; rfl) (by decide) ?_
    refine z_sipush dX8_lowTable_140 ⟨by decide, by decide⟩ (by decide) ?_
    refine z_iret rfl (by decide) rfl (Nat.sub_self _) dX8_lowTable_143 ?_
    refine ⟨rfl, ?_⟩
    rw [show k = 7 by omega]
    rfl
  by_cases s1_8 : k = 8
  · refine z_tableIn (tgt := 144) dX8_lowTable_1 (by omega) (by omega) (by rw [s1_8]; rfl) (by decide) ?_
    refine z_sipush dX8_lowTable_144 ⟨by decide, by decide⟩ (by decide) ?_
    refine z_iret rfl (by decide) rfl (Nat.sub_self _) dX8_lowTable_147 ?_
    refine ⟨rfl, ?_⟩
    rw [show k = 8 by omega]
    rfl
  by_cases s1_9 : k = 9
  · refine z_tableIn (tgt := 148) dX8_lowTable_1 (by omega) (by omega) (by rw [s1_9]; rfl) (by decide) ?_
    refine z_sipush dX8_lowTable_148 ⟨by decide, by decide⟩ (by decide) ?_
    refine z_iret rfl (by decide) rfl (Nat.sub_self _) dX8_lowTable_151 ?_
    refine ⟨rfl, ?_⟩
    rw [show k = 9 by omega]
    rfl
  by_cases s1_10 : k = 10
  · refine z_tableIn (tgt := 152) dX8_lowTable_1 (by omega) (by omega) (by rw [s1_10]; rfl) (by decide) ?_
    refine z_sipush dX8_lowTable_152 ⟨by decide, by decide⟩ (by decide) ?_
    refine z_iret rfl (by decide) rfl (Nat.sub_self _) dX8_lowTable_155 ?_
    refine ⟨rfl, ?_⟩
    rw [show k = 10 by omega]
    rfl
  by_cases s1_11 : k = 11
  · refine z_tableIn (tgt := 156) dX8_lowTable_1 (by omega) (by omega) (by rw [s1_11]; rfl) (by decide) ?_
    refine z_sipush dX8_lowTable_156 ⟨by decide, by decide⟩ (by decide) ?_
    refine z_iret rfl (by decide) rfl (Nat.sub_self _) dX8_lowTable_159 ?_
    refine ⟨rfl, ?_⟩
    rw [show k = 11 by omega]
    rfl
  by_cases s1_12 : k = 12
  · refine z_tableIn (tgt := 160) dX8_lowTable_1 (by omega) (by omega) (by rw [s1_12]; rfl) (by decide) ?_
    refine z_sipush dX8_lowTable_160 ⟨by decide, by decide⟩ (by decide) ?_
    refine z_iret rfl (by decide) rfl (Nat.sub_self _) dX8_lowTable_163 ?_
    refine ⟨rfl, ?_⟩
    rw [show k = 12 by omega]
    rfl
  by_cases s1_13 : k = 13
  · refine z_tableIn (tgt := 164) dX8_lowTable_1 (by omega) (by omega) (by rw [s1_13]; rfl) (by decide) ?_
    refine z_sipush dX8_lowTable_164 ⟨by decide, by decide⟩ (by decide) ?_
    refine z_iret rfl (by decide) rfl (Nat.sub_self _) dX8_lowTable_167 ?_
    refine ⟨rfl, ?_⟩
    rw [show k = 13 by omega]
    rfl
  by_cases s1_14 : k = 14
  · refine z_tableIn (tgt := 168) dX8_lowTable_1 (by omega) (by omega) (by rw [s1_14]; rfl) (by decide) ?_
    refine z_sipush dX8_lowTable_168 ⟨by decide, by decide⟩ (by decide) ?_
    refine z_iret rfl (by decide) rfl (Nat.sub_self _) dX8_lowTable_171 ?_
    refine ⟨rfl, ?_⟩
    rw [show k = 14 by omega]
    rfl
  by_cases s1_15 : k = 15
  · refine z_tableIn (tgt := 172) dX8_lowTable_1 (by omega) (by omega) (by rw [s1_15]; rfl) (by decide) ?_
    refine z_sipush dX8_lowTable_172 ⟨by decide, by decide⟩ (by decide) ?_
    refine z_iret rfl (by decide) rfl (Nat.sub_self _) dX8_lowTable_175 ?_
    refine ⟨rfl, ?_⟩
    rw [show k = 15 by omega]
    rfl
  by_cases s1_16 : k = 16
  · refine z_tableIn (tgt := 176) dX8_lowTable_1 (by omega) (by omega) (by rw [s1_16]; rfl) (by decide) ?_
    refine z_sipush dX8_lowTable_176 ⟨by decide, by decide⟩ (by decide) ?_
    refine z_iret rfl (by decide) rfl (Nat.sub_self _) dX8_lowTable_179 ?_
    refine ⟨rfl, ?_⟩
    rw [show k = 16 by omega]
    rfl
  by_cases s1_17 : k = 17
  · refine z_tableIn (tgt := 180) dX8_lowTable_1 (by omega) (by omega) (by rw [s1_17]; rfl) (by decide) ?_
    refine z_sipush dX8_lowTable_180 ⟨by decide, by decide⟩ (by decide) ?_
    refine z_iret rfl (by decide) rfl (Nat.sub_self _) dX8_lowTable_183 ?_
    refine ⟨rfl, ?_⟩
    rw [show k = 17 by omega]
    rfl
  by_cases s1_18 : k = 18
  · refine z_tableIn (tgt := 184) dX8_lowTable_1 (by omega) (by omega) (by rw [s1_18]; rfl) (by decide) ?_
    refine z_sipush dX8_lowTable_184 ⟨by decide, by decide⟩ (by decide) ?_
    refine z_iret rfl (by decide) rfl (Nat.sub_self _) dX8_lowTable_187 ?_
    refine ⟨rfl, ?_⟩
    rw [show k = 18 by omega]
    rfl
  by_cases s1_19 : k = 19
  · refine z_tableIn (tgt := 188) dX8_lowTable_1 (by omega) (by omega) (by rw [s1_19]; rfl) (by decide) ?_
    refine z_sipush dX8_lowTable_188 ⟨by decide, by decide⟩ (by decide) ?_
    refine z_iret rfl (by decide) rfl (Nat.sub_self _) dX8_lowTable_191 ?_
    refine ⟨rfl, ?_⟩
    rw [show k = 19 by omega]
    rfl
  by_cases s1_20 : k = 20
  · refine z_tableIn (tgt := 192) dX8_lowTable_1 (by omega) (by omega) (by rw [s1_20]; rfl) (by decide) ?_
    refine z_sipush dX8_lowTable_192 ⟨by decide, by decide⟩ (by decide) ?_
    refine z_iret rfl (by decide) rfl (Nat.sub_self _) dX8_lowTable_195 ?_
    refine ⟨rfl, ?_⟩
    rw [show k = 20 by omega]
    rfl
  by_cases s1_21 : k = 21
  · refine z_tableIn (tgt := 196) dX8_lowTable_1 (by omega) (by omega) (by rw [s1_21]; rfl) (by decide) ?_
    refine z_sipush dX8_lowTable_196 ⟨by decide, by decide⟩ (by decide) ?_
    refine z_iret rfl (by decide) rfl (Nat.sub_self _) dX8_lowTable_199 ?_
    refine ⟨rfl, ?_⟩
    rw [show k = 21 by omega]
    rfl
  by_cases s1_22 : k = 22
  · refine z_tableIn (tgt := 200) dX8_lowTable_1 (by omega) (by omega) (by rw [s1_22]; rfl) (by decide) ?_
    refine z_sipush dX8_lowTable_200 ⟨by decide, by decide⟩ (by decide) ?_
    refine z_iret rfl (by decide) rfl (Nat.sub_self _) dX8_lowTable_203 ?_
    refine ⟨rfl, ?_⟩
    rw [show k = 22 by omega]
    rfl
  by_cases s1_23 : k = 23
  · refine z_tableIn (tgt := 204) dX8_lowTable_1 (by omega) (by omega) (by rw [s1_23]; rfl) (by decide) ?_
    refine z_sipush dX8_lowTable_204 ⟨by decide, by decide⟩ (by decide) ?_
    refine z_iret rfl (by decide) rfl (Nat.sub_self _) dX8_lowTable_207 ?_
    refine ⟨rfl, ?_⟩
    rw [show k = 23 by omega]
    rfl
  refine z_tableOut (tgt := 208) dX8_lowTable_1 (by omega) (by decide) ?_
  refine z_sipush dX8_lowTable_208 ⟨by decide, by decide⟩ (by decide) ?_
  refine z_iret rfl (by decide) rfl (Nat.sub_self _) dX8_lowTable_211 ?_
  refine ⟨rfl, ?_⟩
  rw [show k = 24 by omega]
  rfl
set_option maxHeartbeats 400000 in
theorem A_X8_highTable (l : Launch) (g : Cx) (M : FMem) (k : Int) (hk : 25 ≤ k ∧ k ≤ 50) : AMi l g true fi_X8_highTable [fi k] 93 M (fun r M2 => M2 = M ∧ (fun r => r = if k = 50 then 9549 else tabV k) r) := by
  refine AMi_intro [fi k] (by decide) (knall rfl) (Nat.le_of_ble_eq_true rfl) rfl ?_
  intro hNV hM0 μ
  have bk : N32 k := hNV (fi k) (by simp)
  refine z_iload_n dX8_highTable_0 rfl ?_
  by_cases s1_25 : k = 25
  · refine z_tableIn (tgt := 112) dX8_highTable_1 (by omega) (by omega) (by rw [s1_25]; rfl) (by decide) ?_
    refine z_sipush dX8_highTable_112 ⟨by decide, by decide⟩ (by decide) ?_
    refine z_iret rfl (by decide) rfl (Nat.sub_self _) dX8_highTable_115 ?_
    refine ⟨rfl, ?_⟩
    rw [show k = 25 by omega]
    rfl
  by_cases s1_26 : k = 26
  · refine z_tableIn (tgt := 116) dX8_highTable_1 (by omega) (by omega) (by rw [s1_26]; rfl) (by decide) ?_
    refine z_sipush dX8_highTable_116 ⟨by decide, by decide⟩ (by decide) ?_
    refine z_iret rfl (by decide) rfl (Nat.sub_self _) dX8_highTable_119 ?_
    refine ⟨rfl, ?_⟩
    rw [show k = 26 by omega]
    rfl
  by_cases s1_27 : k = 27
  · refine z_tableIn (tgt := 120) dX8_highTable_1 (by omega) (by omega) (by rw [s1_27]; rfl) (by decide) ?_
    refine z_sipush dX8_highTable_120 ⟨by decide, by decide⟩ (by decide) ?_
    refine z_iret rfl (by decide) rfl (Nat.sub_self _) dX8_highTable_123 ?_
    refine ⟨rfl, ?_⟩
    rw [show k = 27 by omega]
    rfl
  by_cases s1_28 : k = 28
  · refine z_tableIn (tgt := 124) dX8_highTable_1 (by omega) (by omega) (by rw [s1_28]; rfl) (by decide) ?_
    refine z_sipush dX8_highTable_124 ⟨by decide, by decide⟩ (by decide) ?_
    refine z_iret rfl (by decide) rfl (Nat.sub_self _) dX8_highTable_127 ?_
    refine ⟨rfl, ?_⟩
    rw [show k = 28 by omega]
    rfl
  by_cases s1_29 : k = 29
  · refine z_tableIn (tgt := 128) dX8_highTable_1 (by omega) (by omega) (by rw [s1_29]; rfl) (by decide) ?_
    refine z_sipush dX8_highTable_128 ⟨by decide, by decide⟩ (by decide) ?_
    refine z_iret rfl (by decide) rfl (Nat.sub_self _) dX8_highTable_131 ?_
    refine ⟨rfl, ?_⟩
    rw [show k = 29 by omega]
    rfl
  by_cases s1_30 : k = 30
  · refine z_tableIn (tgt := 132) dX8_highTable_1 (by omega) (by omega) (by rw [s1_30]; rfl) (by decide) ?_
    refine z_sipush dX8_highTable_132 ⟨by decide, by decide⟩ (by decide) ?_
    refine z_iret rfl (by decide) rfl (Nat.sub_self _) dX8_highTable_135 ?_
    refine ⟨rfl, ?_⟩
    rw [show k = 30 by omega]
    rfl
  by_cases s1_31 : k = 31
  · refine z_tableIn (tgt := 136) dX8_highTable_1 (by omega) (by omega) (by rw [s1_31]; rfl) (by decide) ?_
    refine z_sipush dX8_highTable_136 ⟨by decide, by decide⟩ (by decide) ?_
    refine z_iret rfl (by decide) rfl (Nat.sub_self _) dX8_highTable_139 ?_
    refine ⟨rfl, ?_⟩
    rw [show k = 31 by omega]
    rfl
  by_cases s1_32 : k = 32
  · refine z_tableIn (tgt := 140) dX8_highTable_1 (by omega) (by omega) (by rw [s1_32]; rfl) (by decide) ?_
    refine z_sipush dX8_highTable_140 ⟨by decide, by decide⟩ (by decide) ?_
    refine z_iret rfl (by decide) rfl (Nat.sub_self _) dX8_highTable_143 ?_
    refine ⟨rfl, ?_⟩
    rw [show k = 32 by omega]
    rfl
  by_cases s1_33 : k = 33
  · refine z_tableIn (tgt := 144) dX8_highTable_1 (by omega) (by omega) (by rw [s1_33]; rfl) (by decide) ?_
    refine z_sipush dX8_highTable_144 ⟨by decide, by decide⟩ (by decide) ?_
    refine z_iret rfl (by decide) rfl (Nat.sub_self _) dX8_highTable_147 ?_
    refine ⟨rfl, ?_⟩
    rw [show k = 33 by omega]
    rfl
  by_cases s1_34 : k = 34
  · refine z_tableIn (tgt := 148) dX8_highTable_1 (by omega) (by omega) (by rw [s1_34]; rfl) (by decide) ?_
    refine z_sipush dX8_highTable_148 ⟨by decide, by decide⟩ (by decide) ?_
    refine z_iret rfl (by decide) rfl (Nat.sub_self _) dX8_highTable_151 ?_
    refine ⟨rfl, ?_⟩
    rw [show k = 34 by omega]
    rfl
  by_cases s1_35 : k = 35
  · refine z_tableIn (tgt := 152) dX8_highTable_1 (by omega) (by omega) (by rw [s1_35]; rfl) (by decide) ?_
    refine z_sipush dX8_highTable_152 ⟨by decide, by decide⟩ (by decide) ?_
    refine z_iret rfl (by decide) rfl (Nat.sub_self _) dX8_highTable_155 ?_
    refine ⟨rfl, ?_⟩
    rw [show k = 35 by omega]
    rfl
  by_cases s1_36 : k = 36
  · refine z_tableIn (tgt := 156) dX8_highTable_1 (by omega) (by omega) (by rw [s1_36]; rfl) (by decide) ?_
    refine z_sipush dX8_highTable_156 ⟨by decide, by decide⟩ (by decide) ?_
    refine z_iret rfl (by decide) rfl (Nat.sub_self _) dX8_highTable_159 ?_
    refine ⟨rfl, ?_⟩
    rw [show k = 36 by omega]
    rfl
  by_cases s1_37 : k = 37
  · refine z_tableIn (tgt := 160) dX8_highTable_1 (by omega) (by omega) (by rw [s1_37]; rfl) (by decide) ?_
    refine z_sipush dX8_highTable_160 ⟨by decide, by decide⟩ (by decide) ?_
    refine z_iret rfl (by decide) rfl (Nat.sub_self _) dX8_highTable_163 ?_
    refine ⟨rfl, ?_⟩
    rw [show k = 37 by omega]
    rfl
  by_cases s1_38 : k = 38
  · refine z_tableIn (tgt := 164) dX8_highTable_1 (by omega) (by omega) (by rw [s1_38]; rfl) (by decide) ?_
    refine z_sipush dX8_highTable_164 ⟨by decide, by decide⟩ (by decide) ?_
    refine z_iret rfl (by decide) rfl (Nat.sub_self _) dX8_highTable_167 ?_
    refine ⟨rfl, ?_⟩
    rw [show k = 38 by omega]
    rfl
  by_cases s1_39 : k = 39
  · refine z_tableIn (tgt := 168) dX8_highTable_1 (by omega) (by omega) (by rw [s1_39]; rfl) (by decide) ?_
    refine z_sipush dX8_highTable_168 ⟨by decide, by decide⟩ (by decide) ?_
    refine z_iret rfl (by decide) rfl (Nat.sub_self _) dX8_highTable_171 ?_
    refine ⟨rfl, ?_⟩
    rw [show k = 39 by omega]
    rfl
  by_cases s1_40 : k = 40
  · refine z_tableIn (tgt := 172) dX8_highTable_1 (by omega) (by omega) (by rw [s1_40]; rfl) (by decide) ?_
    refine z_sipush dX8_highTable_172 ⟨by decide, by decide⟩ (by decide) ?_
    refine z_iret rfl (by decide) rfl (Nat.sub_self _) dX8_highTable_175 ?_
    refine ⟨rfl, ?_⟩
    rw [show k = 40 by omega]
    rfl
  by_cases s1_41 : k = 41
  · refine z_tableIn (tgt := 176) dX8_highTable_1 (by omega) (by omega) (by rw [s1_41]; rfl) (by decide) ?_
    refine z_sipush dX8_highTable_176 ⟨by decide, by decide⟩ (by decide) ?_
    refine z_iret rfl (by decide) rfl (Nat.sub_self _) dX8_highTable_179 ?_
    refine ⟨rfl, ?_⟩
    rw [show k = 41 by omega]
    rfl
  by_cases s1_42 : k = 42
  · refine z_tableIn (tgt := 180) dX8_highTable_1 (by omega) (by omega) (by rw [s1_42]; rfl) (by decide) ?_
    refine z_sipush dX8_highTable_180 ⟨by decide, by decide⟩ (by decide) ?_
    refine z_iret rfl (by decide) rfl (Nat.sub_self _) dX8_highTable_183 ?_
    refine ⟨rfl, ?_⟩
    rw [show k = 42 by omega]
    rfl
  by_cases s1_43 : k = 43
  · refine z_tableIn (tgt := 184) dX8_highTable_1 (by omega) (by omega) (by rw [s1_43]; rfl) (by decide) ?_
    refine z_sipush dX8_highTable_184 ⟨by decide, by decide⟩ (by decide) ?_
    refine z_iret rfl (by decide) rfl (Nat.sub_self _) dX8_highTable_187 ?_
    refine ⟨rfl, ?_⟩
    rw [show k = 43 by omega]
    rfl
  by_cases s1_44 : k = 44
  · refine z_tableIn (tgt := 188) dX8_highTable_1 (by omega) (by omega) (by rw [s1_44]; rfl) (by decide) ?_
    refine z_sipush dX8_highTable_188 ⟨by decide, by decide⟩ (by decide) ?_
    refine z_iret rfl (by decide) rfl (Nat.sub_self _) dX8_highTable_191 ?_
    refine ⟨rfl, ?_⟩
    rw [show k = 44 by omega]
    rfl
  by_cases s1_45 : k = 45
  · refine z_tableIn (tgt := 192) dX8_highTable_1 (by omega) (by omega) (by rw [s1_45]; rfl) (by decide) ?_
    refine z_sipush dX8_highTable_192 ⟨by decide, by decide⟩ (by decide) ?_
    refine z_iret rfl (by decide) rfl (Nat.sub_self _) dX8_highTable_195 ?_
    refine ⟨rfl, ?_⟩
    rw [show k = 45 by omega]
    rfl
  by_cases s1_46 : k = 46
  · refine z_tableIn (tgt := 196) dX8_highTable_1 (by omega) (by omega) (by rw [s1_46]; rfl) (by decide) ?_
    refine z_sipush dX8_highTable_196 ⟨by decide, by decide⟩ (by decide) ?_
    refine z_iret rfl (by decide) rfl (Nat.sub_self _) dX8_highTable_199 ?_
    refine ⟨rfl, ?_⟩
    rw [show k = 46 by omega]
    rfl
  by_cases s1_47 : k = 47
  · refine z_tableIn (tgt := 200) dX8_highTable_1 (by omega) (by omega) (by rw [s1_47]; rfl) (by decide) ?_
    refine z_sipush dX8_highTable_200 ⟨by decide, by decide⟩ (by decide) ?_
    refine z_iret rfl (by decide) rfl (Nat.sub_self _) dX8_highTable_203 ?_
    refine ⟨rfl, ?_⟩
    rw [show k = 47 by omega]
    rfl
  by_cases s1_48 : k = 48
  · refine z_tableIn (tgt := 204) dX8_highTable_1 (by omega) (by omega) (by rw [s1_48]; rfl) (by decide) ?_
    refine z_sipush dX8_highTable_204 ⟨by decide, by decide⟩ (by decide) ?_
    refine z_iret rfl (by decide) rfl (Nat.sub_self _) dX8_highTable_207 ?_
    refine ⟨rfl, ?_⟩
    rw [show k = 48 by omega]
    rfl
  refine z_tableOut (tgt := 208) dX8_highTable_1 (by omega) (by decide) ?_
  refine z_sipush dX8_highTable_208 ⟨by decide, by decide⟩ (by decide) ?_
  refine z_iret rfl (by decide) rfl (Nat.sub_self _) dX8_highTable_211 ?_
  refine ⟨rfl, ?_⟩
  by_cases e : k = 50
  · rw [if_pos e]
  · rw [if_neg e, show k = 49 by omega]; rfl
set_option maxHeartbeats 400000 in
theorem A_X8_tableOf (l : Launch) (g : Cx) (M : FMem) (k : Int) (hk : 0 ≤ k ∧ k ≤ 50) : AMl l g true fi_X8_tableOf [fi k] 93 M (fun r M2 => M2 = M ∧ (fun r => r = if k = 50 then 10000 else tabV k) r) := by
  refine AMl_intro [fi k, fu] (by decide) (knall rfl) (Nat.le_of_ble_eq_true rfl) rfl ?_
  intro hNV hM0 μ
  have bk : N32 k := hNV (fi k) (by simp)
  refine z_iload_n dX8_tableOf_0 rfl ?_
  refine z_bipush dX8_tableOf_1 ⟨by decide, by decide⟩ (by decide) ?_
  refine z_icmp_ge (tgt := 13) dX8_tableOf_3 (by decide) (fun c1 => ?_) (fun c1 => ?_)
  · refine z_iload_n dX8_tableOf_13 rfl ?_
    refine z_callSip (n2 := 93) (A_X8_highTable l g M k (by omega)) cb_X8_highTable cl_X8_402 (clr0 rfl rfl (by decide) (by decide)) rfl (by decide) rfl (Nat.le_of_ble_eq_true rfl) rfl dX8_tableOf_14 (fun x2 bx2 hx2 => ?_)
    have hh := hx2
    refine z_istore_n (loc2 := [fi k, fi x2]) dX8_tableOf_17 (by decide) rfl ?_
    refine z_iload_n dX8_tableOf_18 rfl ?_
    refine z_bipush dX8_tableOf_19 ⟨by decide, by decide⟩ (by decide) ?_
    refine z_icmp_ne (tgt := 30) dX8_tableOf_21 (by decide) (fun c3 => ?_) (fun c3 => ?_)
    · refine z_iload_n dX8_tableOf_30 rfl ?_
      refine z_i2l dX8_tableOf_31 ?_
      refine z_lret rfl (by decide) rfl (Nat.sub_self _) dX8_tableOf_32 ?_
      refine ⟨rfl, ?_⟩
      first
      | (rw [if_pos (by omega)])
      | (rw [if_neg (by omega)]; assumption)
      | (rw [if_neg (by omega)] at hh ⊢; assumption)
    · refine z_ldc2 (c := 10000) cn_X8_405 ⟨by decide, by decide⟩ dX8_tableOf_24 ?_
      refine z_goto (tgt := 32) dX8_tableOf_27 (by decide) ?_
      refine z_lret rfl (by decide) rfl (Nat.sub_self _) dX8_tableOf_32 ?_
      refine ⟨rfl, ?_⟩
      first
      | (rw [if_pos (by omega)])
      | (rw [if_neg (by omega)]; assumption)
      | (rw [if_neg (by omega)] at hh ⊢; assumption)
  · refine z_iload_n dX8_tableOf_6 rfl ?_
    refine z_callSip (n2 := 93) (A_X8_lowTable l g M k (by omega)) cb_X8_lowTable cl_X8_399 (clr0 rfl rfl (by decide) (by decide)) rfl (by decide) rfl (Nat.le_of_ble_eq_true rfl) rfl dX8_tableOf_7 (fun x4 bx4 hx4 => ?_)
    refine z_goto (tgt := 17) dX8_tableOf_10 (by decide) ?_
    refine z_istore_n (loc2 := [fi k, fi x4]) dX8_tableOf_17 (by decide) rfl ?_
    refine z_iload_n dX8_tableOf_18 rfl ?_
    refine z_bipush dX8_tableOf_19 ⟨by decide, by decide⟩ (by decide) ?_
    refine z_icmp_ne (tgt := 30) dX8_tableOf_21 (by decide) (fun c5 => ?_) (fun c5 => ?_)
    · refine z_iload_n dX8_tableOf_30 rfl ?_
      refine z_i2l dX8_tableOf_31 ?_
      refine z_lret rfl (by decide) rfl (Nat.sub_self _) dX8_tableOf_32 ?_
      refine ⟨rfl, ?_⟩
      first
      | (rw [if_pos (by omega)])
      | (rw [if_neg (by omega)]; assumption)
      | (rw [if_neg (by omega)] at hh ⊢; assumption)
    · refine z_ldc2 (c := 10000) cn_X8_405 ⟨by decide, by decide⟩ dX8_tableOf_24 ?_
      refine z_goto (tgt := 32) dX8_tableOf_27 (by decide) ?_
      refine z_lret rfl (by decide) rfl (Nat.sub_self _) dX8_tableOf_32 ?_
      refine ⟨rfl, ?_⟩
      first
      | (rw [if_pos (by omega)])
      | (rw [if_neg (by omega)]; assumption)
      | (rw [if_neg (by omega)] at hh ⊢; assumption)
set_option maxHeartbeats 1600000 in
theorem A_X8_farOf (l : Launch) (g : Cx) (M : FMem) (f m : Int) (hf : 0 ≤ f ∧ f ≤ 40000) (hm : m = 0 ∨ m = 1) : AMl l g true fi_X8_farOf [fi f, fi m] 93 M (fun r M2 => M2 = M ∧ (fun r => r = if m = 0 then farL f else farU f) r) := by
  refine AMl_intro [fi f, fi m, fu, fu, fu, fu] (by decide) (knall rfl) (Nat.le_of_ble_eq_true rfl) rfl ?_
  intro hNV hM0 μ
  have bf : N32 f := hNV (fi f) (by simp)
  have bm : N32 m := hNV (fi m) (by simp)
  have lp14 : ∀ (kq : Nat) (kz tz jz : Int), (9 - jz).toNat = kq → (0 ≤ jz ∧ jz ≤ f / 5000) → (kz = f % 5000 / 100) → (tz = 10 ^ jz.toNat) → Wa l g true fi_X8_farOf 93 μ (Zl g true fi_X8_farOf 93 μ (fun r M2 => M2 = M ∧ (fun r => r = if m = 0 then farL f else farU f) r)) 14 [] [fi f, fi m, fi kz, fl tz, fu, fi jz] 93 M := by
    intro kq
    induction kq using Nat.strongRecOn with
    | _ kq ih14 =>
    intro kz tz jz hk14 h0 h1 h2
    have hp := pow10 h0.1 (show jz ≤ 8 by omega)
    have hfb := far_b hf
    have ht1 := tabV_b (f % 5000 / 100)
    have ht2 := tabV_b (f % 5000 / 100 + 1)
    refine z_iload dX8_farOf_14 rfl ?_
    refine z_iload_n dX8_farOf_16 rfl ?_
    refine z_sipush dX8_farOf_17 ⟨by decide, by decide⟩ (by decide) ?_
    have hd20 := tdiv_cs f 5000 (by decide)
    refine z_idiv dX8_farOf_20 (by omega) (by omega) (fun x1 hx1 => ?_)
    refine z_icmp_ge (tgt := 36) dX8_farOf_21 (by decide) (fun c2 => ?_) (fun c2 => ?_)
    · have hten : tz = p10 f := by rw [h2, show jz = f / 5000 by omega]; rfl
      have hpp : 0 ≤ p10 f ∧ p10 f ≤ 100000000 := by rw [← hten]; omega
      have hma := mulp ht1 hpp
      have hmb := mulp (show 0 ≤ tabV (f % 5000 / 100) + 1 ∧ tabV (f % 5000 / 100) + 1 ≤ 9550 by omega) hpp
      have hmc := mulp (show 0 ≤ tabV (f % 5000 / 100 + 1) + 1 ∧ tabV (f % 5000 / 100 + 1) + 1 ≤ 9550 by omega) hpp
      refine z_iload_n dX8_farOf_36 rfl ?_
      refine z_if_eq (tgt := 51) dX8_farOf_37 (by decide) (fun c3 => ?_) (fun c3 => ?_)
      · refine z_iload_n dX8_farOf_51 rfl ?_
        refine z_callSlp (n2 := 93) (A_X8_tableOf l g M kz (by omega)) cb_X8_tableOf cl_X8_407 (clr0 rfl rfl (by decide) (by decide)) rfl (by decide) rfl (Nat.le_of_ble_eq_true rfl) rfl dX8_farOf_52 (fun x4 bx4 hx4 => ?_)
        have htb := hx4
        rw [h1] at htb
        refine z_lload_n dX8_farOf_55 rfl ?_
        have hx : x4 * tz = farL f := by rw [htb, hten]; unfold farL; rw [if_neg (by omega)]
        refine z_lmulN dX8_farOf_56 (by rw [hx]; omega) (fun x5 hx5 => ?_)
        refine z_lret rfl (by decide) rfl (Nat.sub_self _) dX8_farOf_57 ?_
        refine ⟨rfl, ?_⟩
        rw [hx5, hx]
        rcases hm with z | z
        · rw [if_pos z]
        · rw [if_neg (by omega)]
          unfold farU
          rw [if_pos (by omega), if_pos (by omega)]
      · refine z_iload_n dX8_farOf_40 rfl ?_
        refine z_bipush dX8_farOf_41 ⟨by decide, by decide⟩ (by decide) ?_
        have hm43 : f.tmod 100 = f % 100 := Int.tmod_eq_emod_of_nonneg (by omega)
        refine z_irem dX8_farOf_43 (by omega) (fun x6 hx6 => ?_)
        refine z_if_ne (tgt := 58) dX8_farOf_44 (by decide) (fun c7 => ?_) (fun c7 => ?_)
        · refine z_iload_n dX8_farOf_58 rfl ?_
          refine z_bipush dX8_farOf_59 ⟨by decide, by decide⟩ (by decide) ?_
          have hm61 : f.tmod 100 = f % 100 := Int.tmod_eq_emod_of_nonneg (by omega)
          refine z_irem dX8_farOf_61 (by omega) (fun x8 hx8 => ?_)
          refine z_if_ne (tgt := 74) dX8_farOf_62 (by decide) (fun c9 => ?_) (fun c9 => ?_)
          · refine z_iload_n dX8_farOf_74 rfl ?_
            refine z_iconst dX8_farOf_75 ⟨by decide, by decide⟩ ?_
            first | refine z_iaddN dX8_farOf_76 (by omega) (fun x10 hx10 => ?_) | refine z_iadd dX8_farOf_76 (fun x10 hx10 => ?_)
            have hk77 : x10 = f % 5000 / 100 + 1 := by omega
            refine z_callSlp (n2 := 93) (A_X8_tableOf l g M x10 (by omega)) cb_X8_tableOf cl_X8_407 (clr0 rfl rfl (by decide) (by decide)) rfl (by decide) rfl (Nat.le_of_ble_eq_true rfl) rfl dX8_farOf_77 (fun x11 bx11 hx11 => ?_)
            have htb := hx11
            have htbb : 0 ≤ x11 ∧ x11 ≤ 10000 := by rw [htb, hk77]; split <;> omega
            refine z_iload_n dX8_farOf_80 rfl ?_
            refine z_iconst dX8_farOf_81 ⟨by decide, by decide⟩ ?_
            first | refine z_iaddN dX8_farOf_82 (by omega) (fun x12 hx12 => ?_) | refine z_iadd dX8_farOf_82 (fun x12 hx12 => ?_)
            refine z_bipush dX8_farOf_83 ⟨by decide, by decide⟩ (by decide) ?_
            refine z_icmp_ne (tgt := 92) dX8_farOf_85 (by decide) (fun c13 => ?_) (fun c13 => ?_)
            · refine z_lconst1 dX8_farOf_92 ?_
              first | refine z_laddN dX8_farOf_93 (by omega) (fun x14 hx14 => ?_) | refine z_ladd dX8_farOf_93 (fun x14 hx14 => ?_)
              refine z_lload_n dX8_farOf_94 rfl ?_
              have hx : x14 * tz = (if f % 5000 / 100 + 1 < 50 then (tabV (f % 5000 / 100 + 1) + 1) * p10 f else 10000 * p10 f) := by
                rw [hx14, htb, hten, hk77]
                first
                | (exfalso; omega)
                | (rw [if_neg (by omega), if_pos (by omega)])
                | (rw [if_pos (by omega), if_neg (by omega)]; rfl)
                | (rw [if_pos (by omega), if_neg (by omega), Int.add_zero])
              refine z_lmulN dX8_farOf_95 (by rw [hx]; split <;> omega) (fun x15 hx15 => ?_)
              refine z_lret rfl (by decide) rfl (Nat.sub_self _) dX8_farOf_96 ?_
              refine ⟨rfl, ?_⟩
              rw [hx15, hx, if_neg (by omega)]
              unfold farU
              rw [if_neg (show ¬ f % 100 = 0 by omega)]
            · refine z_lconst0 dX8_farOf_88 ?_
              refine z_goto (tgt := 93) dX8_farOf_89 (by decide) ?_
              first | refine z_laddN dX8_farOf_93 (by omega) (fun x16 hx16 => ?_) | refine z_ladd dX8_farOf_93 (fun x16 hx16 => ?_)
              refine z_lload_n dX8_farOf_94 rfl ?_
              have hx : x16 * tz = (if f % 5000 / 100 + 1 < 50 then (tabV (f % 5000 / 100 + 1) + 1) * p10 f else 10000 * p10 f) := by
                rw [hx16, htb, hten, hk77]
                first
                | (exfalso; omega)
                | (rw [if_neg (by omega), if_pos (by omega)])
                | (rw [if_pos (by omega), if_neg (by omega)]; rfl)
                | (rw [if_pos (by omega), if_neg (by omega), Int.add_zero])
              refine z_lmulN dX8_farOf_95 (by rw [hx]; split <;> omega) (fun x17 hx17 => ?_)
              refine z_lret rfl (by decide) rfl (Nat.sub_self _) dX8_farOf_96 ?_
              refine ⟨rfl, ?_⟩
              rw [hx17, hx, if_neg (by omega)]
              unfold farU
              rw [if_neg (show ¬ f % 100 = 0 by omega)]
          · refine z_iload_n dX8_farOf_65 rfl ?_
            refine z_callSlp (n2 := 93) (A_X8_tableOf l g M kz (by omega)) cb_X8_tableOf cl_X8_407 (clr0 rfl rfl (by decide) (by decide)) rfl (by decide) rfl (Nat.le_of_ble_eq_true rfl) rfl dX8_farOf_66 (fun x18 bx18 hx18 => ?_)
            have htb := hx18
            rw [h1] at htb
            have htbb : 0 ≤ x18 ∧ x18 ≤ 10000 := by rw [htb]; split <;> omega
            refine z_lconst1 dX8_farOf_69 ?_
            first | refine z_laddN dX8_farOf_70 (by omega) (fun x19 hx19 => ?_) | refine z_ladd dX8_farOf_70 (fun x19 hx19 => ?_)
            refine z_lload_n dX8_farOf_71 rfl ?_
            have hx : x19 * tz = farL f + p10 f := by
              rw [hx19, htb, hten, if_neg (by omega)]
              unfold farL
              rw [Int.add_mul, Int.one_mul]
            refine z_lmulN dX8_farOf_72 (by rw [hx]; omega) (fun x20 hx20 => ?_)
            refine z_lret rfl (by decide) rfl (Nat.sub_self _) dX8_farOf_73 ?_
            refine ⟨rfl, ?_⟩
            rw [hx20, hx, if_neg (by omega)]
            unfold farU
            rw [if_pos (by omega), if_neg (by omega)]
        · refine z_iload_n dX8_farOf_47 rfl ?_
          refine z_if_ne (tgt := 58) dX8_farOf_48 (by decide) (fun c21 => ?_) (fun c21 => ?_)
          · refine z_iload_n dX8_farOf_58 rfl ?_
            refine z_bipush dX8_farOf_59 ⟨by decide, by decide⟩ (by decide) ?_
            have hm61 : f.tmod 100 = f % 100 := Int.tmod_eq_emod_of_nonneg (by omega)
            refine z_irem dX8_farOf_61 (by omega) (fun x22 hx22 => ?_)
            refine z_if_ne (tgt := 74) dX8_farOf_62 (by decide) (fun c23 => ?_) (fun c23 => ?_)
            · refine z_iload_n dX8_farOf_74 rfl ?_
              refine z_iconst dX8_farOf_75 ⟨by decide, by decide⟩ ?_
              first | refine z_iaddN dX8_farOf_76 (by omega) (fun x24 hx24 => ?_) | refine z_iadd dX8_farOf_76 (fun x24 hx24 => ?_)
              have hk77 : x24 = f % 5000 / 100 + 1 := by omega
              refine z_callSlp (n2 := 93) (A_X8_tableOf l g M x24 (by omega)) cb_X8_tableOf cl_X8_407 (clr0 rfl rfl (by decide) (by decide)) rfl (by decide) rfl (Nat.le_of_ble_eq_true rfl) rfl dX8_farOf_77 (fun x25 bx25 hx25 => ?_)
              have htb := hx25
              have htbb : 0 ≤ x25 ∧ x25 ≤ 10000 := by rw [htb, hk77]; split <;> omega
              refine z_iload_n dX8_farOf_80 rfl ?_
              refine z_iconst dX8_farOf_81 ⟨by decide, by decide⟩ ?_
              first | refine z_iaddN dX8_farOf_82 (by omega) (fun x26 hx26 => ?_) | refine z_iadd dX8_farOf_82 (fun x26 hx26 => ?_)
              refine z_bipush dX8_farOf_83 ⟨by decide, by decide⟩ (by decide) ?_
              refine z_icmp_ne (tgt := 92) dX8_farOf_85 (by decide) (fun c27 => ?_) (fun c27 => ?_)
              · refine z_lconst1 dX8_farOf_92 ?_
                first | refine z_laddN dX8_farOf_93 (by omega) (fun x28 hx28 => ?_) | refine z_ladd dX8_farOf_93 (fun x28 hx28 => ?_)
                refine z_lload_n dX8_farOf_94 rfl ?_
                have hx : x28 * tz = (if f % 5000 / 100 + 1 < 50 then (tabV (f % 5000 / 100 + 1) + 1) * p10 f else 10000 * p10 f) := by
                  rw [hx28, htb, hten, hk77]
                  first
                  | (exfalso; omega)
                  | (rw [if_neg (by omega), if_pos (by omega)])
                  | (rw [if_pos (by omega), if_neg (by omega)]; rfl)
                  | (rw [if_pos (by omega), if_neg (by omega), Int.add_zero])
                refine z_lmulN dX8_farOf_95 (by rw [hx]; split <;> omega) (fun x29 hx29 => ?_)
                refine z_lret rfl (by decide) rfl (Nat.sub_self _) dX8_farOf_96 ?_
                refine ⟨rfl, ?_⟩
                rw [hx29, hx, if_neg (by omega)]
                unfold farU
                rw [if_neg (show ¬ f % 100 = 0 by omega)]
              · refine z_lconst0 dX8_farOf_88 ?_
                refine z_goto (tgt := 93) dX8_farOf_89 (by decide) ?_
                first | refine z_laddN dX8_farOf_93 (by omega) (fun x30 hx30 => ?_) | refine z_ladd dX8_farOf_93 (fun x30 hx30 => ?_)
                refine z_lload_n dX8_farOf_94 rfl ?_
                have hx : x30 * tz = (if f % 5000 / 100 + 1 < 50 then (tabV (f % 5000 / 100 + 1) + 1) * p10 f else 10000 * p10 f) := by
                  rw [hx30, htb, hten, hk77]
                  first
                  | (exfalso; omega)
                  | (rw [if_neg (by omega), if_pos (by omega)])
                  | (rw [if_pos (by omega), if_neg (by omega)]; rfl)
                  | (rw [if_pos (by omega), if_neg (by omega), Int.add_zero])
                refine z_lmulN dX8_farOf_95 (by rw [hx]; split <;> omega) (fun x31 hx31 => ?_)
                refine z_lret rfl (by decide) rfl (Nat.sub_self _) dX8_farOf_96 ?_
                refine ⟨rfl, ?_⟩
                rw [hx31, hx, if_neg (by omega)]
                unfold farU
                rw [if_neg (show ¬ f % 100 = 0 by omega)]
            · refine z_iload_n dX8_farOf_65 rfl ?_
              refine z_callSlp (n2 := 93) (A_X8_tableOf l g M kz (by omega)) cb_X8_tableOf cl_X8_407 (clr0 rfl rfl (by decide) (by decide)) rfl (by decide) rfl (Nat.le_of_ble_eq_true rfl) rfl dX8_farOf_66 (fun x32 bx32 hx32 => ?_)
              have htb := hx32
              rw [h1] at htb
              have htbb : 0 ≤ x32 ∧ x32 ≤ 10000 := by rw [htb]; split <;> omega
              refine z_lconst1 dX8_farOf_69 ?_
              first | refine z_laddN dX8_farOf_70 (by omega) (fun x33 hx33 => ?_) | refine z_ladd dX8_farOf_70 (fun x33 hx33 => ?_)
              refine z_lload_n dX8_farOf_71 rfl ?_
              have hx : x33 * tz = farL f + p10 f := by
                rw [hx33, htb, hten, if_neg (by omega)]
                unfold farL
                rw [Int.add_mul, Int.one_mul]
              refine z_lmulN dX8_farOf_72 (by rw [hx]; omega) (fun x34 hx34 => ?_)
              refine z_lret rfl (by decide) rfl (Nat.sub_self _) dX8_farOf_73 ?_
              refine ⟨rfl, ?_⟩
              rw [hx34, hx, if_neg (by omega)]
              unfold farU
              rw [if_pos (by omega), if_neg (by omega)]
          · refine z_iload_n dX8_farOf_51 rfl ?_
            refine z_callSlp (n2 := 93) (A_X8_tableOf l g M kz (by omega)) cb_X8_tableOf cl_X8_407 (clr0 rfl rfl (by decide) (by decide)) rfl (by decide) rfl (Nat.le_of_ble_eq_true rfl) rfl dX8_farOf_52 (fun x35 bx35 hx35 => ?_)
            have htb := hx35
            rw [h1] at htb
            refine z_lload_n dX8_farOf_55 rfl ?_
            have hx : x35 * tz = farL f := by rw [htb, hten]; unfold farL; rw [if_neg (by omega)]
            refine z_lmulN dX8_farOf_56 (by rw [hx]; omega) (fun x36 hx36 => ?_)
            refine z_lret rfl (by decide) rfl (Nat.sub_self _) dX8_farOf_57 ?_
            refine ⟨rfl, ?_⟩
            rw [hx36, hx]
            rcases hm with z | z
            · rw [if_pos z]
            · rw [if_neg (by omega)]
              unfold farU
              rw [if_pos (by omega), if_pos (by omega)]
    · refine z_lload_n dX8_farOf_24 rfl ?_
      refine z_ldc2 (c := 10) cn_X8_298 ⟨by decide, by decide⟩ dX8_farOf_25 ?_
      first | refine z_lmulN dX8_farOf_28 (by omega) (fun x37 hx37 => ?_) | refine z_lmul dX8_farOf_28 (fun x37 hx37 => ?_)
      refine z_lstore_n (loc2 := [fi f, fi m, fi kz, fl x37, fu, fi jz]) dX8_farOf_29 (by decide) rfl ?_
      refine z_iinc (loc2 := fun vq => [fi f, fi m, fi kz, fl x37, fu, fi vq]) dX8_farOf_30 rfl (by decide) (by omega) (fun _ => rfl) (fun x38 hx38 => ?_)
      refine z_goto (tgt := 14) dX8_farOf_33 (by decide) ?_
      exact ih14 _ (by omega) kz x37 x38 rfl (by omega) (h1) (by rw [hx38, hx37, h2, show (jz + 1).toNat = jz.toNat + 1 by omega, Int.pow_succ])
  refine z_iload_n dX8_farOf_0 rfl ?_
  refine z_sipush dX8_farOf_1 ⟨by decide, by decide⟩ (by decide) ?_
  have hm0 : f.tmod 5000 = f % 5000 := Int.tmod_eq_emod_of_nonneg (by omega)
  refine z_irem dX8_farOf_4 (by omega) (fun x39 hx39 => ?_)
  refine z_bipush dX8_farOf_5 ⟨by decide, by decide⟩ (by decide) ?_
  have hd7 := tdiv_cs x39 100 (by decide)
  refine z_idiv dX8_farOf_7 (by omega) (by omega) (fun x40 hx40 => ?_)
  refine z_istore_n (loc2 := [fi f, fi m, fi x40, fu, fu, fu]) dX8_farOf_8 (by decide) rfl ?_
  refine z_lconst1 dX8_farOf_9 ?_
  refine z_lstore_n (loc2 := [fi f, fi m, fi x40, fl 1, fu, fu]) dX8_farOf_10 (by decide) rfl ?_
  refine z_iconst dX8_farOf_11 ⟨by decide, by decide⟩ ?_
  refine z_istore (loc2 := [fi f, fi m, fi x40, fl 1, fu, fi 0]) dX8_farOf_12 (by decide) rfl ?_
  exact lp14 _ x40 1 0 rfl (by omega) (by omega) (rfl)
set_option maxHeartbeats 400000 in
theorem A_X8_far (l : Launch) (g : Cx) (M : FMem) (f what : Int) : AMl l g true fi_X8_far [fr 60, fi f, fi what] 93 M (fun r M2 => M2 = M ∧ (fun r => r = if ¬ ((0 ≤ f ∧ f ≤ 40000) ∧ (what = 0 ∨ what = 1)) then -1000002 else if what = 0 then farL f else farU f) r) := by
  refine AMl_intro [fr 60, fi f, fi what] (by decide) (knall rfl) (Nat.le_of_ble_eq_true rfl) rfl ?_
  intro hNV hM0 μ
  have bf : N32 f := hNV (fi f) (by simp)
  have bwhat : N32 what := hNV (fi what) (by simp)
  refine z_iload_n dX8_far_0 rfl ?_
  refine z_i2l dX8_far_1 ?_
  refine z_lconst0 dX8_far_2 ?_
  refine z_ldc2 (c := 40000) cn_X8_171 ⟨by decide, by decide⟩ dX8_far_3 ?_
  refine z_callSip (n2 := 93) (A_X8_in l g M f 0 40000) cb_X8_in cl_X8_130 (clr0 rfl rfl (by decide) (by decide)) rfl (by decide) rfl (Nat.le_of_ble_eq_true rfl) rfl dX8_far_6 (fun x1 bx1 hx1 => ?_)
  have i1 := if01 hx1
  refine z_if_eq (tgt := 39) dX8_far_9 (by decide) (fun c2 => ?_) (fun c2 => ?_)
  · refine z_ldc2 (c := -1000002) cn_X8_414 ⟨by decide, by decide⟩ dX8_far_39 ?_
    refine z_lret rfl (by decide) rfl (Nat.sub_self _) dX8_far_42 ?_
    refine ⟨rfl, ?_⟩
    first
    | (rw [if_pos (by omega)])
    | (rw [if_neg (by omega)]
       rw [hfo]
       first
       | (rw [if_pos (by omega), if_pos (by omega)])
       | (rw [if_neg (by omega), if_neg (by omega)]))
  · refine z_iload_n dX8_far_12 rfl ?_
    refine z_i2l dX8_far_13 ?_
    refine z_lconst0 dX8_far_14 ?_
    refine z_lconst1 dX8_far_15 ?_
    refine z_callSip (n2 := 93) (A_X8_in l g M what 0 1) cb_X8_in cl_X8_130 (clr0 rfl rfl (by decide) (by decide)) rfl (by decide) rfl (Nat.le_of_ble_eq_true rfl) rfl dX8_far_16 (fun x3 bx3 hx3 => ?_)
    have i3 := if01 hx3
    refine z_if_eq (tgt := 39) dX8_far_19 (by decide) (fun c4 => ?_) (fun c4 => ?_)
    · refine z_ldc2 (c := -1000002) cn_X8_414 ⟨by decide, by decide⟩ dX8_far_39 ?_
      refine z_lret rfl (by decide) rfl (Nat.sub_self _) dX8_far_42 ?_
      refine ⟨rfl, ?_⟩
      first
      | (rw [if_pos (by omega)])
      | (rw [if_neg (by omega)]
         rw [hfo]
         first
         | (rw [if_pos (by omega), if_pos (by omega)])
         | (rw [if_neg (by omega), if_neg (by omega)]))
    · refine z_iload_n dX8_far_22 rfl ?_
      refine z_iload_n dX8_far_23 rfl ?_
      refine z_iconst dX8_far_24 ⟨by decide, by decide⟩ ?_
      refine z_icmp_ne (tgt := 32) dX8_far_25 (by decide) (fun c5 => ?_) (fun c5 => ?_)
      · refine z_iconst dX8_far_32 ⟨by decide, by decide⟩ ?_
        refine z_callSlp (n2 := 93) (A_X8_farOf l g M f 0 (by omega) (by omega)) cb_X8_farOf cl_X8_410 (clr0 rfl rfl (by decide) (by decide)) rfl (by decide) rfl (Nat.le_of_ble_eq_true rfl) rfl dX8_far_33 (fun x6 bx6 hx6 => ?_)
        have hfo := hx6
        refine z_goto (tgt := 42) dX8_far_36 (by decide) ?_
        refine z_lret rfl (by decide) rfl (Nat.sub_self _) dX8_far_42 ?_
        refine ⟨rfl, ?_⟩
        first
        | (rw [if_pos (by omega)])
        | (rw [if_neg (by omega)]
           rw [hfo]
           first
           | (rw [if_pos (by omega), if_pos (by omega)])
           | (rw [if_neg (by omega), if_neg (by omega)]))
      · refine z_iconst dX8_far_28 ⟨by decide, by decide⟩ ?_
        refine z_goto (tgt := 33) dX8_far_29 (by decide) ?_
        refine z_callSlp (n2 := 93) (A_X8_farOf l g M f 1 (by omega) (by omega)) cb_X8_farOf cl_X8_410 (clr0 rfl rfl (by decide) (by decide)) rfl (by decide) rfl (Nat.le_of_ble_eq_true rfl) rfl dX8_far_33 (fun x7 bx7 hx7 => ?_)
        have hfo := hx7
        refine z_goto (tgt := 42) dX8_far_36 (by decide) ?_
        refine z_lret rfl (by decide) rfl (Nat.sub_self _) dX8_far_42 ?_
        refine ⟨rfl, ?_⟩
        first
        | (rw [if_pos (by omega)])
        | (rw [if_neg (by omega)]
           rw [hfo]
           first
           | (rw [if_pos (by omega), if_pos (by omega)])
           | (rw [if_neg (by omega), if_neg (by omega)]))
def WB (M : FMem) (h : Int) : Prop := M 86 (1 + h) = 1000000000000 ∨ ((-10000000 ≤ M 86 (1 + h) ∧ M 86 (1 + h) ≤ 10000000) ∧ (-10000000 ≤ M 86 (17 * (1 + h)) ∧ M 86 (17 * (1 + h)) ≤ 10000000))
set_option maxHeartbeats 400000 in
theorem A_X8_isWithin (l : Launch) (g : Cx) (M : FMem) (h : Int) (hh : 0 ≤ h ∧ h ≤ 9) (hb : WB M h) : AMi l g true fi_X8_isWithin [fr 60, fi h] 93 M (fun r M2 => M2 = M ∧ (fun r => r = if (M 86 (1 + h) < 1000000000000 ∧ 0 ≤ -(M 86 (17 * (1 + h))) ∧ M 86 (1 + h) ≤ 40000) then 1 else 0) r) := by
  refine AMi_intro [fr 60, fi h] (by decide) (knall rfl) (Nat.le_of_ble_eq_true rfl) rfl ?_
  intro hNV hM0 μ
  have bh : N32 h := hNV (fi h) (by simp)
  have hb2 := hb
  unfold WB at hb2
  refine z_aload_nr dX8_isWithin_0 rfl ?_
  refine z_iload_n dX8_isWithin_1 rfl ?_
  refine z_callVip (n2 := 93) (A_X8_isLoose l g M h (hh)) cb_X8_isLoose cl_X8_338 (clr0 rfl rfl (by decide) (by decide)) rfl (by decide) ⟨_, rfl, rfl⟩ rfl (by decide) rfl (Nat.le_of_ble_eq_true rfl) rfl dX8_isWithin_2 (fun x1 bx1 hx1 => ?_)
  have i1 := if01 hx1
  refine z_if_ne (tgt := 30) dX8_isWithin_5 (by decide) (fun c2 => ?_) (fun c2 => ?_)
  · refine z_iconst dX8_isWithin_30 ⟨by decide, by decide⟩ ?_
    refine z_zret rfl (by omega) (by decide) rfl (Nat.sub_self _) dX8_isWithin_31 ?_
    refine ⟨rfl, ?_⟩
    first | rw [if_pos (by omega)] | rw [if_neg (by omega)]
  · refine z_aload_nr dX8_isWithin_8 rfl ?_
    refine z_iload_n dX8_isWithin_9 rfl ?_
    refine z_callVip (n2 := 93) (A_X8_lowEnd l g M h (hh) (by omega)) cb_X8_lowEnd cl_X8_362 (clr0 rfl rfl (by decide) (by decide)) rfl (by decide) ⟨_, rfl, rfl⟩ rfl (by decide) rfl (Nat.le_of_ble_eq_true rfl) rfl dX8_isWithin_10 (fun x3 bx3 hx3 => ?_)
    refine z_if_lt (tgt := 30) dX8_isWithin_13 (by decide) (fun c4 => ?_) (fun c4 => ?_)
    · refine z_iconst dX8_isWithin_30 ⟨by decide, by decide⟩ ?_
      refine z_zret rfl (by omega) (by decide) rfl (Nat.sub_self _) dX8_isWithin_31 ?_
      refine ⟨rfl, ?_⟩
      first | rw [if_pos (by omega)] | rw [if_neg (by omega)]
    · refine z_aload_nr dX8_isWithin_16 rfl ?_
      refine z_iload_n dX8_isWithin_17 rfl ?_
      refine z_callVip (n2 := 93) (A_X8_highEnd l g M h (hh) (by omega)) cb_X8_highEnd cl_X8_365 (clr0 rfl rfl (by decide) (by decide)) rfl (by decide) ⟨_, rfl, rfl⟩ rfl (by decide) rfl (Nat.le_of_ble_eq_true rfl) rfl dX8_isWithin_18 (fun x5 bx5 hx5 => ?_)
      refine z_ldc (c := 40000) cn_X8_251 ⟨by decide, by decide⟩ dX8_isWithin_21 ?_
      refine z_icmp_gt (tgt := 30) dX8_isWithin_23 (by decide) (fun c6 => ?_) (fun c6 => ?_)
      · refine z_iconst dX8_isWithin_30 ⟨by decide, by decide⟩ ?_
        refine z_zret rfl (by omega) (by decide) rfl (Nat.sub_self _) dX8_isWithin_31 ?_
        refine ⟨rfl, ?_⟩
        first | rw [if_pos (by omega)] | rw [if_neg (by omega)]
      · refine z_iconst dX8_isWithin_26 ⟨by decide, by decide⟩ ?_
        refine z_goto (tgt := 31) dX8_isWithin_27 (by decide) ?_
        refine z_zret rfl (by omega) (by decide) rfl (Nat.sub_self _) dX8_isWithin_31 ?_
        refine ⟨rfl, ?_⟩
        first | rw [if_pos (by omega)] | rw [if_neg (by omega)]
set_option maxHeartbeats 400000 in
theorem A_X8_speaks (l : Launch) (g : Cx) (M : FMem) (h : Int) (hh : 0 ≤ h ∧ h ≤ 9) (hb : WB M h) : AMi l g true fi_X8_speaks [fr 60, fi h] 93 M (fun r M2 => M2 = M ∧ (fun r => r = if 0 ≤ M 74 h ∧ (M 86 (1 + h) < 1000000000000 ∧ 0 ≤ -(M 86 (17 * (1 + h))) ∧ M 86 (1 + h) ≤ 40000) then 1 else 0) r) := by
  refine AMi_intro [fr 60, fi h] (by decide) (knall rfl) (Nat.le_of_ble_eq_true rfl) rfl ?_
  intro hNV hM0 μ
  have bh : N32 h := hNV (fi h) (by simp)
  refine z_aload_nr dX8_speaks_0 rfl ?_
  refine z_getr (b := 74) fl_X8_50 rfl (by decide) rf_60_15 rfl dX8_speaks_1 ?_
  refine z_iload_n dX8_speaks_4 rfl ?_
  refine z_iald rfl (by decide) (by omega) (by omega) dX8_speaks_5 (fun x1 hx1 bx1 => ?_)
  refine z_if_lt (tgt := 21) dX8_speaks_6 (by decide) (fun c2 => ?_) (fun c2 => ?_)
  · refine z_iconst dX8_speaks_21 ⟨by decide, by decide⟩ ?_
    refine z_zret rfl (by omega) (by decide) rfl (Nat.sub_self _) dX8_speaks_22 ?_
    refine ⟨rfl, ?_⟩
    first | rw [if_pos (by omega)] | rw [if_neg (by omega)]
  · refine z_aload_nr dX8_speaks_9 rfl ?_
    refine z_iload_n dX8_speaks_10 rfl ?_
    refine z_callVip (n2 := 93) (A_X8_isWithin l g M h (hh) (hb)) cb_X8_isWithin cl_X8_416 (clr0 rfl rfl (by decide) (by decide)) rfl (by decide) ⟨_, rfl, rfl⟩ rfl (by decide) rfl (Nat.le_of_ble_eq_true rfl) rfl dX8_speaks_11 (fun x3 bx3 hx3 => ?_)
    have i3 := if01 hx3
    refine z_if_eq (tgt := 21) dX8_speaks_14 (by decide) (fun c4 => ?_) (fun c4 => ?_)
    · refine z_iconst dX8_speaks_21 ⟨by decide, by decide⟩ ?_
      refine z_zret rfl (by omega) (by decide) rfl (Nat.sub_self _) dX8_speaks_22 ?_
      refine ⟨rfl, ?_⟩
      first | rw [if_pos (by omega)] | rw [if_neg (by omega)]
    · refine z_iconst dX8_speaks_17 ⟨by decide, by decide⟩ ?_
      refine z_goto (tgt := 22) dX8_speaks_18 (by decide) ?_
      refine z_zret rfl (by omega) (by decide) rfl (Nat.sub_self _) dX8_speaks_22 ?_
      refine ⟨rfl, ?_⟩
      first | rw [if_pos (by omega)] | rw [if_neg (by omega)]
def RedN (M : FMem) : Prop := ∀ h, 0 ≤ h → h < 10 → -1 ≤ M 74 h ∧ M 74 h ≤ 99999
theorem ES_b {S : (Int → Int) → Prop} {M : FMem} {h : Int} (e : ES S M h) : WB M h := by
  rcases e with z | z
  · exact Or.inl z.1
  · exact Or.inr ⟨z.1, z.2.1⟩
theorem spk_no {S : (Int → Int) → Prop} {M : FMem} {h : Int} (e : ES S M h) (hr : -1 ≤ M 74 h) (hn : ¬ (0 ≤ M 74 h ∧ (M 86 (1 + h) < 1000000000000 ∧ 0 ≤ -(M 86 (17 * (1 + h))) ∧ M 86 (1 + h) ≤ 40000))) {lo up : Int} (hs : SpkE S (fun h => M 74 h) h lo up) : False := by
  obtain ⟨h1, h2, h3, h4⟩ := hs
  have h1' : M 74 h ≠ -1 := h1
  rcases e with z | z
  · exact Ends2_free h2 z.2
  · obtain ⟨e1, e2⟩ := Ends2_eq h2 z.2.2
    omega
theorem spk_yes {S : (Int → Int) → Prop} {M : FMem} {h : Int} (hf : Feas S) (e : ES S M h) (hn : 0 ≤ M 74 h ∧ (M 86 (1 + h) < 1000000000000 ∧ 0 ≤ -(M 86 (17 * (1 + h))) ∧ M 86 (1 + h) ≤ 40000)) : SpkE S (fun h => M 74 h) h (-(M 86 (17 * (1 + h)))) (M 86 (1 + h)) ∧ -(M 86 (17 * (1 + h))) ≤ M 86 (1 + h) := by
  rcases e with z | z
  · omega
  · exact ⟨⟨by show M 74 h ≠ -1; omega, z.2.2, by omega, by omega⟩, Ends2_le hf z.2.2⟩
set_option maxHeartbeats 3200000 in
theorem A_X8_barring (l : Launch) (g : Cx) (M : FMem) (b : Int) (hb : 1 ≤ b ∧ b ≤ 200) (S : (Int → Int) → Prop) (hf : Feas S) (hW : WF S M) (hr : RedN M) (ho : 0 ≤ M 60 20 ∧ M 60 20 ≤ 9999) : AMi l g true fi_X8_barring [fr 60, fi b] 93 M (fun r M2 => M2 = M ∧ (fun r => FstH (BoxNo S (fun h => M 74 h) (M 60 20) b) 10 r) r) := by
  refine AMi_intro [fr 60, fi b, fu, fu, fu, fu, fu] (by decide) (knall rfl) (Nat.le_of_ble_eq_true rfl) rfl ?_
  intro hNV hM0 μ
  have bb : N32 b := hNV (fi b) (by simp)
  have lp2 : ∀ (kq : Nat) (hz : Int), (10 - hz).toNat = kq → (0 ≤ hz ∧ hz ≤ 10) → (∀ h, 0 ≤ h → h < hz → ¬ (BoxNo S (fun h => M 74 h) (M 60 20) b) h) → Wa l g true fi_X8_barring 93 μ (Zi g true fi_X8_barring 93 μ (fun r M2 => M2 = M ∧ (fun r => FstH (BoxNo S (fun h => M 74 h) (M 60 20) b) 10 r) r)) 2 [] [fr 60, fi b, fi hz, fu, fu, fu, fu] 93 M := by
    intro kq
    induction kq using Nat.strongRecOn with
    | _ kq ih2 =>
    intro hz hk2 h0 h1
    refine z_iload_n dX8_barring_2 rfl ?_
    refine z_bipush dX8_barring_3 ⟨by decide, by decide⟩ (by decide) ?_
    refine z_icmp_ge (tgt := 91) dX8_barring_5 (by decide) (fun c1 => ?_) (fun c1 => ?_)
    · refine z_iconst dX8_barring_91 ⟨by decide, by decide⟩ ?_
      refine z_iret rfl (by decide) rfl (Nat.sub_self _) dX8_barring_92 ?_
      refine ⟨rfl, Or.inl ⟨rfl, fun h a c => h1 h a (by omega)⟩⟩
    · have hes := WF_es hW (h := hz) (by omega) (by omega)
      have hrh := hr hz (by omega) (by omega)
      refine z_aload_nr dX8_barring_8 rfl ?_
      refine z_iload_n dX8_barring_9 rfl ?_
      refine z_callVip (n2 := 93) (A_X8_speaks l g M hz (by omega) (ES_b hes)) cb_X8_speaks cl_X8_419 (clr0 rfl rfl (by decide) (by decide)) rfl (by decide) ⟨_, rfl, rfl⟩ rfl (by decide) rfl (Nat.le_of_ble_eq_true rfl) rfl dX8_barring_10 (fun x2 bx2 hx2 => ?_)
      have i2 := if01 hx2
      refine z_if_eq (tgt := 85) dX8_barring_13 (by decide) (fun c3 => ?_) (fun c3 => ?_)
      · refine z_iinc (loc2 := fun vq => [fr 60, fi b, fi vq, fu, fu, fu, fu]) dX8_barring_85 rfl (by decide) (by omega) (fun _ => rfl) (fun x4 hx4 => ?_)
        refine z_goto (tgt := 2) dX8_barring_88 (by decide) ?_
        have hnb : ¬ (BoxNo S (fun h => M 74 h) (M 60 20) b) hz := by
          rintro ⟨lo, up, z1, z2⟩
          first
          | exact spk_no hes hrh.1 (by omega) z1
          | (obtain ⟨e1, e2⟩ := Ends2_eq z1.2.1 hsp.1.2.1
             rw [e1, e2] at z2
             apply z2
             show b * farL (-(M 86 (17 * (1 + hz)))) / 1000 - M 60 20 ≤ M 74 hz ∧ M 74 hz ≤ -((-(b * farU (M 86 (1 + hz)))) / 1000) + M 60 20
             omega)
        exact ih2 _ (by omega) x4 rfl (by omega) (fun h a b => by
          by_cases e : h = hz
          · rw [e]; exact hnb
          · exact h1 h a (by omega))
      · have hsp := spk_yes hf hes (by omega)
        have hsr := hsp.1.2.2
        have f1 := (far_b (f := (-(M 86 (17 * (1 + hz))))) (by omega)).1
        have f2 := (far_b (f := (M 86 (1 + hz))) (by omega)).2
        have m1 := mulp (show 0 ≤ b ∧ b ≤ 200 by omega) f1
        have m2 := mulp (show 0 ≤ b ∧ b ≤ 200 by omega) f2
        have hwb := ES_b hes
        unfold WB at hwb
        refine z_iload_n dX8_barring_16 rfl ?_
        refine z_i2l dX8_barring_17 ?_
        refine z_aload_nr dX8_barring_18 rfl ?_
        refine z_iload_n dX8_barring_19 rfl ?_
        refine z_callVip (n2 := 93) (A_X8_lowEnd l g M hz (by omega) (by omega)) cb_X8_lowEnd cl_X8_362 (clr0 rfl rfl (by decide) (by decide)) rfl (by decide) ⟨_, rfl, rfl⟩ rfl (by decide) rfl (Nat.le_of_ble_eq_true rfl) rfl dX8_barring_20 (fun x5 bx5 hx5 => ?_)
        have hlo := hx5
        refine z_iconst dX8_barring_23 ⟨by decide, by decide⟩ ?_
        refine z_callSlp (n2 := 93) (A_X8_farOf l g M x5 0 (by omega) (by omega)) cb_X8_farOf cl_X8_410 (clr0 rfl rfl (by decide) (by decide)) rfl (by decide) rfl (Nat.le_of_ble_eq_true rfl) rfl dX8_barring_24 (fun x6 bx6 hx6 => ?_)
        have hfa := hx6
        have hp1 : b * x6 = b * farL (-(M 86 (17 * (1 + hz)))) := by rw [hfa, if_pos rfl, hlo]
        refine z_lmulN dX8_barring_27 (by rw [hp1]; omega) (fun x7 hx7 => ?_)
        refine z_ldc2 (c := 1000) cn_X8_293 ⟨by decide, by decide⟩ dX8_barring_28 ?_
        refine z_callSlp (n2 := 93) (A_X8_floor l g M x7 1000 (by omega) (by omega)) cb_X8_floor cl_X8_124 (clr0 rfl rfl (by decide) (by decide)) rfl (by decide) rfl (Nat.le_of_ble_eq_true rfl) rfl dX8_barring_31 (fun x8 bx8 hx8 => ?_)
        have hfl : x8 = b * farL (-(M 86 (17 * (1 + hz)))) / 1000 := by rw [hx8]; omega
        refine z_aload_nr dX8_barring_34 rfl ?_
        refine z_geti (kz := 20) fl_X8_273 rfl (by decide) rfl dX8_barring_35 (fun x9 hx9 bx9 => ?_)
        refine z_i2l dX8_barring_38 ?_
        first | refine z_lsubN dX8_barring_39 (by omega) (fun x10 hx10 => ?_) | refine z_lsub dX8_barring_39 (fun x10 hx10 => ?_)
        refine z_lstore_n (loc2 := [fr 60, fi b, fi hz, fl x10, fu, fu, fu]) dX8_barring_40 (by decide) rfl ?_
        refine z_iload_n dX8_barring_41 rfl ?_
        refine z_i2l dX8_barring_42 ?_
        refine z_aload_nr dX8_barring_43 rfl ?_
        refine z_iload_n dX8_barring_44 rfl ?_
        refine z_callVip (n2 := 93) (A_X8_highEnd l g M hz (by omega) (by omega)) cb_X8_highEnd cl_X8_365 (clr0 rfl rfl (by decide) (by decide)) rfl (by decide) ⟨_, rfl, rfl⟩ rfl (by decide) rfl (Nat.le_of_ble_eq_true rfl) rfl dX8_barring_45 (fun x11 bx11 hx11 => ?_)
        have hhi := hx11
        refine z_iconst dX8_barring_48 ⟨by decide, by decide⟩ ?_
        refine z_callSlp (n2 := 93) (A_X8_farOf l g M x11 1 (by omega) (by omega)) cb_X8_farOf cl_X8_410 (clr0 rfl rfl (by decide) (by decide)) rfl (by decide) rfl (Nat.le_of_ble_eq_true rfl) rfl dX8_barring_49 (fun x12 bx12 hx12 => ?_)
        have hfb := hx12
        have hp2 : b * x12 = b * farU (M 86 (1 + hz)) := by rw [hfb, if_neg (by decide), hhi]
        refine z_lmulN dX8_barring_52 (by rw [hp2]; omega) (fun x13 hx13 => ?_)
        refine z_ldc2 (c := 1000) cn_X8_293 ⟨by decide, by decide⟩ dX8_barring_53 ?_
        refine z_callSlp (n2 := 93) (A_X8_ceiling l g M x13 1000 (by omega) (by omega)) cb_X8_ceiling cl_X8_295 (clr0 rfl rfl (by decide) (by decide)) rfl (by decide) rfl (Nat.le_of_ble_eq_true rfl) rfl dX8_barring_56 (fun x14 bx14 hx14 => ?_)
        have hce : x14 = -((-(b * farU (M 86 (1 + hz)))) / 1000) := by rw [hx14]; omega
        refine z_aload_nr dX8_barring_59 rfl ?_
        refine z_geti (kz := 20) fl_X8_273 rfl (by decide) rfl dX8_barring_60 (fun x15 hx15 bx15 => ?_)
        refine z_i2l dX8_barring_63 ?_
        first | refine z_laddN dX8_barring_64 (by omega) (fun x16 hx16 => ?_) | refine z_ladd dX8_barring_64 (fun x16 hx16 => ?_)
        refine z_lstore (loc2 := [fr 60, fi b, fi hz, fl x10, fu, fl x16, fu]) dX8_barring_65 (by decide) rfl ?_
        refine z_aload_nr dX8_barring_67 rfl ?_
        refine z_getr (b := 74) fl_X8_50 rfl (by decide) rf_60_15 rfl dX8_barring_68 ?_
        refine z_iload_n dX8_barring_71 rfl ?_
        refine z_iald rfl (by decide) (by omega) (by omega) dX8_barring_72 (fun x17 hx17 bx17 => ?_)
        refine z_i2l dX8_barring_73 ?_
        refine z_lload_n dX8_barring_74 rfl ?_
        refine z_lload dX8_barring_75 rfl ?_
        refine z_callSip (n2 := 93) (A_X8_in l g M x17 x10 x16) cb_X8_in cl_X8_130 (clr0 rfl rfl (by decide) (by decide)) rfl (by decide) rfl (Nat.le_of_ble_eq_true rfl) rfl dX8_barring_77 (fun x18 bx18 hx18 => ?_)
        have i18 := if01 hx18
        refine z_if_ne (tgt := 85) dX8_barring_80 (by decide) (fun c19 => ?_) (fun c19 => ?_)
        · refine z_iinc (loc2 := fun vq => [fr 60, fi b, fi vq, fl x10, fu, fl x16, fu]) dX8_barring_85 rfl (by decide) (by omega) (fun _ => rfl) (fun x20 hx20 => ?_)
          refine z_goto (tgt := 2) dX8_barring_88 (by decide) ?_
          have hnb : ¬ (BoxNo S (fun h => M 74 h) (M 60 20) b) hz := by
            rintro ⟨lo, up, z1, z2⟩
            first
            | exact spk_no hes hrh.1 (by omega) z1
            | (obtain ⟨e1, e2⟩ := Ends2_eq z1.2.1 hsp.1.2.1
               rw [e1, e2] at z2
               apply z2
               show b * farL (-(M 86 (17 * (1 + hz)))) / 1000 - M 60 20 ≤ M 74 hz ∧ M 74 hz ≤ -((-(b * farU (M 86 (1 + hz)))) / 1000) + M 60 20
               omega)
          refine z_few [fr 60, fi b, fi x20, fu, fu, fu, fu] (by simp [fle, kn]) ?_
          exact ih2 _ (by omega) x20 rfl (by omega) (fun h a b => by
            by_cases e : h = hz
            · rw [e]; exact hnb
            · exact h1 h a (by omega))
        · refine z_iload_n dX8_barring_83 rfl ?_
          refine z_iret rfl (by decide) rfl (Nat.sub_self _) dX8_barring_84 ?_
          refine ⟨rfl, Or.inr ⟨by omega, ⟨_, _, hsp.1, ?_⟩, h1⟩⟩
          show ¬ (b * farL (-(M 86 (17 * (1 + hz)))) / 1000 - M 60 20 ≤ M 74 hz ∧ M 74 hz ≤ -((-(b * farU (M 86 (1 + hz)))) / 1000) + M 60 20)
          omega
  refine z_iconst dX8_barring_0 ⟨by decide, by decide⟩ ?_
  refine z_istore_n (loc2 := [fr 60, fi b, fi 0, fu, fu, fu, fu]) dX8_barring_1 (by decide) rfl ?_
  exact lp2 _ 0 rfl (by omega) (fun h a b => by omega)
