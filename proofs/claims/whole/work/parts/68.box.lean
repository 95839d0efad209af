/-! ===== the reference: boxes, box, delay ===== -/
def LLm (m : Nat) : Int := tabV ((m % 50 : Nat) : Int) * 10 ^ (m / 50)
theorem LL_tab : ∀ m : Fin 401, LLm m.val ≤ (if ((m.val % 50 : Nat) : Int) + 1 < 50 then (tabV (((m.val % 50 : Nat) : Int) + 1) + 1) * 10 ^ (m.val / 50) else 10000 * 10 ^ (m.val / 50)) ∧ (m.val < 400 → LLm m.val ≤ LLm (m.val + 1)) := by decide +kernel
theorem LL_mono : ∀ (d m : Nat), m + d ≤ 400 → LLm m ≤ LLm (m + d) := by
  intro d
  induction d with
  | zero => intro m _; exact Int.le_refl _
  | succ d ih =>
    intro m h
    have h1 := ih m (by omega)
    have h2 := (LL_tab ⟨m + d, by omega⟩).2 (by show m + d < 400; omega)
    exact Int.le_trans h1 h2
theorem farL_m {f : Int} (h0 : 0 ≤ f) : farL f = LLm (f / 100).toNat ∧ p10 f = 10 ^ ((f / 100).toNat / 50) ∧ ((((f / 100).toNat % 50 : Nat) : Int) = f % 5000 / 100) := by
  have e1 : (((f / 100).toNat % 50 : Nat) : Int) = f % 5000 / 100 := by omega
  have e2 : (f / 5000).toNat = (f / 100).toNat / 50 := by omega
  refine ⟨?_, ?_, e1⟩
  · unfold farL LLm p10
    rw [e1, e2]
  · unfold p10
    rw [e2]
theorem far_lu {lo up : Int} (h0 : 0 ≤ lo) (h1 : lo ≤ up) (h2 : up ≤ 40000) : farL lo ≤ farU up := by
  obtain ⟨a1, -, -⟩ := farL_m h0
  obtain ⟨b1, b2, b3⟩ := farL_m (show 0 ≤ up by omega)
  have hm := LL_mono ((up / 100).toNat - (lo / 100).toNat) (lo / 100).toNat (by omega)
  rw [show (lo / 100).toNat + ((up / 100).toNat - (lo / 100).toNat) = (up / 100).toNat by omega, ← a1, ← b1] at hm
  have hu : farL up ≤ farU up := by
    have ht := (LL_tab ⟨(up / 100).toNat, by omega⟩).1
    simp only at ht
    rw [← b1, ← b2, b3] at ht
    have hp := (pow10 (n := up / 5000) (by omega) (by omega)).1
    have hpp : 1 ≤ p10 up := hp
    unfold farU
    split
    · split
      · exact Int.le_refl _
      · omega
    · exact ht
  omega
theorem RedN_off {M M2 : FMem} (h : OffM M M2) (hr : RedN M) : RedN M2 := by
  unfold RedN at hr ⊢
  rw [OffM_c h (b := 74) (by decide)]
  exact hr
set_option maxHeartbeats 400000 in
theorem A_X8_box (l : Launch) (g : Cx) (M : FMem) (b : Int) (hT : MT M) (hr : RedN M) : AMi l g true fi_X8_box [fr 60, fi b] 93 M (fun q M2 => OffN M M2 ∧ PBox (SolR M (M 60 0) (-1) (-1) (-1) 0) (fun h => M 74 h) (M 60 20) b q) := by
  refine AMi_intro [fr 60, fi b] (by decide) (knall rfl) (Nat.le_of_ble_eq_true rfl) rfl ?_
  intro hNV hM0 μ
  have bb : N32 b := hNV (fi b) (by simp)
  refine z_iload_n dX8_box_0 rfl ?_
  refine z_i2l dX8_box_1 ?_
  refine z_lconst1 dX8_box_2 ?_
  refine z_ldc2 (c := 200) cn_X8_427 ⟨by decide, by decide⟩ dX8_box_3 ?_
  refine z_callSip (n2 := 93) (A_X8_in l g M b 1 200) cb_X8_in cl_X8_130 (clr0 rfl rfl (by decide) (by decide)) rfl (by decide) rfl (Nat.le_of_ble_eq_true rfl) rfl dX8_box_6 (fun x1 bx1 hx1 => ?_)
  have i1 := if01 hx1
  refine z_if_ne (tgt := 15) dX8_box_9 (by decide) (fun c2 => ?_) (fun c2 => ?_)
  · refine z_aload_nr dX8_box_15 rfl ?_
    refine z_aload_nr dX8_box_16 rfl ?_
    refine z_geti (kz := 0) fl_X8_136 rfl (by decide) rfl dX8_box_17 (fun x3 hx3 bx3 => ?_)
    have hnn : x3 = M 60 0 := by assumption
    refine z_callVi (n2 := 93) (A_X8_sumWays l g M x3 (hT.1) (wide0 hT)) cb_X8_sumWays cl_X8_335 (clr0 rfl rfl (by decide) (by decide)) rfl (by decide) ⟨_, rfl, rfl⟩ rfl (by decide) rfl (Nat.le_of_ble_eq_true rfl) rfl dX8_box_20 (fun x4 Mz4 bx4 kMz4 hc4 => ?_)
    have hsw := hc4
    rw [SolM_MT hT _] at hsw
    have hoN := OffN_w hT hsw.1
    refine z_if_eq (tgt := 34) dX8_box_23 (by decide) (fun c5 => ?_) (fun c5 => ?_)
    · refine z_ldc_w (c := -1000005) cn_X8_357 ⟨by decide, by decide⟩ dX8_box_34 ?_
      refine z_iret rfl (by decide) rfl (Nat.sub_self _) dX8_box_37 ?_
      refine ⟨hoN, ?_⟩
      unfold PBox
      rw [if_neg (by omega)]
      first
      | exact Or.inr ⟨hsf.1, hba⟩
      | (refine Or.inl ⟨?_, rfl⟩
         rw [hnn] at hsw
         rcases hsw.2 with z | z
         · exfalso; omega
         · exact z.2)
    · rw [hnn] at hsw
      have hsf : Feas (SolR M (M 60 0) (-1) (-1) (-1) 0) ∧ WF (SolR M (M 60 0) (-1) (-1) (-1) 0) Mz4 := by
        rcases hsw.2 with z | z
        · exact z.2
        · exfalso; omega
      have hr2 := RedN_off hoN.1 hr
      have q74 : Mz4 74 = M 74 := OffM_c hoN.1 (by decide)
      have q20 := OffM_o hoN.1 (j := 20) (by decide)
      have hown := hT.1.2.2.2.2.2.2.1
      refine z_aload_nr dX8_box_26 rfl ?_
      refine z_iload_n dX8_box_27 rfl ?_
      refine z_callVip (n2 := 93) (A_X8_barring l g Mz4 b (by omega) ((SolR M (M 60 0) (-1) (-1) (-1) 0)) (hsf.1) (hsf.2) (hr2) (by rw [q20]; exact hown)) cb_X8_barring cl_X8_424 (clr0 rfl rfl (by decide) (by decide)) rfl (by decide) ⟨_, rfl, rfl⟩ rfl (by decide) rfl (Nat.le_of_ble_eq_true rfl) rfl dX8_box_28 (fun x6 bx6 hx6 => ?_)
      have hba := hx6
      rw [q20, q74] at hba
      refine z_goto (tgt := 37) dX8_box_31 (by decide) ?_
      refine z_iret rfl (by decide) rfl (Nat.sub_self _) dX8_box_37 ?_
      refine ⟨hoN, ?_⟩
      unfold PBox
      rw [if_neg (by omega)]
      first
      | exact Or.inr ⟨hsf.1, hba⟩
      | (refine Or.inl ⟨?_, rfl⟩
         rw [hnn] at hsw
         rcases hsw.2 with z | z
         · exfalso; omega
         · exact z.2)
  · refine z_ldc (c := -1000002) cn_X8_164 ⟨by decide, by decide⟩ dX8_box_12 ?_
    refine z_iret rfl (by decide) rfl (Nat.sub_self _) dX8_box_14 ?_
    refine ⟨OffN_rfl hT, ?_⟩
    unfold PBox
    rw [if_pos (by omega)]
set_option maxHeartbeats 3200000 in
theorem A_X8_boxes (l : Launch) (g : Cx) (M : FMem) (what : Int) (hT : MT M) (hr : RedN M) : AMi l g true fi_X8_boxes [fr 60, fi what] 93 M (fun q M2 => OffN M M2 ∧ PBoxes (SolR M (M 60 0) (-1) (-1) (-1) 0) (fun h => M 74 h) (M 60 20) what q) := by
  refine AMi_intro [fr 60, fi what, fu, fu, fu, fu, fu] (by decide) (knall rfl) (Nat.le_of_ble_eq_true rfl) rfl ?_
  intro hNV hM0 μ
  have bwhat : N32 what := hNV (fi what) (by simp)
  have lp87 : ∀ (kq : Nat) (cz fz gz nz hz : Int) (M1 : FMem), (10 - hz).toNat = kq → (0 ≤ what ∧ what ≤ 3) → (OffN M M1) → (Feas (SolR M (M 60 0) (-1) (-1) (-1) 0) ∧ WF (SolR M (M 60 0) (-1) (-1) (-1) 0) M1) → (0 ≤ hz ∧ hz ≤ 10) → (KeptB (fun b => ∀ h, 0 ≤ h → h < 10 → ¬ BoxNo (SolR M (M 60 0) (-1) (-1) (-1) 0) (fun h => M 74 h) (M 60 20) b h) 201 cz fz gz) → (nz = sumI (fun h => c01 (Spk (SolR M (M 60 0) (-1) (-1) (-1) 0) (fun h => M 74 h) h)) hz) → Wa l g true fi_X8_boxes 93 μ (Zi g true fi_X8_boxes 93 μ (fun q M2 => OffN M M2 ∧ PBoxes (SolR M (M 60 0) (-1) (-1) (-1) 0) (fun h => M 74 h) (M 60 20) what q)) 87 [] [fr 60, fi what, fi cz, fi fz, fi gz, fi nz, fi hz] 93 M1 := by
    intro kq
    induction kq using Nat.strongRecOn with
    | _ kq ih87 =>
    intro cz fz gz nz hz M1 hk87 hA hO hF h0 h1 h2
    have hr2 := RedN_off hO.1 hr
    have q74 : M1 74 = M 74 := OffM_c hO.1 (by decide)
    have q20 := OffM_o hO.1 (j := 20) (by decide)
    have hown := hT.1.2.2.2.2.2.2.1
    have hsl := sumI_le (f := fun h => c01 (Spk (SolR M (M 60 0) (-1) (-1) (-1) 0) (fun h => M 74 h) h)) (fun h => c01_r _) hz
    refine z_iload dX8_boxes_87 rfl ?_
    refine z_bipush dX8_boxes_89 ⟨by decide, by decide⟩ (by decide) ?_
    refine z_icmp_ge (tgt := 114) dX8_boxes_91 (by decide) (fun c1 => ?_) (fun c1 => ?_)
    · refine z_iload_n dX8_boxes_114 rfl ?_
      refine z_if_ne (tgt := 122) dX8_boxes_115 (by decide) (fun c2 => ?_) (fun c2 => ?_)
      · refine z_iload_n dX8_boxes_122 rfl ?_
        refine z_iconst dX8_boxes_123 ⟨by decide, by decide⟩ ?_
        refine z_icmp_ne (tgt := 131) dX8_boxes_124 (by decide) (fun c3 => ?_) (fun c3 => ?_)
        · refine z_iload_n dX8_boxes_131 rfl ?_
          refine z_iconst dX8_boxes_132 ⟨by decide, by decide⟩ ?_
          refine z_icmp_ne (tgt := 141) dX8_boxes_133 (by decide) (fun c4 => ?_) (fun c4 => ?_)
          · refine z_iload dX8_boxes_141 rfl ?_
            refine z_iret rfl (by decide) rfl (Nat.sub_self _) dX8_boxes_143 ?_
            refine ⟨hO, ?_⟩
            unfold PBoxes
            rw [if_neg (by omega)]
            first
            | (refine Or.inr (Or.inr ⟨hF.1, by omega, _, _, _, h1, ?_⟩)
               first
               | rw [if_pos (by omega)]
               | (rw [if_neg (by omega), if_pos (by omega)])
               | (rw [if_neg (by omega), if_neg (by omega)]))
            | (refine Or.inr (Or.inl ⟨hF.1, by omega, ?_⟩)
               rw [h2, show hz = 10 by omega])
          · refine z_iload dX8_boxes_136 rfl ?_
            refine z_goto (tgt := 143) dX8_boxes_138 (by decide) ?_
            refine z_iret rfl (by decide) rfl (Nat.sub_self _) dX8_boxes_143 ?_
            refine ⟨hO, ?_⟩
            unfold PBoxes
            rw [if_neg (by omega)]
            first
            | (refine Or.inr (Or.inr ⟨hF.1, by omega, _, _, _, h1, ?_⟩)
               first
               | rw [if_pos (by omega)]
               | (rw [if_neg (by omega), if_pos (by omega)])
               | (rw [if_neg (by omega), if_neg (by omega)]))
            | (refine Or.inr (Or.inl ⟨hF.1, by omega, ?_⟩)
               rw [h2, show hz = 10 by omega])
        · refine z_iload_n dX8_boxes_127 rfl ?_
          refine z_goto (tgt := 143) dX8_boxes_128 (by decide) ?_
          refine z_iret rfl (by decide) rfl (Nat.sub_self _) dX8_boxes_143 ?_
          refine ⟨hO, ?_⟩
          unfold PBoxes
          rw [if_neg (by omega)]
          first
          | (refine Or.inr (Or.inr ⟨hF.1, by omega, _, _, _, h1, ?_⟩)
             first
             | rw [if_pos (by omega)]
             | (rw [if_neg (by omega), if_pos (by omega)])
             | (rw [if_neg (by omega), if_neg (by omega)]))
          | (refine Or.inr (Or.inl ⟨hF.1, by omega, ?_⟩)
             rw [h2, show hz = 10 by omega])
      · refine z_iload_n dX8_boxes_118 rfl ?_
        refine z_goto (tgt := 143) dX8_boxes_119 (by decide) ?_
        refine z_iret rfl (by decide) rfl (Nat.sub_self _) dX8_boxes_143 ?_
        refine ⟨hO, ?_⟩
        unfold PBoxes
        rw [if_neg (by omega)]
        first
        | (refine Or.inr (Or.inr ⟨hF.1, by omega, _, _, _, h1, ?_⟩)
           first
           | rw [if_pos (by omega)]
           | (rw [if_neg (by omega), if_pos (by omega)])
           | (rw [if_neg (by omega), if_neg (by omega)]))
        | (refine Or.inr (Or.inl ⟨hF.1, by omega, ?_⟩)
           rw [h2, show hz = 10 by omega])
    · have hes := WF_es hF.2 (h := hz) (by omega) (by omega)
      refine z_iload dX8_boxes_94 rfl ?_
      refine z_aload_nr dX8_boxes_96 rfl ?_
      refine z_iload dX8_boxes_97 rfl ?_
      refine z_callVip (n2 := 93) (A_X8_speaks l g M1 hz (by omega) (ES_b hes)) cb_X8_speaks cl_X8_419 (clr0 rfl rfl (by decide) (by decide)) rfl (by decide) ⟨_, rfl, rfl⟩ rfl (by decide) rfl (Nat.le_of_ble_eq_true rfl) rfl dX8_boxes_99 (fun x5 bx5 hx5 => ?_)
      have i5 := if01 hx5
      have isp := if01 hx5
      refine z_callSip (n2 := 93) (A_X8_one l g M1 x5 (by omega)) cb_X8_one cl_X8_184 (clr0 rfl rfl (by decide) (by decide)) rfl (by decide) rfl (Nat.le_of_ble_eq_true rfl) rfl dX8_boxes_102 (fun x6 bx6 hx6 => ?_)
      first | refine z_iaddN dX8_boxes_105 (by omega) (fun x7 hx7 => ?_) | refine z_iadd dX8_boxes_105 (fun x7 hx7 => ?_)
      refine z_istore (loc2 := [fr 60, fi what, fi cz, fi fz, fi gz, fi x7, fi hz]) dX8_boxes_106 (by decide) rfl ?_
      refine z_iinc (loc2 := fun vq => [fr 60, fi what, fi cz, fi fz, fi gz, fi x7, fi vq]) dX8_boxes_108 rfl (by decide) (by omega) (fun _ => rfl) (fun x8 hx8 => ?_)
      refine z_goto (tgt := 87) dX8_boxes_111 (by decide) ?_
      have g2 : x7 = sumI (fun h => c01 (Spk (SolR M (M 60 0) (-1) (-1) (-1) 0) (fun h => M 74 h) h)) (hz + 1) := by
        rw [sumI_succ h0.1, ← h2]
        rcases isp with ⟨z1, z2⟩ | ⟨z1, z2⟩
        · have hy := (spk_yes hF.1 hes z2).1
          rw [q74] at hy
          rw [c01_t ⟨_, _, hy⟩]; omega
        · rw [c01_f (fun ⟨lo, up, hq⟩ => spk_no hes (hr2 hz (by omega) (by omega)).1 z2 (by rw [q74]; exact hq))]; omega
      exact ih87 _ (by omega) cz fz gz x7 x8 M1 rfl (hA) (hO) (hF) (by omega) (h1) (by rw [hx8]; exact g2)
  have lp43 : ∀ (kq : Nat) (cz fz gz bz : Int) (M1 : FMem), (201 - bz).toNat = kq → (0 ≤ what ∧ what ≤ 3) → (OffN M M1) → (Feas (SolR M (M 60 0) (-1) (-1) (-1) 0) ∧ WF (SolR M (M 60 0) (-1) (-1) (-1) 0) M1) → (1 ≤ bz ∧ bz ≤ 201) → (KeptB (fun b => ∀ h, 0 ≤ h → h < 10 → ¬ BoxNo (SolR M (M 60 0) (-1) (-1) (-1) 0) (fun h => M 74 h) (M 60 20) b h) bz cz fz gz) → (0 ≤ cz ∧ cz < bz) → (-1 ≤ fz ∧ fz < bz ∧ -1 ≤ gz ∧ gz < bz) → Wa l g true fi_X8_boxes 93 μ (Zi g true fi_X8_boxes 93 μ (fun q M2 => OffN M M2 ∧ PBoxes (SolR M (M 60 0) (-1) (-1) (-1) 0) (fun h => M 74 h) (M 60 20) what q)) 43 [] [fr 60, fi what, fi cz, fi fz, fi gz, fi 0, fi bz] 93 M1 := by
    intro kq
    induction kq using Nat.strongRecOn with
    | _ kq ih43 =>
    intro cz fz gz bz M1 hk43 hA hO hF h0 h1 h2 h3
    have hr2 := RedN_off hO.1 hr
    have q74 : M1 74 = M 74 := OffM_c hO.1 (by decide)
    have q20 := OffM_o hO.1 (j := 20) (by decide)
    have hown := hT.1.2.2.2.2.2.2.1
    refine z_iload dX8_boxes_43 rfl ?_
    refine z_sipush dX8_boxes_45 ⟨by decide, by decide⟩ (by decide) ?_
    refine z_icmp_gt (tgt := 84) dX8_boxes_48 (by decide) (fun c9 => ?_) (fun c9 => ?_)
    · refine z_iconst dX8_boxes_84 ⟨by decide, by decide⟩ ?_
      refine z_istore (loc2 := [fr 60, fi what, fi cz, fi fz, fi gz, fi 0, fi 0]) dX8_boxes_85 (by decide) rfl ?_
      exact lp87 _ cz fz gz 0 0 M1 rfl (hA) (hO) (hF) (by omega) (by rw [show (201 : Int) = bz by omega]; exact h1) (rfl)
    · refine z_aload_nr dX8_boxes_51 rfl ?_
      refine z_iload dX8_boxes_52 rfl ?_
      refine z_callVip (n2 := 93) (A_X8_barring l g M1 bz (by omega) ((SolR M (M 60 0) (-1) (-1) (-1) 0)) (hF.1) (hF.2) (hr2) (by rw [q20]; exact hown)) cb_X8_barring cl_X8_424 (clr0 rfl rfl (by decide) (by decide)) rfl (by decide) ⟨_, rfl, rfl⟩ rfl (by decide) rfl (Nat.le_of_ble_eq_true rfl) rfl dX8_boxes_54 (fun x10 bx10 hx10 => ?_)
      have hba := hx10
      rw [q20, q74] at hba
      unfold FstH at hba
      refine z_if_ge (tgt := 78) dX8_boxes_57 (by decide) (fun c11 => ?_) (fun c11 => ?_)
      · refine z_iinc (loc2 := fun vq => [fr 60, fi what, fi cz, fi fz, fi gz, fi 0, fi vq]) dX8_boxes_78 rfl (by decide) (by omega) (fun _ => rfl) (fun x12 hx12 => ?_)
        refine z_goto (tgt := 43) dX8_boxes_81 (by decide) ?_
        have hk : KeptB (fun b => ∀ h, 0 ≤ h → h < 10 → ¬ BoxNo (SolR M (M 60 0) (-1) (-1) (-1) 0) (fun h => M 74 h) (M 60 20) b h) (bz + 1) cz fz gz := by
          rcases hba with q | q
          · first
            | (exfalso; omega)
            | (have e2 : cz = cz + 1 := by omega
               have e4 : gz = bz := by omega
               rw [e2, e4]
               exact KeptB_yes h0.1 h1 q.2 (by omega))
          · first
            | (exfalso; omega)
            | exact KeptB_no h0.1 h1 (fun z => z _ q.1.1 q.1.2 q.2.1)
        exact ih43 _ (by omega) cz fz gz x12 M1 rfl (hA) (hO) (hF) (by omega) (by rw [hx12]; exact hk) (by omega) (by omega)
      · refine z_iinc (loc2 := fun vq => [fr 60, fi what, fi vq, fi fz, fi gz, fi 0, fi bz]) dX8_boxes_60 rfl (by decide) (by omega) (fun _ => rfl) (fun x13 hx13 => ?_)
        refine z_iload_n dX8_boxes_63 rfl ?_
        refine z_if_ge (tgt := 72) dX8_boxes_64 (by decide) (fun c14 => ?_) (fun c14 => ?_)
        · refine z_iload_n dX8_boxes_72 rfl ?_
          refine z_istore_n (loc2 := [fr 60, fi what, fi x13, fi fz, fi gz, fi 0, fi bz]) dX8_boxes_73 (by decide) rfl ?_
          refine z_iload dX8_boxes_74 rfl ?_
          refine z_istore (loc2 := [fr 60, fi what, fi x13, fi fz, fi bz, fi 0, fi bz]) dX8_boxes_76 (by decide) rfl ?_
          refine z_iinc (loc2 := fun vq => [fr 60, fi what, fi x13, fi fz, fi bz, fi 0, fi vq]) dX8_boxes_78 rfl (by decide) (by omega) (fun _ => rfl) (fun x15 hx15 => ?_)
          refine z_goto (tgt := 43) dX8_boxes_81 (by decide) ?_
          have hk : KeptB (fun b => ∀ h, 0 ≤ h → h < 10 → ¬ BoxNo (SolR M (M 60 0) (-1) (-1) (-1) 0) (fun h => M 74 h) (M 60 20) b h) (bz + 1) x13 fz bz := by
            rcases hba with q | q
            · first
              | (exfalso; omega)
              | (have e2 : x13 = cz + 1 := by omega
                 have e4 : bz = bz := by omega
                 rw [e2, e4]
                 exact KeptB_yes h0.1 h1 q.2 (by omega))
            · first
              | (exfalso; omega)
              | exact KeptB_no h0.1 h1 (fun z => z _ q.1.1 q.1.2 q.2.1)
          exact ih43 _ (by omega) x13 fz bz x15 M1 rfl (hA) (hO) (hF) (by omega) (by rw [hx15]; exact hk) (by omega) (by omega)
        · refine z_iload dX8_boxes_67 rfl ?_
          refine z_goto (tgt := 73) dX8_boxes_69 (by decide) ?_
          refine z_istore_n (loc2 := [fr 60, fi what, fi x13, fi bz, fi gz, fi 0, fi bz]) dX8_boxes_73 (by decide) rfl ?_
          refine z_iload dX8_boxes_74 rfl ?_
          refine z_istore (loc2 := [fr 60, fi what, fi x13, fi bz, fi bz, fi 0, fi bz]) dX8_boxes_76 (by decide) rfl ?_
          refine z_iinc (loc2 := fun vq => [fr 60, fi what, fi x13, fi bz, fi bz, fi 0, fi vq]) dX8_boxes_78 rfl (by decide) (by omega) (fun _ => rfl) (fun x16 hx16 => ?_)
          refine z_goto (tgt := 43) dX8_boxes_81 (by decide) ?_
          have hk : KeptB (fun b => ∀ h, 0 ≤ h → h < 10 → ¬ BoxNo (SolR M (M 60 0) (-1) (-1) (-1) 0) (fun h => M 74 h) (M 60 20) b h) (bz + 1) x13 bz bz := by
            rcases hba with q | q
            · first
              | (exfalso; omega)
              | (have e2 : x13 = cz + 1 := by omega
                 have e4 : bz = bz := by omega
                 rw [e2, e4]
                 exact KeptB_yes h0.1 h1 q.2 (by omega))
            · first
              | (exfalso; omega)
              | exact KeptB_no h0.1 h1 (fun z => z _ q.1.1 q.1.2 q.2.1)
          exact ih43 _ (by omega) x13 bz bz x16 M1 rfl (hA) (hO) (hF) (by omega) (by rw [hx16]; exact hk) (by omega) (by omega)
  refine z_iload_n dX8_boxes_0 rfl ?_
  refine z_i2l dX8_boxes_1 ?_
  refine z_lconst0 dX8_boxes_2 ?_
  refine z_ldc2 (c := 3) cn_X8_422 ⟨by decide, by decide⟩ dX8_boxes_3 ?_
  refine z_callSip (n2 := 93) (A_X8_in l g M what 0 3) cb_X8_in cl_X8_130 (clr0 rfl rfl (by decide) (by decide)) rfl (by decide) rfl (Nat.le_of_ble_eq_true rfl) rfl dX8_boxes_6 (fun x17 bx17 hx17 => ?_)
  have i17 := if01 hx17
  refine z_if_ne (tgt := 15) dX8_boxes_9 (by decide) (fun c18 => ?_) (fun c18 => ?_)
  · refine z_aload_nr dX8_boxes_15 rfl ?_
    refine z_aload_nr dX8_boxes_16 rfl ?_
    refine z_geti (kz := 0) fl_X8_136 rfl (by decide) rfl dX8_boxes_17 (fun x19 hx19 bx19 => ?_)
    have hnn : x19 = M 60 0 := by assumption
    refine z_callVi (n2 := 93) (A_X8_sumWays l g M x19 (hT.1) (wide0 hT)) cb_X8_sumWays cl_X8_335 (clr0 rfl rfl (by decide) (by decide)) rfl (by decide) ⟨_, rfl, rfl⟩ rfl (by decide) rfl (Nat.le_of_ble_eq_true rfl) rfl dX8_boxes_20 (fun x20 Mz20 bx20 kMz20 hc20 => ?_)
    have hsw := hc20
    rw [SolM_MT hT _] at hsw
    have hoN := OffN_w hT hsw.1
    refine z_if_ne (tgt := 30) dX8_boxes_23 (by decide) (fun c21 => ?_) (fun c21 => ?_)
    · rw [hnn] at hsw
      have hsf : Feas (SolR M (M 60 0) (-1) (-1) (-1) 0) ∧ WF (SolR M (M 60 0) (-1) (-1) (-1) 0) Mz20 := by
        rcases hsw.2 with z | z
        · exact z.2
        · exfalso; omega
      refine z_iconst dX8_boxes_30 ⟨by decide, by decide⟩ ?_
      refine z_istore_n (loc2 := [fr 60, fi what, fi 0, fu, fu, fu, fu]) dX8_boxes_31 (by decide) rfl ?_
      refine z_iconst dX8_boxes_32 ⟨by decide, by decide⟩ ?_
      refine z_istore_n (loc2 := [fr 60, fi what, fi 0, fi (-1), fu, fu, fu]) dX8_boxes_33 (by decide) rfl ?_
      refine z_iconst dX8_boxes_34 ⟨by decide, by decide⟩ ?_
      refine z_istore (loc2 := [fr 60, fi what, fi 0, fi (-1), fi (-1), fu, fu]) dX8_boxes_35 (by decide) rfl ?_
      refine z_iconst dX8_boxes_37 ⟨by decide, by decide⟩ ?_
      refine z_istore (loc2 := [fr 60, fi what, fi 0, fi (-1), fi (-1), fi 0, fu]) dX8_boxes_38 (by decide) rfl ?_
      refine z_iconst dX8_boxes_40 ⟨by decide, by decide⟩ ?_
      refine z_istore (loc2 := [fr 60, fi what, fi 0, fi (-1), fi (-1), fi 0, fi 1]) dX8_boxes_41 (by decide) rfl ?_
      exact lp43 _ 0 (-1) (-1) 1 Mz20 rfl (by omega) (hoN) (hsf) (by omega) (⟨rfl, Or.inl ⟨rfl, fun v _ z => by omega⟩, Or.inl ⟨rfl, fun v _ z => by omega⟩⟩) (by omega) (by omega)
    · refine z_ldc_w (c := -1000005) cn_X8_357 ⟨by decide, by decide⟩ dX8_boxes_26 ?_
      refine z_iret rfl (by decide) rfl (Nat.sub_self _) dX8_boxes_29 ?_
      refine ⟨hoN, ?_⟩
      unfold PBoxes
      rw [if_neg (by omega)]
      refine Or.inl ⟨?_, rfl⟩
      rw [hnn] at hsw
      rcases hsw.2 with z | z
      · exfalso; omega
      · exact z.2
  · refine z_ldc (c := -1000002) cn_X8_164 ⟨by decide, by decide⟩ dX8_boxes_12 ?_
    refine z_iret rfl (by decide) rfl (Nat.sub_self _) dX8_boxes_14 ?_
    refine ⟨OffN_rfl hT, ?_⟩
    unfold PBoxes
    rw [if_pos (by omega)]
set_option maxHeartbeats 1600000 in
theorem A_X8_delay (l : Launch) (g : Cx) (M : FMem) (home u v : Int) (hT : MT M) : AMl l g true fi_X8_delay [fr 60, fi home, fl u, fl v] 93 M (fun q M2 => OffN M M2 ∧ PDelay (SolR M (M 60 0) (-1) (-1) (-1) 0) home u v q) := by
  refine AMl_intro [fr 60, fi home, fl u, fu, fl v, fu, fu, fu, fu, fu] (by decide) (knall rfl) (Nat.le_of_ble_eq_true rfl) rfl ?_
  intro hNV hM0 μ
  have bhome : N32 home := hNV (fi home) (by simp)
  have bu : N64 u := hNV (fl u) (by simp)
  have bv : N64 v := hNV (fl v) (by simp)
  refine z_iload_n dX8_delay_0 rfl ?_
  refine z_callSip (n2 := 93) (A_X8_isHome l g M home) cb_X8_isHome cl_X8_150 (clr0 rfl rfl (by decide) (by decide)) rfl (by decide) rfl (Nat.le_of_ble_eq_true rfl) rfl dX8_delay_1 (fun x1 bx1 hx1 => ?_)
  have i1 := if01 hx1
  refine z_if_ne (tgt := 11) dX8_delay_4 (by decide) (fun c2 => ?_) (fun c2 => ?_)
  · refine z_lload_n dX8_delay_11 rfl ?_
    refine z_lconst1 dX8_delay_12 ?_
    refine z_lload dX8_delay_13 rfl ?_
    refine z_callSip (n2 := 93) (A_X8_in l g M u 1 v) cb_X8_in cl_X8_130 (clr0 rfl rfl (by decide) (by decide)) rfl (by decide) rfl (Nat.le_of_ble_eq_true rfl) rfl dX8_delay_15 (fun x3 bx3 hx3 => ?_)
    have i3 := if01 hx3
    refine z_if_eq (tgt := 30) dX8_delay_18 (by decide) (fun c4 => ?_) (fun c4 => ?_)
    · refine z_ldc2 (c := -1000002) cn_X8_414 ⟨by decide, by decide⟩ dX8_delay_30 ?_
      refine z_lret rfl (by decide) rfl (Nat.sub_self _) dX8_delay_33 ?_
      refine ⟨OffN_rfl hT, ?_⟩
      unfold PDelay
      rw [if_neg (by omega), if_pos (by omega)]
    · refine z_lload dX8_delay_21 rfl ?_
      refine z_ldc2 (c := 2000000000) cn_X8_431 ⟨by decide, by decide⟩ dX8_delay_23 ?_
      refine z_lcmp_le (tgt := 34) dX8_delay_26 dX8_delay_27 (by decide) (fun c5 => ?_) (fun c5 => ?_)
      · refine z_aload_nr dX8_delay_34 rfl ?_
        refine z_aload_nr dX8_delay_35 rfl ?_
        refine z_geti (kz := 0) fl_X8_136 rfl (by decide) rfl dX8_delay_36 (fun x6 hx6 bx6 => ?_)
        have hnn : x6 = M 60 0 := by assumption
        refine z_callVi (n2 := 93) (A_X8_sumWays l g M x6 (hT.1) (wide0 hT)) cb_X8_sumWays cl_X8_335 (clr0 rfl rfl (by decide) (by decide)) rfl (by decide) ⟨_, rfl, rfl⟩ rfl (by decide) rfl (Nat.le_of_ble_eq_true rfl) rfl dX8_delay_39 (fun x7 Mz7 bx7 kMz7 hc7 => ?_)
        have hsw := hc7
        rw [SolM_MT hT _] at hsw
        have hoN := OffN_w hT hsw.1
        refine z_if_ne (tgt := 49) dX8_delay_42 (by decide) (fun c8 => ?_) (fun c8 => ?_)
        · rw [hnn] at hsw
          have hsf : Feas (SolR M (M 60 0) (-1) (-1) (-1) 0) ∧ WF (SolR M (M 60 0) (-1) (-1) (-1) 0) Mz7 := by
            rcases hsw.2 with z | z
            · exact z.2
            · exfalso; omega
          have hes := WF_es hsf.2 (h := home) (by omega) (by omega)
          refine z_aload_nr dX8_delay_49 rfl ?_
          refine z_iload_n dX8_delay_50 rfl ?_
          refine z_callVip (n2 := 93) (A_X8_isWithin l g Mz7 home (by omega) (ES_b hes)) cb_X8_isWithin cl_X8_416 (clr0 rfl rfl (by decide) (by decide)) rfl (by decide) ⟨_, rfl, rfl⟩ rfl (by decide) rfl (Nat.le_of_ble_eq_true rfl) rfl dX8_delay_51 (fun x9 bx9 hx9 => ?_)
          have i9 := if01 hx9
          have iwi := if01 hx9
          refine z_if_ne (tgt := 61) dX8_delay_54 (by decide) (fun c10 => ?_) (fun c10 => ?_)
          · have hes2 : (-10000000 ≤ Mz7 86 (1 + home) ∧ Mz7 86 (1 + home) ≤ 10000000) ∧ (-10000000 ≤ Mz7 86 (17 * (1 + home)) ∧ Mz7 86 (17 * (1 + home)) ≤ 10000000) ∧ Ends2 (SolR M (M 60 0) (-1) (-1) (-1) 0) home (-(Mz7 86 (17 * (1 + home)))) (Mz7 86 (1 + home)) := by
              rcases hes with z | z
              · exfalso; omega
              · exact z
            have hle := Ends2_le hsf.1 hes2.2.2
            refine z_aload_nr dX8_delay_61 rfl ?_
            refine z_iload_n dX8_delay_62 rfl ?_
            refine z_callVip (n2 := 93) (A_X8_lowEnd l g Mz7 home (by omega) (by omega)) cb_X8_lowEnd cl_X8_362 (clr0 rfl rfl (by decide) (by decide)) rfl (by decide) ⟨_, rfl, rfl⟩ rfl (by decide) rfl (Nat.le_of_ble_eq_true rfl) rfl dX8_delay_63 (fun x11 bx11 hx11 => ?_)
            have hlo := hx11
            refine z_iconst dX8_delay_66 ⟨by decide, by decide⟩ ?_
            refine z_callSlp (n2 := 93) (A_X8_farOf l g Mz7 x11 0 (by omega) (by omega)) cb_X8_farOf cl_X8_410 (clr0 rfl rfl (by decide) (by decide)) rfl (by decide) rfl (Nat.le_of_ble_eq_true rfl) rfl dX8_delay_67 (fun x12 bx12 hx12 => ?_)
            have hfl := hx12
            rw [if_pos rfl, hlo] at hfl
            refine z_lstore (loc2 := [fr 60, fi home, fl u, fu, fl v, fu, fl x12, fu, fu, fu]) dX8_delay_70 (by decide) rfl ?_
            refine z_aload_nr dX8_delay_72 rfl ?_
            refine z_iload_n dX8_delay_73 rfl ?_
            refine z_callVip (n2 := 93) (A_X8_highEnd l g Mz7 home (by omega) (by omega)) cb_X8_highEnd cl_X8_365 (clr0 rfl rfl (by decide) (by decide)) rfl (by decide) ⟨_, rfl, rfl⟩ rfl (by decide) rfl (Nat.le_of_ble_eq_true rfl) rfl dX8_delay_74 (fun x13 bx13 hx13 => ?_)
            have hhi := hx13
            refine z_iconst dX8_delay_77 ⟨by decide, by decide⟩ ?_
            refine z_callSlp (n2 := 93) (A_X8_farOf l g Mz7 x13 1 (by omega) (by omega)) cb_X8_farOf cl_X8_410 (clr0 rfl rfl (by decide) (by decide)) rfl (by decide) rfl (Nat.le_of_ble_eq_true rfl) rfl dX8_delay_78 (fun x14 bx14 hx14 => ?_)
            have hfu := hx14
            rw [if_neg (by decide), hhi] at hfu
            refine z_lstore (loc2 := [fr 60, fi home, fl u, fu, fl v, fu, fl x12, fu, fl x14, fu]) dX8_delay_81 (by decide) rfl ?_
            have fb1 := (far_b (f := -(Mz7 86 (17 * (1 + home)))) (by omega)).1
            have fb2 := (far_b (f := Mz7 86 (1 + home)) (by omega)).2
            have flu := far_lu (lo := -(Mz7 86 (17 * (1 + home)))) (up := Mz7 86 (1 + home)) (by omega) hle (by omega)
            refine z_lload dX8_delay_83 rfl ?_
            refine z_lload dX8_delay_85 rfl ?_
            refine z_lcmp_ge (tgt := 99) dX8_delay_87 dX8_delay_88 (by decide) (fun c15 => ?_) (fun c15 => ?_)
            · refine z_lload_n dX8_delay_99 rfl ?_
              refine z_lload dX8_delay_100 rfl ?_
              refine z_lcmp_le (tgt := 113) dX8_delay_102 dX8_delay_103 (by decide) (fun c16 => ?_) (fun c16 => ?_)
              · refine z_lconst0 dX8_delay_113 ?_
                refine z_lret rfl (by decide) rfl (Nat.sub_self _) dX8_delay_114 ?_
                refine ⟨hoN, ?_⟩
                unfold PDelay
                rw [if_neg (by omega), if_neg (by omega)]
                refine Or.inr (Or.inr ⟨hsf.1, _, _, hes2.2.2, by omega, ?_⟩)
                rw [← hfl, ← hfu]
                omega
              · refine z_lload_n dX8_delay_106 rfl ?_
                refine z_lload dX8_delay_107 rfl ?_
                first | refine z_lsubN dX8_delay_109 (by omega) (fun x17 hx17 => ?_) | refine z_lsub dX8_delay_109 (fun x17 hx17 => ?_)
                refine z_goto (tgt := 114) dX8_delay_110 (by decide) ?_
                refine z_lret rfl (by decide) rfl (Nat.sub_self _) dX8_delay_114 ?_
                refine ⟨hoN, ?_⟩
                unfold PDelay
                rw [if_neg (by omega), if_neg (by omega)]
                refine Or.inr (Or.inr ⟨hsf.1, _, _, hes2.2.2, by omega, ?_⟩)
                rw [← hfl, ← hfu]
                omega
            · refine z_lload dX8_delay_91 rfl ?_
              refine z_lload dX8_delay_93 rfl ?_
              first | refine z_lsubN dX8_delay_95 (by omega) (fun x18 hx18 => ?_) | refine z_lsub dX8_delay_95 (fun x18 hx18 => ?_)
              refine z_goto (tgt := 114) dX8_delay_96 (by decide) ?_
              refine z_lret rfl (by decide) rfl (Nat.sub_self _) dX8_delay_114 ?_
              refine ⟨hoN, ?_⟩
              unfold PDelay
              rw [if_neg (by omega), if_neg (by omega)]
              refine Or.inr (Or.inr ⟨hsf.1, _, _, hes2.2.2, by omega, ?_⟩)
              rw [← hfl, ← hfu]
              omega
          · refine z_ldc2 (c := -1000003) cn_X8_435 ⟨by decide, by decide⟩ dX8_delay_57 ?_
            refine z_lret rfl (by decide) rfl (Nat.sub_self _) dX8_delay_60 ?_
            refine ⟨hoN, ?_⟩
            unfold PDelay
            rw [if_neg (by omega), if_neg (by omega)]
            refine Or.inr (Or.inl ⟨hsf.1, fun lo up he hn => ?_, rfl⟩)
            rcases hes with z | z
            · exact Ends2_free he z.2
            · obtain ⟨e1, e2⟩ := Ends2_eq he z.2.2
              omega
        · refine z_ldc2 (c := -1000005) cn_X8_433 ⟨by decide, by decide⟩ dX8_delay_45 ?_
          refine z_lret rfl (by decide) rfl (Nat.sub_self _) dX8_delay_48 ?_
          refine ⟨hoN, ?_⟩
          unfold PDelay
          rw [if_neg (by omega), if_neg (by omega)]
          refine Or.inl ⟨?_, rfl⟩
          rw [hnn] at hsw
          rcases hsw.2 with z | z
          · exfalso; omega
          · exact z.2
      · refine z_ldc2 (c := -1000002) cn_X8_414 ⟨by decide, by decide⟩ dX8_delay_30 ?_
        refine z_lret rfl (by decide) rfl (Nat.sub_self _) dX8_delay_33 ?_
        refine ⟨OffN_rfl hT, ?_⟩
        unfold PDelay
        rw [if_neg (by omega), if_pos (by omega)]
  · refine z_ldc2 (c := -1000001) cn_X8_429 ⟨by decide, by decide⟩ dX8_delay_7 ?_
    refine z_lret rfl (by decide) rfl (Nat.sub_self _) dX8_delay_10 ?_
    refine ⟨OffN_rfl hT, ?_⟩
    unfold PDelay
    rw [if_pos (by omega)]
