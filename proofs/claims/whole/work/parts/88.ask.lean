/-! ===== the asking calls: class, then reference, over the coupling ===== -/
theorem CntM_eq {M : FMem} {S : (Int → Int) → Prop} {what q q' : Int} (a : CntM M S what q) (b : CntM M S what q') : q = q' := by
  unfold CntM at a b
  by_cases h0 : what = 0
  · rw [if_pos h0] at a b; exact a.trans b.symm
  rw [if_neg h0] at a b
  by_cases h1 : what = 1
  · rw [if_pos h1] at a b; exact a.trans b.symm
  rw [if_neg h1] at a b
  by_cases h2 : what = 2
  · rw [if_pos h2] at a b; exact a.trans b.symm
  rw [if_neg h2] at a b
  by_cases h3 : what = 3
  · rw [if_pos h3] at a b; exact a.trans b.symm
  rw [if_neg h3] at a b
  by_cases h4 : what = 4
  · rw [if_pos h4] at a b; exact ALoose_eq a b
  rw [if_neg h4] at a b
  by_cases h5 : what = 5
  · rw [if_pos h5] at a b; exact a.trans b.symm
  rw [if_neg h5] at a b
  by_cases h6 : what = 6
  · rw [if_pos h6] at a b; exact a.trans b.symm
  rw [if_neg h6] at a b
  by_cases h7 : what = 7
  · rw [if_pos h7] at a b; exact a.trans b.symm
  rw [if_neg h7] at a b
  by_cases h8 : what = 8
  · rw [if_pos h8] at a b; exact a.trans b.symm
  rw [if_neg h8] at a b
  exact a.trans b.symm
theorem ClmM_eq {M : FMem} {S : (Int → Int) → Prop} {i what q q' : Int} (a : ClmM M S i what q) (b : ClmM M S i what q') : q = q' := by
  unfold ClmM at a b
  by_cases h0 : ¬ (0 ≤ i ∧ i < M 60 21)
  · rw [if_pos h0] at a b; exact a.trans b.symm
  rw [if_neg h0] at a b
  by_cases h1 : what = 0
  · rw [if_pos h1] at a b; exact AClaim_eq a b
  rw [if_neg h1] at a b
  by_cases h2 : what = 1
  · rw [if_pos h2] at a b; exact a.trans b.symm
  rw [if_neg h2] at a b
  by_cases h3 : what = 2
  · rw [if_pos h3] at a b; exact a.trans b.symm
  rw [if_neg h3] at a b
  by_cases h4 : what = 3
  · rw [if_pos h4] at a b; exact a.trans b.symm
  rw [if_neg h4] at a b
  exact a.trans b.symm
theorem Cp_hid {M : FMem} (hC : Cp M) : (if M 0 10 = 1 then M 0 8 else 0) = (if M 60 55 = 1 ∧ M 60 56 = 0 then M 60 54 else 0) := by
  obtain ⟨⟨h1, -⟩, -, -, -, h5⟩ := hC.2.2.2.2.1
  rw [← h1]
  rcases h5 with ⟨a, b, c⟩ | ⟨a, b⟩
  · rw [if_pos a, if_pos ⟨b, c⟩]
  · rw [if_neg (by omega), if_neg (by omega)]
theorem Cp_idr {M : FMem} (hC : Cp M) : -999 ≤ M 60 54 ∧ M 60 54 ≤ 999 := by
  rw [← hC.2.2.2.2.1.1.1]; exact hC.2.2.2.2.1.1.2
theorem Cp_idx {M : FMem} (hC : Cp M) : -999 ≤ M 0 8 ∧ M 0 8 ≤ 999 := hC.2.2.2.2.1.1.2
theorem Cp_n {M : FMem} (hC : Cp M) : M 1 13 = M 60 0 := hC.1.2.2.2.2.1
theorem OffX_c {M M2 : FMem} (h : OffX M M2) {b : Nat} (hb : 41 < b) : M2 b = M b := funext fun j => h b j (by omega)
def Q_ends (M : FMem) (home k what : Int) (q : Int) : Prop := PEnds (M 60 0) (fun kw => SolR M kw (-1) (-1) (-1) 0) home k what (if M 60 55 = 1 ∧ M 60 56 = 0 then M 60 54 else 0) q
theorem T_ends {M : FMem} {r : Nat} (hC : Cp M) (hr : CR M r) {home k what q : Int} (a : PEnds (M 1 13) (fun kw => SolT M r kw (-1) (-1) (-1) 0) home k what (if M 0 10 = 1 then M 0 8 else 0) q) : Q_ends M home k what q := by
  unfold Q_ends
  rw [Cp_hid hC] at a
  rw [← Cp_n hC]
  exact PEnds_cg (fun kw hk => Cp_sol hC hr hk (-1) (-1) (-1) 0) a
theorem O_ends {M M2 : FMem} (ho : OffX M M2) (home k what q : Int) : Q_ends M2 home k what q = Q_ends M home k what q := by
  unfold Q_ends
  simp only [SolR_ox ho]
  rw [OffX_c ho (b := 60) (by decide)]
theorem C_ends (l : Launch) (g : Cx) (M : FMem) (home k what : Int) (hC : Cp M) : AMi l g true fi_X7_ends [fr 0, fi home, fi k, fi what] 93 M (fun q M2 => Cp M2 ∧ Q_ends M2 home k what q) := by
  obtain ⟨r, hr⟩ := hC.2.2.2.1
  have hT := Cp_XT hC hr
  have hw : ∀ q M2, OffX M M2 → PEnds (M 1 13) (fun kw => SolT M r kw (-1) (-1) (-1) 0) home k what (if M 0 10 = 1 then M 0 8 else 0) q → Cp M2 ∧ Q_ends M2 home k what q := fun q M2 ho a => ⟨Cp_X ho hC, by rw [O_ends ho]; exact T_ends hC hr a⟩
  rcases hr.1 with rfl | rfl
  · exact AMi_w (A_X7_ends42 l g M home k what hT (Cp_idx hC)) (fun q M2 _ h => hw q M2 h.1 h.2)
  · exact AMi_w (A_X7_ends51 l g M home k what hT (Cp_idx hC)) (fun q M2 _ h => hw q M2 h.1 h.2)
theorem D_ends (l : Launch) (g : Cx) (M : FMem) (home k what : Int) (q : Int) (hC : Cp M) (hq : Q_ends M home k what q) : AMi l g true fi_X8_ends [fr 60, fi home, fi k, fi what] 93 M (fun q2 M2 => q2 = q ∧ Cp M2) :=
  AMi_w (A_X8_ends l g M home k what (Cp_MT hC) (Cp_idr hC)) (fun q2 M2 _ h => ⟨PEnds_eq h.2 hq, Cp_N h.1 hC⟩)
def Q_between (M : FMem) (a0 b what : Int) (q : Int) : Prop := PBetw (SolR M (M 60 0) (-1) (-1) (-1) 0) a0 b what q
theorem T_between {M : FMem} {r : Nat} (hC : Cp M) (hr : CR M r) {a0 b what q : Int} (a : PBetw (SolT M r (M 1 13) (-1) (-1) (-1) 0) a0 b what q) : Q_between M a0 b what q := by
  unfold Q_between
  have hs := fun li one two w => Cp_sol hC hr (Int.le_refl (M 1 13)) li one two w
  simp only [hs] at a
  rw [Cp_n hC] at a
  exact a
theorem O_between {M M2 : FMem} (ho : OffX M M2) (a0 b what q : Int) : Q_between M2 a0 b what q = Q_between M a0 b what q := by
  unfold Q_between
  simp only [SolR_ox ho]
  rw [OffX_c ho (b := 60) (by decide)]
theorem C_between (l : Launch) (g : Cx) (M : FMem) (a0 b what : Int) (hC : Cp M) : AMi l g true fi_X7_between [fr 0, fi a0, fi b, fi what] 93 M (fun q M2 => Cp M2 ∧ Q_between M2 a0 b what q) := by
  obtain ⟨r, hr⟩ := hC.2.2.2.1
  have hT := Cp_XT hC hr
  have hw : ∀ q M2, OffX M M2 → PBetw (SolT M r (M 1 13) (-1) (-1) (-1) 0) a0 b what q → Cp M2 ∧ Q_between M2 a0 b what q := fun q M2 ho a => ⟨Cp_X ho hC, by rw [O_between ho]; exact T_between hC hr a⟩
  rcases hr.1 with rfl | rfl
  · exact AMi_w (A_X7_between42 l g M a0 b what hT) (fun q M2 _ h => hw q M2 h.1 h.2)
  · exact AMi_w (A_X7_between51 l g M a0 b what hT) (fun q M2 _ h => hw q M2 h.1 h.2)
theorem D_between (l : Launch) (g : Cx) (M : FMem) (a0 b what : Int) (q : Int) (hC : Cp M) (hq : Q_between M a0 b what q) : AMi l g true fi_X8_between [fr 60, fi a0, fi b, fi what] 93 M (fun q2 M2 => q2 = q ∧ Cp M2) :=
  AMi_w (A_X8_between l g M a0 b what (Cp_MT hC)) (fun q2 M2 _ h => ⟨PBetw_eq h.2 hq, Cp_N h.1 hC⟩)
def Q_widening (M : FMem) (k : Int) (q : Int) : Prop := PWid (M 60 0) (fun kw w => Feas (SolR M kw (-1) (-1) (-1) w)) k q
theorem T_widening {M : FMem} {r : Nat} (hC : Cp M) (hr : CR M r) {k q : Int} (a : PWid (M 1 13) (fun kw w => Feas (SolT M r kw (-1) (-1) (-1) w)) k q) : Q_widening M k q := by
  unfold Q_widening
  rw [← Cp_n hC]
  exact PWid_cg (fun kw hk => funext fun w => by rw [Cp_sol hC hr hk (-1) (-1) (-1) w]) a
theorem O_widening {M M2 : FMem} (ho : OffX M M2) (k q : Int) : Q_widening M2 k q = Q_widening M k q := by
  unfold Q_widening
  simp only [SolR_ox ho]
  rw [OffX_c ho (b := 60) (by decide)]
theorem C_widening (l : Launch) (g : Cx) (M : FMem) (k : Int) (hC : Cp M) : AMi l g true fi_X7_widening [fr 0, fi k] 93 M (fun q M2 => Cp M2 ∧ Q_widening M2 k q) := by
  obtain ⟨r, hr⟩ := hC.2.2.2.1
  have hT := Cp_XT hC hr
  have hw : ∀ q M2, OffX M M2 → PWid (M 1 13) (fun kw w => Feas (SolT M r kw (-1) (-1) (-1) w)) k q → Cp M2 ∧ Q_widening M2 k q := fun q M2 ho a => ⟨Cp_X ho hC, by rw [O_widening ho]; exact T_widening hC hr a⟩
  rcases hr.1 with rfl | rfl
  · exact AMi_w (A_X7_widening42 l g M k hT) (fun q M2 _ h => hw q M2 h.1 h.2)
  · exact AMi_w (A_X7_widening51 l g M k hT) (fun q M2 _ h => hw q M2 h.1 h.2)
theorem D_widening (l : Launch) (g : Cx) (M : FMem) (k : Int) (q : Int) (hC : Cp M) (hq : Q_widening M k q) : AMi l g true fi_X8_widening [fr 60, fi k] 93 M (fun q2 M2 => q2 = q ∧ Cp M2) :=
  AMi_w (A_X8_widening l g M k (Cp_MT hC)) (fun q2 M2 _ h => ⟨PWid_eq h.2 hq, Cp_N h.1 hC⟩)
def Q_blame (M : FMem) (q : Int) : Prop := PBlame (SolR M (M 60 0) (-1) (-1) (-1) 0) (fun l => Feas (SolR M (M 60 0) l (-1) (-1) 0)) q
theorem T_blame {M : FMem} {r : Nat} (hC : Cp M) (hr : CR M r) { q : Int} (a : PBlame (SolT M r (M 1 13) (-1) (-1) (-1) 0) (fun li => Feas (SolT M r (M 1 13) li (-1) (-1) 0)) q) : Q_blame M q := by
  unfold Q_blame
  have hs := fun li one two w => Cp_sol hC hr (Int.le_refl (M 1 13)) li one two w
  simp only [hs] at a
  rw [Cp_n hC] at a
  exact a
theorem O_blame {M M2 : FMem} (ho : OffX M M2) (q : Int) : Q_blame M2 q = Q_blame M q := by
  unfold Q_blame
  simp only [SolR_ox ho]
  rw [OffX_c ho (b := 60) (by decide)]
theorem C_blame (l : Launch) (g : Cx) (M : FMem) (hC : Cp M) : AMi l g true fi_X7_blame [fr 0] 93 M (fun q M2 => Cp M2 ∧ Q_blame M2 q) := by
  obtain ⟨r, hr⟩ := hC.2.2.2.1
  have hT := Cp_XT hC hr
  have hw : ∀ q M2, OffX M M2 → PBlame (SolT M r (M 1 13) (-1) (-1) (-1) 0) (fun li => Feas (SolT M r (M 1 13) li (-1) (-1) 0)) q → Cp M2 ∧ Q_blame M2 q := fun q M2 ho a => ⟨Cp_X ho hC, by rw [O_blame ho]; exact T_blame hC hr a⟩
  rcases hr.1 with rfl | rfl
  · exact AMi_w (A_X7_blame42 l g M hT) (fun q M2 _ h => hw q M2 h.1 h.2)
  · exact AMi_w (A_X7_blame51 l g M hT) (fun q M2 _ h => hw q M2 h.1 h.2)
theorem D_blame (l : Launch) (g : Cx) (M : FMem) (q : Int) (hC : Cp M) (hq : Q_blame M q) : AMi l g true fi_X8_blame [fr 60] 93 M (fun q2 M2 => q2 = q ∧ Cp M2) :=
  AMi_w (A_X8_blame l g M (Cp_MT hC)) (fun q2 M2 _ h => ⟨PBlame_eq h.2 hq, Cp_N h.1 hC⟩)
def Q_odd (M : FMem) (i : Int) (q : Int) : Prop := POdd (SolR M (M 60 0) (-1) (-1) (-1) 0) (fun a => Feas (SolR M (M 60 0) (-1) a (-1) 0)) (fun a b => Feas (SolR M (M 60 0) (-1) a b 0)) i q
theorem T_odd {M : FMem} {r : Nat} (hC : Cp M) (hr : CR M r) {i q : Int} (a : POdd (SolT M r (M 1 13) (-1) (-1) (-1) 0) (fun a => Feas (SolT M r (M 1 13) (-1) a (-1) 0)) (fun a b => Feas (SolT M r (M 1 13) (-1) a b 0)) i q) : Q_odd M i q := by
  unfold Q_odd
  have hs := fun li one two w => Cp_sol hC hr (Int.le_refl (M 1 13)) li one two w
  simp only [hs] at a
  rw [Cp_n hC] at a
  exact a
theorem O_odd {M M2 : FMem} (ho : OffX M M2) (i q : Int) : Q_odd M2 i q = Q_odd M i q := by
  unfold Q_odd
  simp only [SolR_ox ho]
  rw [OffX_c ho (b := 60) (by decide)]
theorem C_odd (l : Launch) (g : Cx) (M : FMem) (i : Int) (hC : Cp M) : AMi l g true fi_X7_odd [fr 0, fi i] 93 M (fun q M2 => Cp M2 ∧ Q_odd M2 i q) := by
  obtain ⟨r, hr⟩ := hC.2.2.2.1
  have hT := Cp_XT hC hr
  have hw : ∀ q M2, OffX M M2 → POdd (SolT M r (M 1 13) (-1) (-1) (-1) 0) (fun a => Feas (SolT M r (M 1 13) (-1) a (-1) 0)) (fun a b => Feas (SolT M r (M 1 13) (-1) a b 0)) i q → Cp M2 ∧ Q_odd M2 i q := fun q M2 ho a => ⟨Cp_X ho hC, by rw [O_odd ho]; exact T_odd hC hr a⟩
  rcases hr.1 with rfl | rfl
  · exact AMi_w (A_X7_odd42 l g M i hT) (fun q M2 _ h => hw q M2 h.1 h.2)
  · exact AMi_w (A_X7_odd51 l g M i hT) (fun q M2 _ h => hw q M2 h.1 h.2)
theorem D_odd (l : Launch) (g : Cx) (M : FMem) (i : Int) (q : Int) (hC : Cp M) (hq : Q_odd M i q) : AMi l g true fi_X8_odd [fr 60, fi i] 93 M (fun q2 M2 => q2 = q ∧ Cp M2) :=
  AMi_w (A_X8_odd l g M i (Cp_MT hC)) (fun q2 M2 _ h => ⟨POdd_eq h.2 hq, Cp_N h.1 hC⟩)
def Q_worth (M : FMem) (list home : Int) (q : Int) : Prop := PWorth (SolR M (M 60 0) (-1) (-1) (-1) 0) (SolR M (M 60 0) list (-1) (-1) 0) list home q
theorem T_worth {M : FMem} {r : Nat} (hC : Cp M) (hr : CR M r) {list home q : Int} (a : PWorth (SolT M r (M 1 13) (-1) (-1) (-1) 0) (SolT M r (M 1 13) list (-1) (-1) 0) list home q) : Q_worth M list home q := by
  unfold Q_worth
  have hs := fun li one two w => Cp_sol hC hr (Int.le_refl (M 1 13)) li one two w
  simp only [hs] at a
  rw [Cp_n hC] at a
  exact a
theorem O_worth {M M2 : FMem} (ho : OffX M M2) (list home q : Int) : Q_worth M2 list home q = Q_worth M list home q := by
  unfold Q_worth
  simp only [SolR_ox ho]
  rw [OffX_c ho (b := 60) (by decide)]
theorem C_worth (l : Launch) (g : Cx) (M : FMem) (list home : Int) (hC : Cp M) : AMi l g true fi_X7_worth [fr 0, fi list, fi home] 93 M (fun q M2 => Cp M2 ∧ Q_worth M2 list home q) := by
  obtain ⟨r, hr⟩ := hC.2.2.2.1
  have hT := Cp_XT hC hr
  have hw : ∀ q M2, OffX M M2 → PWorth (SolT M r (M 1 13) (-1) (-1) (-1) 0) (SolT M r (M 1 13) list (-1) (-1) 0) list home q → Cp M2 ∧ Q_worth M2 list home q := fun q M2 ho a => ⟨Cp_X ho hC, by rw [O_worth ho]; exact T_worth hC hr a⟩
  rcases hr.1 with rfl | rfl
  · exact AMi_w (A_X7_worth42 l g M list home hT) (fun q M2 _ h => hw q M2 h.1 h.2)
  · exact AMi_w (A_X7_worth51 l g M list home hT) (fun q M2 _ h => hw q M2 h.1 h.2)
theorem D_worth (l : Launch) (g : Cx) (M : FMem) (list home : Int) (q : Int) (hC : Cp M) (hq : Q_worth M list home q) : AMi l g true fi_X8_worth [fr 60, fi list, fi home] 93 M (fun q2 M2 => q2 = q ∧ Cp M2) :=
  AMi_w (A_X8_worth l g M list home (Cp_MT hC)) (fun q2 M2 _ h => ⟨PWorth_eq h.2 hq, Cp_N h.1 hC⟩)
def Q_lead (M : FMem) (home what i : Int) (q : Int) : Prop := PLead (M 60 0) (fun t => M 70 t = 0 ∧ M 69 t = 0) (SolR M (M 60 0) (-1) (-1) (-1) 0) (fun t => (SolR M (M 60 0) (-1) t (-1) 0)) home what i q
theorem T_lead {M : FMem} {r : Nat} (hC : Cp M) (hr : CR M r) {home what i q : Int} (a : PLead (M 1 13) (inT M) (SolT M r (M 1 13) (-1) (-1) (-1) 0) (fun t => SolT M r (M 1 13) (-1) t (-1) 0) home what i q) : Q_lead M home what i q := by
  unfold Q_lead
  have hi : inT M = fun t => M 70 t = 0 ∧ M 69 t = 0 := by
    funext t
    unfold inT
    rw [hC.1.2.1.1, hC.1.2.1.2.1]
  rw [hi] at a
  have hs := fun li one two w => Cp_sol hC hr (Int.le_refl (M 1 13)) li one two w
  simp only [hs] at a
  rw [Cp_n hC] at a
  exact a
theorem O_lead {M M2 : FMem} (ho : OffX M M2) (home what i q : Int) : Q_lead M2 home what i q = Q_lead M home what i q := by
  unfold Q_lead
  simp only [SolR_ox ho]
  rw [OffX_c ho (b := 60) (by decide), OffX_c ho (b := 69) (by decide), OffX_c ho (b := 70) (by decide)]
theorem C_lead (l : Launch) (g : Cx) (M : FMem) (home what i : Int) (hC : Cp M) : AMi l g true fi_X7_lead [fr 0, fi home, fi what, fi i] 93 M (fun q M2 => Cp M2 ∧ Q_lead M2 home what i q) := by
  obtain ⟨r, hr⟩ := hC.2.2.2.1
  have hT := Cp_XT hC hr
  have hw : ∀ q M2, OffX M M2 → PLead (M 1 13) (inT M) (SolT M r (M 1 13) (-1) (-1) (-1) 0) (fun t => SolT M r (M 1 13) (-1) t (-1) 0) home what i q → Cp M2 ∧ Q_lead M2 home what i q := fun q M2 ho a => ⟨Cp_X ho hC, by rw [O_lead ho]; exact T_lead hC hr a⟩
  rcases hr.1 with rfl | rfl
  · exact AMi_w (A_X7_lead42 l g M home what i hT) (fun q M2 _ h => hw q M2 h.1 h.2)
  · exact AMi_w (A_X7_lead51 l g M home what i hT) (fun q M2 _ h => hw q M2 h.1 h.2)
theorem D_lead (l : Launch) (g : Cx) (M : FMem) (home what i : Int) (q : Int) (hC : Cp M) (hq : Q_lead M home what i q) : AMi l g true fi_X8_lead [fr 60, fi home, fi what, fi i] 93 M (fun q2 M2 => q2 = q ∧ Cp M2) :=
  AMi_w (A_X8_lead l g M home what i (Cp_MT hC)) (fun q2 M2 _ h => ⟨PLead_eq h.2 hq, Cp_N h.1 hC⟩)
def Q_box (M : FMem) (b : Int) (q : Int) : Prop := PBox (SolR M (M 60 0) (-1) (-1) (-1) 0) (fun h => M 74 h) (M 60 20) b q
theorem T_box {M : FMem} {r : Nat} (hC : Cp M) (hr : CR M r) {b q : Int} (a : PBox (SolT M r (M 1 13) (-1) (-1) (-1) 0) (fun h => M 38 h) (M r 7) b q) : Q_box M b q := by
  unfold Q_box
  rw [hC.1.2.2.1.2.2, (rule_at hr.2.2.2).2.2.1] at a
  have hs := fun li one two w => Cp_sol hC hr (Int.le_refl (M 1 13)) li one two w
  simp only [hs] at a
  rw [Cp_n hC] at a
  exact a
theorem O_box {M M2 : FMem} (ho : OffX M M2) (b q : Int) : Q_box M2 b q = Q_box M b q := by
  unfold Q_box
  simp only [SolR_ox ho]
  rw [OffX_c ho (b := 60) (by decide), OffX_c ho (b := 74) (by decide)]
theorem C_box (l : Launch) (g : Cx) (M : FMem) (b : Int) (hC : Cp M) : AMi l g true fi_X7_box [fr 0, fi b] 93 M (fun q M2 => Cp M2 ∧ Q_box M2 b q) := by
  obtain ⟨r, hr⟩ := hC.2.2.2.1
  have hT := Cp_XT hC hr
  have hw : ∀ q M2, OffX M M2 → PBox (SolT M r (M 1 13) (-1) (-1) (-1) 0) (fun h => M 38 h) (M r 7) b q → Cp M2 ∧ Q_box M2 b q := fun q M2 ho a => ⟨Cp_X ho hC, by rw [O_box ho]; exact T_box hC hr a⟩
  rcases hr.1 with rfl | rfl
  · exact AMi_w (A_X7_box42 l g M b hT) (fun q M2 _ h => hw q M2 h.1 h.2)
  · exact AMi_w (A_X7_box51 l g M b hT) (fun q M2 _ h => hw q M2 h.1 h.2)
theorem D_box (l : Launch) (g : Cx) (M : FMem) (b : Int) (q : Int) (hC : Cp M) (hq : Q_box M b q) : AMi l g true fi_X8_box [fr 60, fi b] 93 M (fun q2 M2 => q2 = q ∧ Cp M2) :=
  AMi_w (A_X8_box l g M b (Cp_MT hC) (Cp_RedN hC)) (fun q2 M2 _ h => ⟨PBox_eq h.2 hq, Cp_N h.1 hC⟩)
def Q_boxes (M : FMem) (what : Int) (q : Int) : Prop := PBoxes (SolR M (M 60 0) (-1) (-1) (-1) 0) (fun h => M 74 h) (M 60 20) what q
theorem T_boxes {M : FMem} {r : Nat} (hC : Cp M) (hr : CR M r) {what q : Int} (a : PBoxes (SolT M r (M 1 13) (-1) (-1) (-1) 0) (fun h => M 38 h) (M r 7) what q) : Q_boxes M what q := by
  unfold Q_boxes
  rw [hC.1.2.2.1.2.2, (rule_at hr.2.2.2).2.2.1] at a
  have hs := fun li one two w => Cp_sol hC hr (Int.le_refl (M 1 13)) li one two w
  simp only [hs] at a
  rw [Cp_n hC] at a
  exact a
theorem O_boxes {M M2 : FMem} (ho : OffX M M2) (what q : Int) : Q_boxes M2 what q = Q_boxes M what q := by
  unfold Q_boxes
  simp only [SolR_ox ho]
  rw [OffX_c ho (b := 60) (by decide), OffX_c ho (b := 74) (by decide)]
theorem C_boxes (l : Launch) (g : Cx) (M : FMem) (what : Int) (hC : Cp M) : AMi l g true fi_X7_boxes [fr 0, fi what] 93 M (fun q M2 => Cp M2 ∧ Q_boxes M2 what q) := by
  obtain ⟨r, hr⟩ := hC.2.2.2.1
  have hT := Cp_XT hC hr
  have hw : ∀ q M2, OffX M M2 → PBoxes (SolT M r (M 1 13) (-1) (-1) (-1) 0) (fun h => M 38 h) (M r 7) what q → Cp M2 ∧ Q_boxes M2 what q := fun q M2 ho a => ⟨Cp_X ho hC, by rw [O_boxes ho]; exact T_boxes hC hr a⟩
  rcases hr.1 with rfl | rfl
  · exact AMi_w (A_X7_boxes42 l g M what hT) (fun q M2 _ h => hw q M2 h.1 h.2)
  · exact AMi_w (A_X7_boxes51 l g M what hT) (fun q M2 _ h => hw q M2 h.1 h.2)
theorem D_boxes (l : Launch) (g : Cx) (M : FMem) (what : Int) (q : Int) (hC : Cp M) (hq : Q_boxes M what q) : AMi l g true fi_X8_boxes [fr 60, fi what] 93 M (fun q2 M2 => q2 = q ∧ Cp M2) :=
  AMi_w (A_X8_boxes l g M what (Cp_MT hC) (Cp_RedN hC)) (fun q2 M2 _ h => ⟨PBoxes_eq h.2 hq, Cp_N h.1 hC⟩)
def Q_delay (M : FMem) (home u v : Int) (q : Int) : Prop := PDelay (SolR M (M 60 0) (-1) (-1) (-1) 0) home u v q
theorem T_delay {M : FMem} {r : Nat} (hC : Cp M) (hr : CR M r) {home u v q : Int} (a : PDelay (SolT M r (M 1 13) (-1) (-1) (-1) 0) home u v q) : Q_delay M home u v q := by
  unfold Q_delay
  have hs := fun li one two w => Cp_sol hC hr (Int.le_refl (M 1 13)) li one two w
  simp only [hs] at a
  rw [Cp_n hC] at a
  exact a
theorem O_delay {M M2 : FMem} (ho : OffX M M2) (home u v q : Int) : Q_delay M2 home u v q = Q_delay M home u v q := by
  unfold Q_delay
  simp only [SolR_ox ho]
  rw [OffX_c ho (b := 60) (by decide)]
theorem C_delay (l : Launch) (g : Cx) (M : FMem) (home u v : Int) (hC : Cp M) : AMl l g true fi_X7_delay [fr 0, fi home, fl u, fl v] 93 M (fun q M2 => Cp M2 ∧ Q_delay M2 home u v q) := by
  obtain ⟨r, hr⟩ := hC.2.2.2.1
  have hT := Cp_XT hC hr
  have hw : ∀ q M2, OffX M M2 → PDelay (SolT M r (M 1 13) (-1) (-1) (-1) 0) home u v q → Cp M2 ∧ Q_delay M2 home u v q := fun q M2 ho a => ⟨Cp_X ho hC, by rw [O_delay ho]; exact T_delay hC hr a⟩
  rcases hr.1 with rfl | rfl
  · exact AMl_w (A_X7_delay42 l g M home u v hT) (fun q M2 _ h => hw q M2 h.1 h.2)
  · exact AMl_w (A_X7_delay51 l g M home u v hT) (fun q M2 _ h => hw q M2 h.1 h.2)
theorem D_delay (l : Launch) (g : Cx) (M : FMem) (home u v : Int) (q : Int) (hC : Cp M) (hq : Q_delay M home u v q) : AMl l g true fi_X8_delay [fr 60, fi home, fl u, fl v] 93 M (fun q2 M2 => q2 = q ∧ Cp M2) :=
  AMl_w (A_X8_delay l g M home u v (Cp_MT hC)) (fun q2 M2 _ h => ⟨PDelay_eq h.2 hq, Cp_N h.1 hC⟩)
def Q_claim (M : FMem) (i what : Int) (q : Int) : Prop := ClmM M (SolR M (M 60 0) (-1) (-1) (-1) 0) i what q
theorem T_claim {M : FMem} {r : Nat} (hC : Cp M) (hr : CR M r) {i what q : Int} (a : ClmX M r (SolT M r (M 1 13) (-1) (-1) (-1) 0) i what q) : Q_claim M i what q := by
  unfold Q_claim
  have hs := fun li one two w => Cp_sol hC hr (Int.le_refl (M 1 13)) li one two w
  simp only [hs] at a
  rw [Cp_n hC] at a
  unfold ClmX at a
  unfold ClmM
  rw [(rule_at hr.2.2.2).2.2.2] at a
  by_cases hi : ¬ (0 ≤ i ∧ i < M 60 21)
  · rw [if_pos hi] at a ⊢; exact a
  · have hi2 : 0 ≤ i ∧ i < M 60 21 := by omega
    obtain ⟨c1, c2, c3⟩ := claim_at hr.2.2.2 hi2.1 hi2.2
    rw [c1, c2, c3] at a
    exact a
theorem O_claim {M M2 : FMem} (ho : OffX M M2) (i what q : Int) : Q_claim M2 i what q = Q_claim M i what q := by
  unfold Q_claim
  unfold ClmM
  simp only [SolR_ox ho]
  rw [OffX_c ho (b := 60) (by decide), OffX_c ho (b := 77) (by decide), OffX_c ho (b := 78) (by decide), OffX_c ho (b := 79) (by decide)]
theorem C_claim (l : Launch) (g : Cx) (M : FMem) (i what : Int) (hC : Cp M) : AMi l g true fi_X7_claim [fr 0, fi i, fi what] 93 M (fun q M2 => Cp M2 ∧ Q_claim M2 i what q) := by
  obtain ⟨r, hr⟩ := hC.2.2.2.1
  have hT := Cp_XT hC hr
  have hw : ∀ q M2, OffX M M2 → ClmX M r (SolT M r (M 1 13) (-1) (-1) (-1) 0) i what q → Cp M2 ∧ Q_claim M2 i what q := fun q M2 ho a => ⟨Cp_X ho hC, by rw [O_claim ho]; exact T_claim hC hr a⟩
  rcases hr.1 with rfl | rfl
  · exact AMi_w (A_X7_claim42 l g M i what hT) (fun q M2 _ h => hw q M2 h.1 h.2)
  · exact AMi_w (A_X7_claim51 l g M i what hT) (fun q M2 _ h => hw q M2 h.1 h.2)
theorem D_claim (l : Launch) (g : Cx) (M : FMem) (i what : Int) (q : Int) (hC : Cp M) (hq : Q_claim M i what q) : AMi l g true fi_X8_claim [fr 60, fi i, fi what] 93 M (fun q2 M2 => q2 = q ∧ Cp M2) :=
  AMi_w (A_X8_claim l g M i what (Cp_MT hC)) (fun q2 M2 _ h => ⟨ClmM_eq h.2 hq, Cp_N h.1 hC⟩)
def Q_count (M : FMem) (what : Int) (q : Int) : Prop := CntM M (SolR M (M 60 0) (-1) (-1) (-1) 0) what q
theorem T_count {M : FMem} {r : Nat} (hC : Cp M) (hr : CR M r) {what q : Int} (a : CntX M r (SolT M r (M 1 13) (-1) (-1) (-1) 0) what q) : Q_count M what q := by
  unfold Q_count
  have ho : oneX M = oneM M := by
    funext w i
    unfold oneX oneM
    rw [hC.1.2.1.1, hC.1.2.1.2.1, hC.1.1.1]
  have h7 : M 0 10 = b01 (M 60 55 = 1 ∧ M 60 56 = 0) := by
    unfold b01
    rcases hC.2.2.2.2.1.2.2.2.2 with ⟨a1, b1, c1⟩ | ⟨a1, b1⟩
    · rw [if_pos ⟨b1, c1⟩]; exact a1
    · rw [if_neg (by omega)]; exact a1
  unfold CntX at a
  unfold CntM
  rw [ho, h7, (rule_at hr.2.2.2).2.2.2, hC.1.2.2.2.2.2.2.1] at a
  have hs := fun li one two w => Cp_sol hC hr (Int.le_refl (M 1 13)) li one two w
  simp only [hs] at a
  rw [Cp_n hC] at a
  exact a
theorem O_count {M M2 : FMem} (ho : OffX M M2) (what q : Int) : Q_count M2 what q = Q_count M what q := by
  unfold Q_count
  unfold CntM oneM
  simp only [SolR_ox ho]
  rw [OffX_c ho (b := 60) (by decide), OffX_c ho (b := 61) (by decide), OffX_c ho (b := 69) (by decide), OffX_c ho (b := 70) (by decide)]
theorem C_count (l : Launch) (g : Cx) (M : FMem) (what : Int) (hC : Cp M) : AMi l g true fi_X7_count [fr 0, fi what] 93 M (fun q M2 => Cp M2 ∧ Q_count M2 what q) := by
  obtain ⟨r, hr⟩ := hC.2.2.2.1
  have hT := Cp_XT hC hr
  have hw : ∀ q M2, OffX M M2 → CntX M r (SolT M r (M 1 13) (-1) (-1) (-1) 0) what q → Cp M2 ∧ Q_count M2 what q := fun q M2 ho a => ⟨Cp_X ho hC, by rw [O_count ho]; exact T_count hC hr a⟩
  rcases hr.1 with rfl | rfl
  · exact AMi_w (A_X7_count42 l g M what hT) (fun q M2 _ h => hw q M2 h.1 h.2)
  · exact AMi_w (A_X7_count51 l g M what hT) (fun q M2 _ h => hw q M2 h.1 h.2)
theorem D_count (l : Launch) (g : Cx) (M : FMem) (what : Int) (q : Int) (hC : Cp M) (hq : Q_count M what q) : AMi l g true fi_X8_count [fr 60, fi what] 93 M (fun q2 M2 => q2 = q ∧ Cp M2) :=
  AMi_w (A_X8_count l g M what (Cp_MT hC)) (fun q2 M2 _ h => ⟨CntM_eq h.2 hq, Cp_N h.1 hC⟩)
theorem C_steps (l : Launch) (g : Cx) (M : FMem) (home : Int) (hC : Cp M) : AMi l g true fi_X7_steps [fr 0, fi home] 93 M (fun q M2 => Cp M2 ∧ if ¬ (0 ≤ home ∧ home ≤ 9) then q = -1000001 else PSt (LvM M2) home.toNat q) := by
  refine AMi_w (A_X7_steps l g M home hC.2.1.1 hC.2.1.2.1) (fun q M2 _ h => ?_)
  have hx : ∀ b, b ≠ 13 → M2 b = M b := fun b p => funext fun j => h.1 b j p
  refine ⟨Cp_fr (fun b j q => h.1 b j (by omega)) (by have := hC.2.2.2.2.2.2; unfold CO at this ⊢; rw [hx 60 (by decide)]; exact this) hC, ?_⟩
  have e : LvM M2 = Lv (ShH M (M 1 13)) (SoH M (M 1 13)) := by
    unfold LvM ShM SoM inKM ShH SoH inK
    rw [hx 60 (by decide), hx 61 (by decide), hx 64 (by decide), hx 63 (by decide), hx 69 (by decide), hx 70 (by decide), Cp_n hC, hC.1.2.1.1, hC.1.2.1.2.1, hC.1.1.1, hC.1.1.2.2.1, hC.1.1.2.2.2.1]
  rw [e]
  exact h.2
theorem D_steps (l : Launch) (g : Cx) (M : FMem) (home q : Int) (hC : Cp M) (hq : if ¬ (0 ≤ home ∧ home ≤ 9) then q = -1000001 else PSt (LvM M) home.toNat q) : AMi l g true fi_X8_steps [fr 60, fi home] 93 M (fun q2 M2 => q2 = q ∧ Cp M2) := by
  refine AMi_w (A_X8_steps l g M home (Cp_MT hC)) (fun q2 M2 _ h => ?_)
  have hx : ∀ b, b ≠ 92 → M2 b = M b := fun b p => funext fun j => h.1 b j p
  refine ⟨?_, Cp_fr (fun b j q => h.1 b j (by omega)) (by have := hC.2.2.2.2.2.2; unfold CO at this ⊢; rw [hx 60 (by decide)]; exact this) hC⟩
  have h2 := h.2
  by_cases z : ¬ (0 ≤ home ∧ home ≤ 9)
  · rw [if_pos z] at hq h2; rw [h2, hq]
  · rw [if_neg z] at hq h2; exact PSt_eq h2 hq
theorem C_far (l : Launch) (g : Cx) (M : FMem) (f what : Int) (hC : Cp M) : AMl l g true fi_X7_far [fr 0, fi f, fi what] 93 M (fun q M2 => Cp M2 ∧ q = if ¬ ((0 ≤ f ∧ f ≤ 40000) ∧ (what = 0 ∨ what = 1)) then -1000002 else if what = 0 then farL f else farU f) :=
  AMl_w (A_X7_far l g M f what) (fun q M2 _ h => ⟨by rw [h.1]; exact hC, h.2⟩)
theorem D_far (l : Launch) (g : Cx) (M : FMem) (f what q : Int) (hC : Cp M) (hq : q = if ¬ ((0 ≤ f ∧ f ≤ 40000) ∧ (what = 0 ∨ what = 1)) then -1000002 else if what = 0 then farL f else farU f) : AMl l g true fi_X8_far [fr 60, fi f, fi what] 93 M (fun q2 M2 => q2 = q ∧ Cp M2) :=
  AMl_w (A_X8_far l g M f what) (fun q2 M2 _ h => ⟨h.2.trans hq.symm, by rw [h.1]; exact hC⟩)
theorem C_fault (l : Launch) (g : Cx) (M : FMem) (hC : Cp M) : AMi l g true fi_X7_fault [fr 0] 93 M (fun q M2 => Cp M2 ∧ q = M2 60 38) :=
  AMi_w (A_X7_fault l g M) (fun q M2 _ h => ⟨by rw [h.1]; exact hC, by rw [h.1, ← hC.1.2.2.2.2.2.2.2]; exact h.2⟩)
theorem D_fault (l : Launch) (g : Cx) (M : FMem) (q : Int) (hC : Cp M) (hq : q = M 60 38) : AMi l g true fi_X8_fault [fr 60] 93 M (fun q2 M2 => q2 = q ∧ Cp M2) :=
  AMi_w (A_X8_fault l g M) (fun q2 M2 _ h => ⟨h.2.trans hq.symm, by rw [h.1]; exact hC⟩)
theorem told_eq {M : FMem} {r : Nat} (hC : Cp M) (hr : CR M r) (i what : Int) : toldX M r i what = toldM M i what := by
  unfold toldX toldM
  rw [← Cp_n hC, ← hC.1.2.1.1, ← hC.1.2.1.2.1, ← hC.1.1.1, ← hC.1.1.2.1, ← hC.1.1.2.2.1, ← hC.1.1.2.2.2.1]
  by_cases hi : ¬ (0 ≤ i ∧ i < M 1 13)
  · rw [if_pos hi, if_pos hi]
  · have hi2 : 0 ≤ i ∧ i < M 1 13 := by omega
    obtain ⟨s1, s2, -⟩ := Cp_span hC hr hi2.1 hi2.2
    rw [if_neg hi, if_neg hi, s1, s2]
theorem rule_eq {M : FMem} {r : Nat} (hr : CR M r) (what i : Int) : rulX M r what i = rulM M what i := by
  obtain ⟨c1, c2, c3, c4⟩ := rule_at hr.2.2.2
  unfold rulX rulM
  by_cases h0 : ((0 ≤ what ∧ what ≤ 3) ∧ ¬ (0 ≤ i ∧ i ≤ 5)) ∨ (what = 6 ∧ ¬ (0 ≤ i ∧ i ≤ 5))
  · rw [if_pos h0, if_pos h0]
  rw [if_neg h0, if_neg h0, c1, c2, c3]
  by_cases hw : 0 ≤ what ∧ what ≤ 3
  · obtain ⟨d1, d2, d3, d4, d5⟩ := sort_at hr.2.2.2 (s := i) (by omega) (by omega)
    rw [if_pos hw, d1, d2, d3, d4]
    have : what = 0 ∨ what = 1 ∨ what = 2 ∨ what = 3 := by omega
    rcases this with rfl | rfl | rfl | rfl
    · rw [if_pos rfl, Int.add_zero]
    · rw [if_neg (by decide), if_pos rfl]
    · rw [if_neg (by decide), if_neg (by decide), if_pos rfl]
    · rw [if_neg (by decide), if_neg (by decide), if_neg (by decide), if_pos rfl]
  · rw [if_neg hw, if_neg (by omega), if_neg (by omega), if_neg (by omega), if_neg (by omega)]
    by_cases h6 : what = 6
    · obtain ⟨d1, d2, d3, d4, d5⟩ := sort_at hr.2.2.2 (s := i) (by omega) (by omega)
      rw [d5]
    · rw [if_neg h6, if_neg h6]
theorem C_told (l : Launch) (g : Cx) (M : FMem) (i what : Int) (hC : Cp M) : AMi l g true fi_X7_told [fr 0, fi i, fi what] 93 M (fun q M2 => Cp M2 ∧ q = toldM M2 i what) := by
  obtain ⟨r, hr⟩ := hC.2.2.2.1
  have hT := Cp_XT hC hr
  have he := told_eq hC hr i what
  rcases hr.1 with rfl | rfl
  · exact AMi_w (A_X7_told42 l g M i what hT) (fun q M2 _ h => ⟨by rw [h.1]; exact hC, by rw [h.1, ← he]; exact h.2⟩)
  · exact AMi_w (A_X7_told51 l g M i what hT) (fun q M2 _ h => ⟨by rw [h.1]; exact hC, by rw [h.1, ← he]; exact h.2⟩)
theorem D_told (l : Launch) (g : Cx) (M : FMem) (i what q : Int) (hC : Cp M) (hq : q = toldM M i what) : AMi l g true fi_X8_told [fr 60, fi i, fi what] 93 M (fun q2 M2 => q2 = q ∧ Cp M2) :=
  AMi_w (A_X8_told l g M i what (Cp_MT hC)) (fun q2 M2 _ h => ⟨h.2.trans hq.symm, by rw [h.1]; exact hC⟩)
theorem C_rule (l : Launch) (g : Cx) (M : FMem) (what i : Int) (hC : Cp M) : AMi l g true fi_X7_rule [fr 0, fi what, fi i] 93 M (fun q M2 => Cp M2 ∧ q = rulM M2 what i) := by
  obtain ⟨r, hr⟩ := hC.2.2.2.1
  have he := rule_eq hr what i
  have h6 := hr.2.1.1
  rcases hr.1 with rfl | rfl
  · exact AMi_w (A_X7_rule42 l g M what i h6) (fun q M2 _ h => ⟨by rw [h.1]; exact hC, by rw [h.1, ← he]; exact h.2⟩)
  · exact AMi_w (A_X7_rule51 l g M what i h6) (fun q M2 _ h => ⟨by rw [h.1]; exact hC, by rw [h.1, ← he]; exact h.2⟩)
theorem D_rule (l : Launch) (g : Cx) (M : FMem) (what i q : Int) (hC : Cp M) (hq : q = rulM M what i) : AMi l g true fi_X8_rule [fr 60, fi what, fi i] 93 M (fun q2 M2 => q2 = q ∧ Cp M2) :=
  AMi_w (A_X8_rule l g M what i) (fun q2 M2 _ h => ⟨h.2.trans hq.symm, by rw [h.1]; exact hC⟩)
