/-! ===== strings: the rules for the reader's constants ===== -/
theorem fc_compact : Cond.fieldLink RJ0 38 "java/lang/String" "COMPACT_STRINGS" "Z" ∈ TBL := tbl_mem 636 (by decide +kernel) rfl
theorem fc_sioobe : Cond.fieldLink RJ0 1053 "jdk/internal/util/Preconditions" "SIOOBE_FORMATTER" "Ljava/util/function/BiFunction;" ∈ TBL := tbl_mem 656 (by decide +kernel) rfl
theorem fc_coder : Cond.fieldLink RJ0 15 "java/lang/String" "coder" "B" ∈ TBL := tbl_mem 1528 (by decide +kernel) rfl
theorem fc_value : Cond.fieldLink RJ0 9 "java/lang/String" "value" "[B" ∈ TBL := tbl_mem 1527 (by decide +kernel) rfl
abbrev fi_J3_checkIndex_8e157 : FI := (yJ3_checkIndex_8e157, cJ3_checkIndex_8e157, 3, some .int, { frames := 0, cells := 0, slots := 0, locals := 0 })
set_option maxRecDepth 100000 in
theorem cb_J3_checkIndex_8e157 : CLb fi_J3_checkIndex_8e157 3 := ⟨tbl_mem 660 (by rfl) rfl, tbl_mem 90 (by decide +kernel) rfl, by decide +kernel, by decide +kernel⟩
theorem cl_J0_1059 : CLs RJ0 1059 fi_J3_checkIndex_8e157 ∨ CLn RJ0 1059 fi_J3_checkIndex_8e157 := Or.inl ⟨tbl_mem 658 (by decide +kernel) rfl, tbl_mem 659 (by decide +kernel) rfl⟩
/-- the length and the letters of string j -/
def wl (j : Nat) : Int := ((fLen.getD j 0 : Nat) : Int)
def wc (j : Nat) (i : Int) : Int := ((fByt.getD j []).getD i.toNat 0).toInt
section ZS
variable {l : Launch} {g : Cx} {ph : Bool} {f : FI} {n0 : Nat} {μ : Mc} {Q : State → Prop} {pc : Nat} {stk : List FV} {loc : List FV} {n : Nat} {M : FMem}
theorem z_getsC {idx : Nat} (hl0 : Cond.fieldLink f.1.cls idx "java/lang/String" "COMPACT_STRINGS" "Z" ∈ TBL) (d : decode f.2.1 pc = .ok (.getstatic idx, 3)) (k : Wa l g ph f n0 μ Q (pc + 3) (fi 1 :: stk) loc n M) : Wa l g ph f n0 μ Q pc stk loc n M := by
  intro F hn hsk hl hM ls H locs L P S
  have K := k F hn (nvc (by show N32 1; unfold N32; omega) hsk) hl hM ls H locs L P S
  exact va_gets F.1 F.2.1 F.2.2.2.2.2.2.2.2.2.1.2.2.2.2.1.1 S F.2.2.2.1 (F.2.2.2.2.1 _ hl0) (fun x h => h) d K
theorem z_getsS {idx : Nat} (hl0 : Cond.fieldLink f.1.cls idx "jdk/internal/util/Preconditions" "SIOOBE_FORMATTER" "Ljava/util/function/BiFunction;" ∈ TBL) (d : decode f.2.1 pc = .ok (.getstatic idx, 3)) (k : Wa l g ph f n0 μ Q (pc + 3) (fe 40 :: stk) loc n M) (k2 : Wa l g ph f n0 μ Q (pc + 3) (fu :: stk) loc n M) : Wa l g ph f n0 μ Q pc stk loc n M := by
  intro F hn hsk hl hM ls H locs L P S
  rcases F.2.2.2.2.2.2.2.2.2.1.2.2.2.2.1.2 with z | z
  · exact va_gets F.1 F.2.1 z S F.2.2.2.1 (F.2.2.2.2.1 _ hl0) (fun x h => h) d (k2 F hn (nvc trivial hsk) hl hM ls H locs L P S)
  · exact va_gets F.1 F.2.1 z S F.2.2.2.1 (F.2.2.2.2.1 _ hl0) (fun x h => h) d (k F hn (nvc trivial hsk) hl hM ls H locs L P S)
theorem z_strC {idx j e : Nat} (hl0 : Cond.fieldLink f.1.cls idx "java/lang/String" "coder" "B" ∈ TBL) (hj : j < 11) (he : 2 + j = e) (d : decode f.2.1 pc = .ok (.getfield idx, 3)) (k : Wa l g ph f n0 μ Q (pc + 3) (fi 0 :: stk) loc n M) : Wa l g ph f n0 μ Q pc (fe e :: stk) loc n M := by
  subst he
  intro F hn hsk hl hM ls H locs L P S
  have K := k F hn (nvc (by show N32 0; unfold N32; omega) (nvt hsk)) hl hM ls H locs L P S
  exact vk_getf F.1 F.2.1 (F.2.2.2.2.2.2.2.2.2.1.2.2.2.2.2.1.1 j hj).2.1 S F.2.2.2.1 (F.2.2.2.2.1 _ hl0) (fun x h => h) d K
theorem z_strV {idx j e : Nat} (hl0 : Cond.fieldLink f.1.cls idx "java/lang/String" "value" "[B" ∈ TBL) (hj : j < 11) (he : 2 + j = e) (d : decode f.2.1 pc = .ok (.getfield idx, 3)) (k : Wa l g ph f n0 μ Q (pc + 3) (fe (20 + j) :: stk) loc n M) : Wa l g ph f n0 μ Q pc (fe e :: stk) loc n M := by
  subst he
  intro F hn hsk hl hM ls H locs L P S
  have K := k F hn (nvc trivial (nvt hsk)) hl hM ls H locs L P S
  exact vk_getf F.1 F.2.1 (F.2.2.2.2.2.2.2.2.2.1.2.2.2.2.2.1.1 j hj).2.2.1 S F.2.2.2.1 (F.2.2.2.2.1 _ hl0) (fun x h => h) d K
theorem wl_b {j : Nat} (hj : j < 11) : 2 ≤ wl j ∧ wl j ≤ 6 := by
  have h : ∀ j : Fin 11, 2 ≤ wl j.val ∧ wl j.val ≤ 6 := by decide +kernel
  exact h ⟨j, hj⟩
theorem z_strL {j : Nat} (hj : j < 11) (d : decode f.2.1 pc = .ok (.arraylength, 1)) (k : Wa l g ph f n0 μ Q (pc + 1) (fi (wl j) :: stk) loc n M) : Wa l g ph f n0 μ Q pc (fe (20 + j) :: stk) loc n M := by
  intro F hn hsk hl hM ls H locs L P S
  have hb := wl_b hj
  exact va_tlen F.1 F.2.1 (F.2.2.2.2.2.2.2.2.2.1.2.2.2.2.2.1.1 j hj).2.2.2 S (v := Int32.ofInt (wl j)) (by unfold wl; rw [Int32.ofInt_eq_ofNat]) d (k F hn (nvc (show N32 (wl j) by unfold N32; omega) (nvt hsk)) hl hM ls H locs L P S)
theorem z_strB {j : Nat} {i : Int} (hj : j < 11) (h0 : 0 ≤ i) (hi : i < wl j) (d : decode f.2.1 pc = .ok (.baload, 1)) (k : ∀ v, v = wc j i → N32 v → Wa l g ph f n0 μ Q (pc + 1) (fi v :: stk) loc n M) : Wa l g ph f n0 μ Q pc (fi i :: fe (20 + j) :: stk) loc n M := by
  intro F hn hsk hl hM ls H locs L P S
  have hx : N32 i := nvh hsk
  refine va_tb F.1 F.2.1 (F.2.2.2.2.2.2.2.2.2.1.2.2.2.2.2.1.1 j hj).2.2.2 S (i3_in hx h0 (by unfold wl at hi; exact hi)) (v := .int ((fByt.getD j []).getD i.toNat 0)) (by rw [i3_clamp hx]) d ?_
  have K := k _ rfl (i3_n _) F hn (nvc (i3_n _) (nvt (nvt hsk))) hl hM ls H locs L P S
  simpa only [List.map_cons, cv, wc, Int32.ofInt_toInt] using K
theorem z_i2c {x : Int} (d : decode f.2.1 pc = .ok (.i2c, 1)) (k : ∀ v, v = ((Int32.ofInt x).toUInt32 % 65536).toInt32.toInt → N32 v → Wa l g ph f n0 μ Q (pc + 1) (fi v :: stk) loc n M) : Wa l g ph f n0 μ Q pc (fi x :: stk) loc n M := by
  intro F hn hs hl hM ls H locs L P S
  refine lv_i2c F.1 F.2.1 d rfl ?_
  have k := k _ rfl (i3_n _) F hn (nvc (i3_n _) (nvt hs)) hl hM ls H locs L P S
  simpa only [List.map_cons, cv, Int32.ofInt_toInt] using k
theorem z_pop {a : FV} (h1 : is2 a = false) (d : decode f.2.1 pc = .ok (.pop, 1)) (k : Wa l g ph f n0 μ Q (pc + 1) stk loc n M) : Wa l g ph f n0 μ Q pc (a :: stk) loc n M := by
  intro F hn hs hl hM ls H locs L P S
  have hc : (cv g a).category = 1 := by
    rcases lv_cat (cv g a) with h | h
    · exact h
    · rw [is2_cat h] at h1; cases h1
  exact lv_pop F.1 F.2.1 d hc (k F hn (nvt hs) hl hM ls H locs L P S)
theorem z_nret {Po : Int → FMem → Prop} {x : Int} {ty : FieldType} (hr : f.2.2.2.1 = some ty) (hnar : narrow ty (.int (Int32.ofInt x)) = .int (Int32.ofInt x)) (h93 : n ≤ 93) (hc : n0 + f.2.2.2.2.cells = n) (hss : fss n - fss n0 = f.2.2.2.2.slots) (d : decode f.2.1 pc = .ok (.ireturn, 1)) (hp : Po x M) : Wa l g ph f n0 μ (Zi g ph f n0 μ Po) pc [fi x] loc n M := by
  intro F hn hs hl hM ls H locs L P S
  refine W_size fun hle => ?_
  have hcl : n - n0 = f.2.2.2.2.cells := by omega
  have hx : N32 x := nvh hs
  have R := W.zret (ty := ty) (free := fA g) (cells := n - n0) (slots := fss n - fss n0) (v := Int32.ofInt x) F.1 F.2.1 (F.2.2.2.2.2.1.trans hr) hnar (Qc := FQi g ph f n0 Po) (l := l) (e := μ.2.1) (R := f.2.2.2.2) (below := μ.2.2.2.2.2.1) (m := μ.2.2.2.1) (args := μ.2.2.2.2.1) (fun t ht hw => ⟨⟨_, (x, M), rfl, ⟨rfl, hx, hM, hp⟩, by rw [hc]; exact fWd_at F hn h93 P S hle ht hw⟩, S.F ht⟩) S.2.2 (ls := ls) d F.2.2.2.2.2.2.1
  unfold Zi
  rw [← hcl, ← hss]
  exact R
theorem frunE {f' : FI} {np j idx : Nat} {as' : List FV} {Qc : Array Value → State → Outcome → State → Prop} {ls : Array Slot} {H : Heap} {locs : List Loc} (F : fFx l g f n0 μ) (hn : n0 ≤ n) (h93 : n ≤ 93) (P : va_P g.1 vwCl (fws g n M) H) (S : va_S (fA g) μ.2.2.1.heap H locs) (hle : H.size ≤ μ.2.2.1.heap.size + (n - n0)) (L : LH g ls f.2.2.1 loc)
    (hM : Met l f'.1 (fwl f') f'.2.2.2.2 (va_Pc ((fe (2 + j) :: as').map (cv g)) (fWd g n M)) Qc f'.2.2.2.2.cells f'.2.2.2.2.slots (fA g)) (hb : CLb f' np) (hv : CLv f.1.cls idx f') (hr : CLr f f' n0 n) (hj : j < 11) (hC : f'.1.cls = "java/lang/String") (hnp : as'.length = np) (hst : (stk.map fun v => (cv g v).category).sum ≤ 8) (d : decode f.2.1 pc = .ok (.invokevirtual idx, 3)) :
    va_Run μ.1 l μ.2.1 f.2.2.2.2 μ.2.2.1 μ.2.2.2.1 μ.2.2.2.2.1 μ.2.2.2.2.2.1 μ.2.2.2.2.2.2.1 μ.2.2.2.2.2.2.2 H locs (n - n0) (fss n - fss n0) f'.2.2.2.2.cells f'.2.2.2.2.slots (F0 μ.2.2.2.1 pc ls ((as'.reverse ++ fe (2 + j) :: stk).map (cv g))) (stk.map (cv g)) (Qc ((fe (2 + j) :: as').map (cv g)).toArray) (fA g) := by
  refine va_runV (C := f'.1.cls) (Ts := TBL) (As := as'.map (cv g)) (b := g.2.2.2.1 (2 + j)) (n := np) (cc := f.2.1) (nL := f.2.2.1) (own := f.1.cls) ⟨F.1, F.2.1, F.2.2.1, F.2.2.2.1, F.2.2.2.2.1⟩ hM
    ⟨⟨rfl, rfl, hr.1.1, hr.1.2, fwl_warm F hb.1, List.mem_cons_self, F.2.2.2.2.1 _ hb.1, F.2.2.2.2.1 _ hb.2.1, hb.2.2.1, np_of hb.2.2.2, F.2.2.2.2.1 _ hv.1⟩, F.2.2.2.2.1 _ hv.2.1, F.2.2.2.2.1 _ hv.2.2⟩
    ⟨fWd_blind g _ n M, by rw [hC]; exact vk_recv (i := j) (adK := fun i => g.2.2.2.1 (2 + i)) F.2.2.2.2.2.2.2.2.2.1.2.2.2.2.2.1 hj S, fun U hU hW => ⟨rfl, fWd_at F hn h93 P S hle hU hW⟩⟩
    rfl (by simpa using hnp) L.1 (by simp [cv]) (lv_room (by rw [List.map_map]; exact hst)) d hr.2.1
theorem z_callEi {f' : FI} {np idx n2 j : Nat} {as' : List FV} {st0 : List FV} {P0 : Int → FMem → Prop} (hA : AMi l g ph f' (fe (2 + j) :: as') n M P0) (hb : CLb f' np) (hv : CLv f.1.cls idx f') (hr : CLr f f' n0 n) (hj : j < 11) (hC : f'.1.cls = "java/lang/String") (hnp : as'.length = np) (h93 : n ≤ 93) (hn2 : n + f'.2.2.2.2.cells = n2) (hst : (stk.map fun v => (cv g v).category).sum ≤ 8) (hs0 : as'.reverse ++ fe (2 + j) :: stk = st0) (d : decode f.2.1 pc = .ok (.invokevirtual idx, 3)) (k : ∀ (r : Int) (M2 : FMem), N32 r → MOk ph M2 → P0 r M2 → Wa l g ph f n0 μ Q (pc + 3) (fi r :: stk) loc n2 M2) : Wa l g ph f n0 μ Q pc st0 loc n M := by
  subst hs0
  intro F hn hsk hl hM ls H locs L P S
  refine W_size fun hle => ?_
  have hmem : ∀ v ∈ fe (2 + j) :: as', v ∈ as'.reverse ++ fe (2 + j) :: stk := by intro v hv; simp at hv ⊢; rcases hv with h | h <;> simp [h]
  have hstk : ∀ v ∈ stk, NV v := fun v hv => hsk v (by simp [hv])
  refine va_calli (frunE F hn h93 P S hle L (hA (fun v hv => hsk v (hmem v hv)) hM) hb hv hr hj hC hnp hst d) S (fun q _ h => h) (fun q h => h) (fun r u t H1 locs1 ht hvm hw hB hz1 hk1 hS1 => ?_)
  obtain ⟨hw1, hw2, hw3, hw4⟩ := hw
  obtain ⟨hB1, -⟩ := hB
  rw [ht] at hB1
  subst hw1
  have K := k u.1 u.2 hw2 hw3 hw4 F (by omega) (nvc hw2 hstk) hl hw3 ls H1 locs1 L (by rw [← hn2]; exact hB1) hS1
  obtain ⟨e1, e2⟩ := fss_call (f' := f') hn hr.2.2
  rw [e1, e2, hn2]
  exact K
theorem z_callEip {f' : FI} {np idx n2 j : Nat} {as' : List FV} {st0 : List FV} {P0 : Int → Prop} (hA : AMi l g ph f' (fe (2 + j) :: as') n M (fun r M2 => M2 = M ∧ P0 r)) (hb : CLb f' np) (hv : CLv f.1.cls idx f') (hr : CLr f f' n0 n) (hj : j < 11) (hC : f'.1.cls = "java/lang/String") (hnp : as'.length = np) (h93 : n ≤ 93) (hn2 : n + f'.2.2.2.2.cells = n2) (hst : (stk.map fun v => (cv g v).category).sum ≤ 8) (hs0 : as'.reverse ++ fe (2 + j) :: stk = st0) (d : decode f.2.1 pc = .ok (.invokevirtual idx, 3)) (k : ∀ (r : Int), N32 r → P0 r → Wa l g ph f n0 μ Q (pc + 3) (fi r :: stk) loc n2 M) : Wa l g ph f n0 μ Q pc st0 loc n M :=
  z_callEi hA hb hv hr hj hC hnp h93 hn2 hst hs0 d (fun r M2 hr hM2 hP => by obtain ⟨rfl, h⟩ := hP; exact k r hr h)
theorem fent_argsG (g : Cx) (as : List FV) (i : Nat) : ∀ (j : Nat) (v : FV), (fent as)[j]? = some v → kn v = true → (i + j, cv g v) ∈ lv_args i (as.map (cv g)) := by
  induction as generalizing i with
  | nil => intro j v h; simp [fent] at h
  | cons a as ih =>
    intro j v h hv
    have hcat : (cv g a).category = if is2 a then 2 else 1 := by
      match a with
      | .inl x => rfl
      | .inr (.inl x) => rfl
      | .inr (.inr (.inl x)) => rfl
      | .inr (.inr (.inr (.inl x))) => rfl
      | .inr (.inr (.inr (.inr x))) => rfl
    have hc : fent (a :: as) = (if is2 a then [a, fu] else [a]) ++ fent as := by simp [fent]
    rw [hc] at h
    by_cases h2 : is2 a = true
    · rw [if_pos h2] at h hcat
      simp only [List.map_cons, lv_args, hcat]
      match j, h with
      | 0, h =>
        simp at h
        subst h
        simp
      | 1, h =>
        simp at h
        subst h
        cases hv
      | j + 2, h =>
        simp at h
        have := ih (i + 2) j v h hv
        rw [show i + 2 + j = i + (j + 2) by omega] at this
        simp [this]
    · rw [if_neg h2] at h hcat
      simp only [List.map_cons, lv_args, hcat]
      match j, h with
      | 0, h =>
        simp at h
        subst h
        simp
      | j + 1, h =>
        simp at h
        have := ih (i + 1) j v h hv
        rw [show i + 1 + j = i + (j + 1) by omega] at this
        simp [this]
theorem fentryG (as : List FV) (loc0 : List FV) (hlen : (fent as).length ≤ f.2.2.1) (h0 : fent as ++ List.replicate (f.2.2.1 - (fent as).length) fu = loc0) : LH g ((lg_sl (as.map (cv g)) ++ List.replicate (f.2.2.1 - (lg_sl (as.map (cv g))).length) Slot.unset).toArray) f.2.2.1 loc0 := by
  have h := lv_entry (as.map (cv g)) (n := f.2.2.1) (by rw [fent_len]; exact hlen)
  refine ⟨h.1, h.2.1, fun j v hj hv => ?_⟩
  rw [← h0] at hj
  by_cases hjl : j < (fent as).length
  · rw [List.getElem?_append_left hjl] at hj
    have := h.2.2 (0 + j, cv g v) (fent_argsG g as 0 j v hj hv)
    simpa using this
  · rw [List.getElem?_append_right (by omega)] at hj
    have := List.eq_of_mem_replicate (List.mem_of_getElem? hj)
    rw [this] at hv
    cases hv
theorem AMi_introG {as : List FV} {P : Int → FMem → Prop} (loc0 : List FV) (hy : plainFor f.1 = true) (hlen : (fent as).length ≤ f.2.2.1) (h0 : fent as ++ List.replicate (f.2.2.1 - (fent as).length) fu = loc0)
    (body : (∀ v ∈ as, NV v) → MOk ph M → ∀ μ : Mc, Wa l g ph f n μ (Zi g ph f n μ P) 0 [] loc0 n M) : AMi l g ph f as n M P := by
  intro hNV hM
  refine va_MetF (cc := f.2.1) (maxL := f.2.2.1) (ret := f.2.2.2.1) hy rfl ?_
  intro p e s m args below meth c s₁ B hml hv
  obtain ⟨rfl, hP, hK, hsz, hE⟩ := hv
  have hts := atoms_spec (ws := fwl f) B.pre
  have W0 := body hNV hM (p, e, s, m, _, below, meth, c) ⟨B.exec, B.bytes, hml, findClass_of_methodNamed B.named, fun w hw => hts w (List.mem_cons_of_mem _ hw), B.returns, B.notSynchronized, (name_of_methodNamed B.named B.method).1, hK, hE, hsz⟩ (Nat.le_refl _) (fun v hv => by cases hv) (pad_nv h0 hNV) hM _ s.heap [] (fentryG as loc0 hlen h0) hP va_S.rf
  rw [Nat.sub_self, Nat.sub_self] at W0
  rw [lg_entry_eq]
  exact W0
theorem AMv_introF {as : List FV} {P : FMem → Prop} (loc0 : List FV) (hy : plainFor f.1 = true) (hk : ∀ v ∈ as, kn v = true) (hlen : (fent as).length ≤ f.2.2.1) (h0 : fent as ++ List.replicate (f.2.2.1 - (fent as).length) fu = loc0)
    (body : (∀ v ∈ as, NV v) → MOk ph M → ∀ μ : Mc, Wa l g ph f n μ (Zv g ph f n μ P) 0 [] loc0 n M) : AMv l g ph f as n M P := by
  intro hNV hM
  refine va_MetF (cc := f.2.1) (maxL := f.2.2.1) (ret := f.2.2.2.1) hy rfl ?_
  intro p e s m args below meth c s₁ B hml hv
  obtain ⟨rfl, hP, hK, hsz, hE⟩ := hv
  have hts := atoms_spec (ws := fwl f) B.pre
  have W0 := body hNV hM (p, e, s, m, _, below, meth, c) ⟨B.exec, B.bytes, hml, findClass_of_methodNamed B.named, fun w hw => hts w (List.mem_cons_of_mem _ hw), B.returns, B.notSynchronized, (name_of_methodNamed B.named B.method).1, hK, hE, hsz⟩ (Nat.le_refl _) (fun v hv => by cases hv) (pad_nv h0 hNV) hM _ s.heap [] (fentry as loc0 hk hlen h0) hP va_S.rf
  rw [Nat.sub_self, Nat.sub_self] at W0
  rw [lg_entry_eq]
  exact W0
end ZS
/-- the table of the letters: what the library makes of them -/
theorem wc_tab : ∀ j : Fin 11, ∀ k : Fin 6, ((Int32.ofInt (and32 (wc j.val (k.val : Int)) 255)).toUInt32 % 65536).toInt32.toInt = wc j.val (k.val : Int) ∧ narrow .char (.int (Int32.ofInt (wc j.val (k.val : Int)))) = .int (Int32.ofInt (wc j.val (k.val : Int))) := by decide +kernel
theorem wc_at {j : Nat} {i : Int} (hj : j < 11) (h0 : 0 ≤ i) (hi : i < wl j) : ((Int32.ofInt (and32 (wc j i) 255)).toUInt32 % 65536).toInt32.toInt = wc j i ∧ narrow .char (.int (Int32.ofInt (wc j i))) = .int (Int32.ofInt (wc j i)) := by
  have hb := wl_b hj
  have := wc_tab ⟨j, hj⟩ ⟨i.toNat, by omega⟩
  simp only [Int.toNat_of_nonneg h0] at this
  exact this
theorem shr32_0 (x : Int) (h : N32 x) : shr32 x 0 = x := by
  unfold shr32
  rw [show (Int32.ofInt 0 &&& 31 : Int32) = 0 by decide, Int32.shiftRight_zero, i3_toInt h]
set_option maxHeartbeats 400000 in
theorem A_J0_coder_7d493 (l : Launch) (g : Cx) (M : FMem) (j : Nat) (hj : j < 11) : AMi l g true fi_J0_coder_7d493 [fe (2 + j)] 93 M (fun r M2 => M2 = M ∧ (fun r => r = 0) r) := by
  refine AMi_introF [fe (2 + j)] (by decide +kernel) (knall rfl) (Nat.le_of_ble_eq_true rfl) rfl ?_
  intro hNV hM0 μ
  refine z_getsC fc_compact dJ0_coder_7d493_0 ?_
  refine z_if_eq (tgt := 13) dJ0_coder_7d493_3 (by decide) (fun c1 => ?_) (fun c1 => ?_)
  · omega
  · refine z_aload_ne dJ0_coder_7d493_6 rfl ?_
    refine z_strC (j := j) fc_coder (hj) rfl dJ0_coder_7d493_7 ?_
    refine z_goto (tgt := 14) dJ0_coder_7d493_10 (by decide) ?_
    refine z_nret (ty := .byte) rfl (rfl) (by decide) rfl (Nat.sub_self _) dJ0_coder_7d493_14 ?_
    exact ⟨rfl, rfl⟩
set_option maxHeartbeats 400000 in
theorem A_J0_isLatin1_aae02 (l : Launch) (g : Cx) (M : FMem) (j : Nat) (hj : j < 11) : AMi l g true fi_J0_isLatin1_aae02 [fe (2 + j)] 93 M (fun r M2 => M2 = M ∧ (fun r => r = 1) r) := by
  refine AMi_introF [fe (2 + j)] (by decide +kernel) (knall rfl) (Nat.le_of_ble_eq_true rfl) rfl ?_
  intro hNV hM0 μ
  refine z_getsC fc_compact dJ0_isLatin1_aae02_0 ?_
  refine z_if_eq (tgt := 17) dJ0_isLatin1_aae02_3 (by decide) (fun c1 => ?_) (fun c1 => ?_)
  · omega
  · refine z_aload_ne dJ0_isLatin1_aae02_6 rfl ?_
    refine z_strC (j := j) fc_coder (hj) rfl dJ0_isLatin1_aae02_7 ?_
    refine z_if_ne (tgt := 17) dJ0_isLatin1_aae02_10 (by decide) (fun c2 => ?_) (fun c2 => ?_)
    · omega
    · refine z_iconst dJ0_isLatin1_aae02_13 ⟨by decide, by decide⟩ ?_
      refine z_goto (tgt := 18) dJ0_isLatin1_aae02_14 (by decide) ?_
      refine z_zret rfl (by omega) (by decide) rfl (Nat.sub_self _) dJ0_isLatin1_aae02_18 ?_
      exact ⟨rfl, rfl⟩
set_option maxHeartbeats 400000 in
theorem A_J0_length_8abf5 (l : Launch) (g : Cx) (M : FMem) (j : Nat) (hj : j < 11) : AMi l g true fi_J0_length_8abf5 [fe (2 + j)] 93 M (fun r M2 => M2 = M ∧ (fun r => r = wl j) r) := by
  refine AMi_introF [fe (2 + j)] (by decide +kernel) (knall rfl) (Nat.le_of_ble_eq_true rfl) rfl ?_
  intro hNV hM0 μ
  refine z_aload_ne dJ0_length_8abf5_0 rfl ?_
  refine z_strV (j := j) fc_value (hj) rfl dJ0_length_8abf5_1 ?_
  refine z_strL (j := j) (hj) dJ0_length_8abf5_4 ?_
  refine z_aload_ne dJ0_length_8abf5_5 rfl ?_
  refine z_callEip (n2 := 93) (A_J0_coder_7d493 l g M j (hj)) cb_J0_coder_7d493 cl_J0_335 (clr0 rfl rfl (by decide) (by decide)) (hj) rfl rfl (by decide) rfl (Nat.le_of_ble_eq_true rfl) rfl dJ0_length_8abf5_6 (fun x1 bx1 hx1 => ?_)
  refine z_ishr dJ0_length_8abf5_9 (fun x2 hx2 bx2 => ?_)
  refine z_iret rfl (by decide) rfl (Nat.sub_self _) dJ0_length_8abf5_10 ?_
  refine ⟨rfl, ?_⟩
  have hb := wl_b hj
  subst_vars
  exact shr32_0 _ (by unfold N32; omega)
set_option maxHeartbeats 400000 in
theorem A_J3_checkIndex_8e157 (l : Launch) (g : Cx) (M : FMem) (i n : Int) (h0 : 0 ≤ i) (h1 : i < n) : AMi l g true fi_J3_checkIndex_8e157 [fi i, fi n, fe 40] 93 M (fun r M2 => M2 = M ∧ (fun r => r = i) r) := by
  refine AMi_introF [fi i, fi n, fe 40] (by decide +kernel) (knall rfl) (Nat.le_of_ble_eq_true rfl) rfl ?_
  intro hNV hM0 μ
  have bi : N32 i := hNV (fi i) (by simp)
  have bn : N32 n := hNV (fi n) (by simp)
  refine z_iload_n dJ3_checkIndex_8e157_0 rfl ?_
  refine z_if_lt (tgt := 9) dJ3_checkIndex_8e157_1 (by decide) (fun c1 => ?_) (fun c1 => ?_)
  · omega
  · refine z_iload_n dJ3_checkIndex_8e157_4 rfl ?_
    refine z_iload_n dJ3_checkIndex_8e157_5 rfl ?_
    refine z_icmp_lt (tgt := 16) dJ3_checkIndex_8e157_6 (by decide) (fun c2 => ?_) (fun c2 => ?_)
    · refine z_iload_n dJ3_checkIndex_8e157_16 rfl ?_
      refine z_iret rfl (by decide) rfl (Nat.sub_self _) dJ3_checkIndex_8e157_17 ?_
      exact ⟨rfl, rfl⟩
    · omega
set_option maxHeartbeats 400000 in
theorem A_J3_checkIndexN (l : Launch) (g : Cx) (M : FMem) (i n : Int) (h0 : 0 ≤ i) (h1 : i < n) : AMi l g true fi_J3_checkIndex_8e157 [fi i, fi n, fu] 93 M (fun r M2 => M2 = M ∧ (fun r => r = i) r) := by
  refine AMi_introG [fi i, fi n, fu] (by decide +kernel)  (Nat.le_of_ble_eq_true rfl) rfl ?_
  intro hNV hM0 μ
  have bi : N32 i := hNV (fi i) (by simp)
  have bn : N32 n := hNV (fi n) (by simp)
  refine z_iload_n dJ3_checkIndex_8e157_0 rfl ?_
  refine z_if_lt (tgt := 9) dJ3_checkIndex_8e157_1 (by decide) (fun c1 => ?_) (fun c1 => ?_)
  · omega
  · refine z_iload_n dJ3_checkIndex_8e157_4 rfl ?_
    refine z_iload_n dJ3_checkIndex_8e157_5 rfl ?_
    refine z_icmp_lt (tgt := 16) dJ3_checkIndex_8e157_6 (by decide) (fun c2 => ?_) (fun c2 => ?_)
    · refine z_iload_n dJ3_checkIndex_8e157_16 rfl ?_
      refine z_iret rfl (by decide) rfl (Nat.sub_self _) dJ3_checkIndex_8e157_17 ?_
      exact ⟨rfl, rfl⟩
    · omega
set_option maxHeartbeats 400000 in
theorem A_J0_checkIndex_df160 (l : Launch) (g : Cx) (M : FMem) (i n : Int) (h0 : 0 ≤ i) (h1 : i < n) : AMv l g true fi_J0_checkIndex_df160 [fi i, fi n] 93 M (fun M2 => M2 = M) := by
  refine AMv_introF [fi i, fi n] (by decide +kernel) (knall rfl) (Nat.le_of_ble_eq_true rfl) rfl ?_
  intro hNV hM0 μ
  have bi : N32 i := hNV (fi i) (by simp)
  have bn : N32 n := hNV (fi n) (by simp)
  refine z_iload_n dJ0_checkIndex_df160_0 rfl ?_
  refine z_iload_n dJ0_checkIndex_df160_1 rfl ?_
  refine z_getsS fc_sioobe dJ0_checkIndex_df160_2 ?_ ?_
  · refine z_callSip (n2 := 93) (A_J3_checkIndex_8e157 l g M i n (h0) (h1)) cb_J3_checkIndex_8e157 cl_J0_1059 (clr0 rfl rfl (by decide) (by decide)) rfl (by decide) rfl (Nat.le_of_ble_eq_true rfl) rfl dJ0_checkIndex_df160_5 (fun x1 bx1 hx1 => ?_)
    refine z_pop rfl dJ0_checkIndex_df160_8 ?_
    refine z_vret rfl (by decide) rfl (Nat.sub_self _) dJ0_checkIndex_df160_9 ?_
    rfl
  · refine z_callSip (n2 := 93) (A_J3_checkIndexN l g M i n (h0) (h1)) cb_J3_checkIndex_8e157 cl_J0_1059 (clr0 rfl rfl (by decide) (by decide)) rfl (by decide) rfl (Nat.le_of_ble_eq_true rfl) rfl dJ0_checkIndex_df160_5 (fun x2 bx2 hx2 => ?_)
    refine z_pop rfl dJ0_checkIndex_df160_8 ?_
    refine z_vret rfl (by decide) rfl (Nat.sub_self _) dJ0_checkIndex_df160_9 ?_
    rfl
set_option maxHeartbeats 400000 in
theorem A_J1_charAt_3b067 (l : Launch) (g : Cx) (M : FMem) (j : Nat) (hj : j < 11) (i : Int) (h0 : 0 ≤ i) (h1 : i < wl j) : AMi l g true fi_J1_charAt_3b067 [fe (20 + j), fi i] 93 M (fun r M2 => M2 = M ∧ (fun r => r = wc j i) r) := by
  refine AMi_introF [fe (20 + j), fi i] (by decide +kernel) (knall rfl) (Nat.le_of_ble_eq_true rfl) rfl ?_
  intro hNV hM0 μ
  have bi : N32 i := hNV (fi i) (by simp)
  refine z_iload_n dJ1_charAt_3b067_0 rfl ?_
  refine z_aload_ne dJ1_charAt_3b067_1 rfl ?_
  refine z_strL (j := j) (hj) dJ1_charAt_3b067_2 ?_
  refine z_callSv (n2 := 93) (A_J0_checkIndex_df160 l g M i (wl j) (h0) (h1)) cb_J0_checkIndex_df160 cl_J1_9 (clr0 rfl rfl (by decide) (by decide)) rfl (by decide) rfl (Nat.le_of_ble_eq_true rfl) rfl dJ1_charAt_3b067_3 (fun Mz1 kMz1 hc1 => ?_)
  have hM3 := hc1
  refine z_aload_ne dJ1_charAt_3b067_6 rfl ?_
  refine z_iload_n dJ1_charAt_3b067_7 rfl ?_
  refine z_strB (j := j) (hj) (by omega) (by omega) dJ1_charAt_3b067_8 (fun x2 hx2 bx2 => ?_)
  have hr7 := hx2
  refine z_sipush dJ1_charAt_3b067_9 ⟨by decide, by decide⟩ (by decide) ?_
  refine z_iand dJ1_charAt_3b067_12 (fun x3 hx3 bx3 => ?_)
  have hr8 := hx3
  refine z_i2c dJ1_charAt_3b067_13 (fun x4 hx4 bx4 => ?_)
  have hr9 : x4 = wc j i := by rw [hx4, hr8, hr7]; exact (wc_at hj h0 h1).1
  refine z_nret (ty := .char) rfl (by rw [hr9]; exact (wc_at hj h0 h1).2) (by decide) rfl (Nat.sub_self _) dJ1_charAt_3b067_14 ?_
  exact ⟨hM3, hr9⟩
set_option maxHeartbeats 400000 in
theorem A_J0_charAt_5068e (l : Launch) (g : Cx) (M : FMem) (j : Nat) (hj : j < 11) (i : Int) (h0 : 0 ≤ i) (h1 : i < wl j) : AMi l g true fi_J0_charAt_5068e [fe (2 + j), fi i] 93 M (fun r M2 => M2 = M ∧ (fun r => r = wc j i) r) := by
  refine AMi_introF [fe (2 + j), fi i] (by decide +kernel) (knall rfl) (Nat.le_of_ble_eq_true rfl) rfl ?_
  intro hNV hM0 μ
  have bi : N32 i := hNV (fi i) (by simp)
  refine z_aload_ne dJ0_charAt_5068e_0 rfl ?_
  refine z_callEip (n2 := 93) (A_J0_isLatin1_aae02 l g M j (hj)) cb_J0_isLatin1_aae02 cl_J0_492 (clr0 rfl rfl (by decide) (by decide)) (hj) rfl rfl (by decide) rfl (Nat.le_of_ble_eq_true rfl) rfl dJ0_charAt_5068e_1 (fun x1 bx1 hx1 => ?_)
  refine z_if_eq (tgt := 16) dJ0_charAt_5068e_4 (by decide) (fun c2 => ?_) (fun c2 => ?_)
  · omega
  · refine z_aload_ne dJ0_charAt_5068e_7 rfl ?_
    refine z_strV (j := j) fc_value (hj) rfl dJ0_charAt_5068e_8 ?_
    refine z_iload_n dJ0_charAt_5068e_11 rfl ?_
    refine z_callSip (n2 := 93) (A_J1_charAt_3b067 l g M j (hj) i (h0) (h1)) cb_J1_charAt_3b067 cl_J0_495 (clr0 rfl rfl (by decide) (by decide)) rfl (by decide) rfl (Nat.le_of_ble_eq_true rfl) rfl dJ0_charAt_5068e_12 (fun x3 bx3 hx3 => ?_)
    have hr9 := hx3
    refine z_nret (ty := .char) rfl (by rw [hr9]; exact (wc_at hj h0 h1).2) (by decide) rfl (Nat.sub_self _) dJ0_charAt_5068e_15 ?_
    exact ⟨rfl, hr9⟩
