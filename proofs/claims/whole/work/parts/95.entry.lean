/-! ===== what the entry gives: classes, statics, strings ===== -/
theorem ent_tbl {s : State} {args : Array Value} (hts : ∀ w ∈ lw_tbl, w.before args s = true) : ∀ w ∈ TBL, w.before args s = true := fun w hw => hts w (List.mem_filter.mp hw).1
theorem ent_arr {s : State} {args : Array Value} {ty : FieldType} (h : (Cond.arrayClass ty).before args s = true) : ∃ c : ClassId, ArrOfT s c ty ∧ s.vm.findClass ("[" ++ ty.toString) = some c := by
  obtain ⟨c, k, comp, h1, h2, h3⟩ := Cond.arrayClass_spec (show (Cond.arrayClass ty).holds args s none s [] = true from h)
  exact ⟨c, fun n z => ⟨fun k h => (by cases h), k, h2, comp, h3⟩, h1⟩
theorem ent_K {s : State} {args : Array Value} (hts : ∀ w ∈ lw_tbl, w.before args s = true) : ∃ (G : va_G) (ar : Nat → ClassId), va_K G vwCl [(ar 0, .int), (ar 1, .boolean), (ar 2, .long)] s := by
  have hT := ent_tbl hts
  obtain ⟨c0, i0, k0⟩ := u_known (C := RX0) (T := TX0) (N := 2) (n := 2) hT inT0 (hT (.instantiable RX0 2) (tbl_mem 162 (by decide +kernel) rfl))
  obtain ⟨c1, i1, k1⟩ := u_known (C := RX1) (T := TX1) (N := 15) (n := 15) hT inT1 (hT (.instantiable RX1 15) (tbl_mem 208 (by decide +kernel) rfl))
  obtain ⟨c2, i2, k2⟩ := u_known (C := RX2) (T := TX2) (N := 7) (n := 7) hT inT2 (hT (.instantiable RX2 7) (tbl_mem 177 (by decide +kernel) rfl))
  obtain ⟨c3, i3, k3⟩ := u_known (C := RX3) (T := TX3) (N := 12) (n := 12) hT inT3 (hT (.instantiable RX3 12) (tbl_mem 315 (by decide +kernel) rfl))
  obtain ⟨c4, i4, k4⟩ := u_known (C := RX4) (T := TX4) (N := 5) (n := 5) hT inT4 (hT (.instantiable RX4 5) (tbl_mem 266 (by decide +kernel) rfl))
  obtain ⟨c5, i5, k5⟩ := u_known (C := RX5) (T := TX5) (N := 14) (n := 14) hT inT5 (hT (.instantiable RX5 14) (tbl_mem 101 (by decide +kernel) rfl))
  obtain ⟨c6, i6, k6⟩ := u_known (C := RX6) (T := TX6) (N := 5) (n := 5) hT inT6 (hT (.instantiable RX6 5) (tbl_mem 291 (by decide +kernel) rfl))
  obtain ⟨c7, i7, k7⟩ := u_known (C := RX7) (T := TX7) (N := 11) (n := 11) hT inT7 (hT (.instantiable RX7 11) (tbl_mem 93 (by decide +kernel) rfl))
  obtain ⟨c8, i8, k8⟩ := u_known (C := RX8) (T := TX8) (N := 57) (n := 57) hT inT8 (hT (.instantiable RX8 57) (tbl_mem 989 (by decide +kernel) rfl))
  obtain ⟨a0, p0, q0⟩ := ent_arr (hT _ ac_0)
  obtain ⟨a1, p1, q1⟩ := ent_arr (hT _ ac_1)
  obtain ⟨a2, p2, q2⟩ := ent_arr (hT _ ac_2)
  refine ⟨(fun k => match k with | 0 => c0 | 1 => c1 | 2 => c2 | 3 => c3 | 4 => c4 | 5 => c5 | 6 => c6 | 7 => c7 | _ => c8, fun k => match k with | 0 => i0 | 1 => i1 | 2 => i2 | 3 => i3 | 4 => i4 | 5 => i5 | 6 => i6 | 7 => i7 | _ => i8), fun k => match k with | 0 => a0 | 1 => a1 | _ => a2, ?_, ?_⟩
  · intro k q hq
    match k, hq with
    | 0, hq => cases hq; exact k0
    | 1, hq => cases hq; exact k1
    | 2, hq => cases hq; exact k2
    | 3, hq => cases hq; exact k3
    | 4, hq => cases hq; exact k4
    | 5, hq => cases hq; exact k5
    | 6, hq => cases hq; exact k6
    | 7, hq => cases hq; exact k7
    | 8, hq => cases hq; exact k8
    | k + 9, hq => simp at hq
  · intro k q hq
    match k, hq with
    | 0, hq => cases hq; exact ⟨p0, q0⟩
    | 1, hq => cases hq; exact ⟨p1, q1⟩
    | 2, hq => cases hq; exact ⟨p2, q2⟩
    | k + 3, hq => simp at hq
def eF : List Cond := flatC (Jvm.Cond.and given_1 narrow_1)
abbrev eT : Term := .static "FarCandles$Wide" "TABLE" "[I"
def eI (i : Nat) : Nat := (fPool.map (fun q => q.1)).getD i 0
abbrev eS (i : Nat) : Term := .string "FarCandles$Reader" (eI i)
abbrev eV (i : Nat) : Term := .field (eS i) "java/lang/String" "value" "[B"
theorem e_tab : ∀ j, j < 50 → Cond.eq (.elem eT (.int (Int32.ofNat j))) (.int (Int32.ofInt (fTab.getD j 0))) ∈ eF := by decide +kernel
theorem e_tab0 : Cond.arrayOf eT .int ∈ eF ∧ Cond.eq (.length eT) (.int (Int32.ofNat 50)) ∈ eF ∧ Cond.eq (.static "java/lang/String" "COMPACT_STRINGS" "Z") (.int 1) ∈ eF ∧ Cond.isRef (.static "jdk/internal/util/Preconditions" "SIOOBE_FORMATTER" "Ljava/util/function/BiFunction;") ∈ eF := by decide +kernel
theorem e_str : ∀ i, i < 11 → fLen.getD i 0 < 2 ^ 31 ∧ Cond.exactly (eS i) "java/lang/String" ∈ eF ∧ Cond.eq (.field (eS i) "java/lang/String" "coder" "B") (.int 0) ∈ eF ∧ Cond.arrayOf (eV i) .byte ∈ eF ∧ Cond.eq (.length (eV i)) (.int (Int32.ofNat (fLen.getD i 0))) ∈ eF := by decide +kernel
theorem e_byt : ∀ i, i < 11 → ∀ j, j < fLen.getD i 0 → Cond.eq (.elem (eV i) (.int (Int32.ofNat j))) (.int ((fByt.getD i []).getD j 0)) ∈ eF := by decide +kernel
theorem e_ne : ∀ i, i < 11 → ∀ j, j < 11 → i ≠ j → Cond.not (Cond.eq (eS i) (eS j)) ∈ eF ∨ Cond.not (Cond.eq (eS j) (eS i)) ∈ eF := by decide +kernel
theorem e_ref : ∀ q ∈ fPool, q.2 < 11 ∧ eI q.2 = q.1 ∧ Cond.stringRef "FarCandles$Reader" q.1 (fStr.getD q.2 "") ∈ lw_tbl := by decide +kernel
theorem e_lay : (Cond.laysStatic "FarCandles$Wide" "TABLE" "[I" ∈ lw_tbl ∧ Cond.initialized "FarCandles$Wide" ∈ lw_tbl) ∧ (Cond.laysStatic "java/lang/String" "COMPACT_STRINGS" "Z" ∈ lw_tbl ∧ Cond.initialized "java/lang/String" ∈ lw_tbl) ∧ (Cond.laysStatic "jdk/internal/util/Preconditions" "SIOOBE_FORMATTER" "Ljava/util/function/BiFunction;" ∈ lw_tbl ∧ Cond.initialized "jdk/internal/util/Preconditions" ∈ lw_tbl) := by decide +kernel
def eAdr (b t u : Nat) (adK adV : Nat → Nat) (k : Nat) : Nat := if k = 0 then b else if k = 1 then t else if k = 40 then u else if 20 ≤ k then adV (k - 20) else adK (k - 2)
theorem eAdr_k (b t u : Nat) (adK adV : Nat → Nat) {i : Nat} (hi : i < 11) : eAdr b t u adK adV (2 + i) = adK i := by
  unfold eAdr
  rw [if_neg (by omega), if_neg (by omega), if_neg (by omega), if_neg (by omega), Nat.add_sub_cancel_left]
theorem eAdr_v (b t u : Nat) (adK adV : Nat → Nat) {i : Nat} (hi : i < 11) : eAdr b t u adK adV (20 + i) = adV i := by
  unfold eAdr
  rw [if_neg (by omega), if_neg (by omega), if_neg (by omega), if_pos (by omega), Nat.add_sub_cancel_left]
theorem ent_g {s : State} {b L : Nat} {xs : Nat → Int32} (hts : ∀ w ∈ lw_tbl, w.before #[Value.ref b] s = true) (hX : va_X b L xs s s.heap) (hbl : b < s.heap.size) (hgv : (Jvm.Cond.and given_1 narrow_1).before #[Value.ref b] s = true) : ∃ g : Cx, g.2.2.1 = s.heap.size ∧ g.2.2.2.1 0 = b ∧ g.2.2.2.2.1 = L ∧ va_K g.1 vwCl (ftys g) s ∧ fExt g s := by
  have hs : ∀ c ∈ eF, c.before #[Value.ref b] s = true := flat_of_before _ hgv
  obtain ⟨G, ar, hK⟩ := ent_K hts
  have hA : ∀ a : Nat, a < s.heap.size → ¬ (fun q : Nat => s.heap.size ≤ q) a := fun a h => Nat.not_le.mpr h
  obtain ⟨t, ht, hT⟩ := va_Tof (tm := eT) (ty := .int) (N := 50) (f := fun j => .int (Int32.ofInt (fTab.getD j 0))) (A := fun q : Nat => s.heap.size ≤ q) (by decide) (hs _ e_tab0.1) (va_eqt (hs _ e_tab0.2.1)) (fun j hj => va_eqt (hs _ (e_tab j hj))) hA
  have hZ := va_Zof (A := fun q : Nat => s.heap.size ≤ q) (hts _ e_lay.1.1) (hts _ e_lay.1.2) ht hA
  have hZc := va_Zof (A := fun q : Nat => s.heap.size ≤ q) (hts _ e_lay.2.1.1) (hts _ e_lay.2.1.2) (va_eqt (hs _ e_tab0.2.2.1)) hA
  have hZs := va_Zqof (A := fun q : Nat => s.heap.size ≤ q) (hts _ e_lay.2.2.1) (hts _ e_lay.2.2.2) (hs _ e_tab0.2.2.2) hA
  obtain ⟨u, hu⟩ : ∃ u : Nat, va_Z "jdk/internal/util/Preconditions" "SIOOBE_FORMATTER" "Ljava/util/function/BiFunction;" .null (fun q : Nat => s.heap.size ≤ q) s s.heap ∨ va_Z "jdk/internal/util/Preconditions" "SIOOBE_FORMATTER" "Ljava/util/function/BiFunction;" (.ref u) (fun q : Nat => s.heap.size ≤ q) s s.heap := by
    rcases hZs with z | ⟨u, z⟩
    · exact ⟨0, Or.inl z⟩
    · exact ⟨u, Or.inr z⟩
  obtain ⟨adK, adV, hS, hev⟩ := vk_Sof (args := #[Value.ref b]) (s := s) (N := 11) (tm := eS) (len := fLen) (byt := fByt) (A := fun q : Nat => s.heap.size ≤ q) (fun i hi => (e_str i hi).1) (fun i hi => hs _ (e_str i hi).2.1) (fun i hi => hs _ (e_str i hi).2.2.1) (fun i hi => hs _ (e_str i hi).2.2.2.1) (fun i hi => hs _ (e_str i hi).2.2.2.2) (fun i hi j hj => hs _ (e_byt i hi j hj)) (fun i j hi hj h => (e_ne i hi j hj h).imp (fun z => hs _ z) (fun z => hs _ z)) hA
  refine ⟨(G, ar, s.heap.size, eAdr b t u adK adV, L, xs), rfl, rfl, rfl, hK, ?_⟩
  unfold fExt
  refine ⟨hX, hbl, hT, hZ, ⟨hZc, hu⟩, ?_, ?_⟩
  · unfold vk_S
    refine ⟨fun i hi => ?_, fun i j hi hj h => ?_⟩
    · have h := hS.1 i hi
      rw [← eAdr_k b t u adK adV hi, ← eAdr_v b t u adK adV hi] at h
      exact h
    · exact hS.2 i j hi hj ((eAdr_k b t u adK adV hi).symm.trans (Eq.trans h (eAdr_k b t u adK adV hj)))
  · intro q hq
    obtain ⟨r1, r2, r3⟩ := e_ref q hq
    have h1 := hev q.2 r1
    rw [show eS q.2 = Term.string "FarCandles$Reader" q.1 by rw [← r2]] at h1
    have z := vk_R.of (hts _ r3) h1
    rw [← eAdr_k b t u adK adV r1] at z
    exact z
