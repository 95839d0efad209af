/-! ===== entry, return, call, making ===== -/
theorem fent_len (g : Cx) (as : List FV) : (lg_sl (as.map (cv g))).length = (fent as).length := by
  induction as with
  | nil => rfl
  | cons a as ih =>
    have h1 : lg_sl ((a :: as).map (cv g)) = (if (cv g a).category = 2 then [.val (cv g a), .second] else [.val (cv g a)]) ++ lg_sl (as.map (cv g)) := by simp [lg_sl]
    have h2 : fent (a :: as) = (if is2 a then [a, fu] else [a]) ++ fent as := by simp [fent]
    rw [h1, h2, List.length_append, List.length_append, ih]
    match a with
    | .inl x => rfl
    | .inr (.inl x) => rfl
    | .inr (.inr (.inl x)) => rfl
    | .inr (.inr (.inr (.inl x))) => rfl
    | .inr (.inr (.inr (.inr x))) => rfl
theorem fWd_blind (g : Cx) (as : List Value) (n : Nat) (M : FMem) : FrameBlind (va_Pc as (fWd g n M)) := by
  intro a U gg mk h
  obtain ⟨h0, h1, h2, h3, h4⟩ := h
  exact ⟨h0, h1, va_K.moved (u := U) (U := U.calling gg mk a) (Vm.Alike.refl U.vm) h2, h3, fExt_moved (u := U) (U := U.calling gg mk a) rfl (State.WarmedH.refl U) h4⟩
theorem knall {as : List FV} (h : as.all kn = true) : ∀ v ∈ as, kn v = true := List.all_eq_true.mp h
section ZC
variable {l : Launch} {g : Cx} {ph : Bool} {f : FI} {n0 : Nat} {μ : Mc} {Q : State → Prop} {pc : Nat} {stk : List FV} {loc : List FV} {n : Nat} {M : FMem}
theorem fsize {H : Heap} {locs : List Loc} (F : fFx l g f n0 μ) (hn : n0 ≤ n) (h93 : n ≤ 93) (P : va_P g.1 vwCl (fws g n M) H) (S : va_S (fA g) μ.2.2.1.heap H locs) (hle : H.size ≤ μ.2.2.1.heap.size + (n - n0)) : H.size = g.2.2.1 + n := by
  have hs := F.2.2.2.2.2.2.2.2.2.2
  have h1 := S.1
  by_cases e : n = n0
  · omega
  · have hlen : n - 1 < fSH.length := by have : fSH.length = 93 := by decide +kernel
                                         omega
    have h2 := (P (n - 1) _ (fws_get (List.getElem?_eq_getElem hlen) (by omega))).lt
    simp only at h2
    omega
theorem fWd_at {H : Heap} {locs : List Loc} (F : fFx l g f n0 μ) (hn : n0 ≤ n) (h93 : n ≤ 93) (P : va_P g.1 vwCl (fws g n M) H) (S : va_S (fA g) μ.2.2.1.heap H locs) (hle : H.size ≤ μ.2.2.1.heap.size + (n - n0)) {U : State} (hU : U.heap = H) (hW : μ.2.2.1.WarmedH U.vm) : fWd g n M U := by
  refine ⟨by rw [hU]; exact P, va_K.moved hW.alike F.2.2.2.2.2.2.2.2.1, by rw [hU]; exact fsize F hn h93 P S hle, fExt_kept (s := μ.2.2.1) (fun a h1 h2 => by rw [hU]; exact S.2.1 a h1 h2) (by have := F.2.2.2.2.2.2.2.2.2.2; omega) hW F.2.2.2.2.2.2.2.2.2.1⟩
theorem fentry (as : List FV) (loc0 : List FV) (hk : ∀ v ∈ as, kn v = true) (hlen : (fent as).length ≤ f.2.2.1) (h0 : fent as ++ List.replicate (f.2.2.1 - (fent as).length) fu = loc0) : LH g ((lg_sl (as.map (cv g)) ++ List.replicate (f.2.2.1 - (lg_sl (as.map (cv g))).length) Slot.unset).toArray) f.2.2.1 loc0 := by
  have h := lv_entry (as.map (cv g)) (n := f.2.2.1) (by rw [fent_len]; exact hlen)
  refine ⟨h.1, h.2.1, fun j v hj hv => ?_⟩
  rw [← h0] at hj
  by_cases hjl : j < (fent as).length
  · rw [List.getElem?_append_left hjl] at hj
    have := h.2.2 (0 + j, cv g v) (fent_args g as hk 0 j v hj hv)
    simpa using this
  · rw [List.getElem?_append_right (by omega)] at hj
    have := List.eq_of_mem_replicate (List.mem_of_getElem? hj)
    rw [this] at hv
    cases hv
theorem pad_nv {as : List FV} {k : Nat} {loc0 : List FV} (h0 : fent as ++ List.replicate k fu = loc0) (h : ∀ v ∈ as, NV v) : ∀ v ∈ loc0, NV v := by
  intro v hv
  rw [← h0] at hv
  rcases List.mem_append.mp hv with hv | hv
  · exact fent_nv h v hv
  · rw [List.eq_of_mem_replicate hv]; trivial
theorem AMi_intro {as : List FV} {P : Int → FMem → Prop} (loc0 : List FV) (hy : plainName f.1.cls = true) (hk : ∀ v ∈ as, kn v = true) (hlen : (fent as).length ≤ f.2.2.1) (h0 : fent as ++ List.replicate (f.2.2.1 - (fent as).length) fu = loc0)
    (body : (∀ v ∈ as, NV v) → MOk ph M → ∀ μ : Mc, Wa l g ph f n μ (Zi g ph f n μ P) 0 [] loc0 n M) : AMi l g ph f as n M P := by
  intro hNV hM
  refine Met.ofW (cc := f.2.1) (maxL := f.2.2.1) (ret := f.2.2.2.1) hy rfl ?_
  intro p e s m args below meth c s₁ B hml hv
  obtain ⟨rfl, hP, hK, hsz, hE⟩ := hv
  have hts := atoms_spec (ws := fwl f) B.pre
  have W0 := body hNV hM (p, e, s, m, _, below, meth, c) ⟨B.exec, B.bytes, hml, findClass_of_methodNamed B.named, fun w hw => hts w (List.mem_cons_of_mem _ hw), B.returns, B.notSynchronized, (name_of_methodNamed B.named B.method).1, hK, hE, hsz⟩ (Nat.le_refl _) (fun v hv => by cases hv) (pad_nv h0 hNV) hM _ s.heap [] (fentry as loc0 hk hlen h0) hP va_S.rf
  rw [Nat.sub_self, Nat.sub_self] at W0
  rw [lg_entry_eq]
  exact W0
theorem AMl_intro {as : List FV} {P : Int → FMem → Prop} (loc0 : List FV) (hy : plainName f.1.cls = true) (hk : ∀ v ∈ as, kn v = true) (hlen : (fent as).length ≤ f.2.2.1) (h0 : fent as ++ List.replicate (f.2.2.1 - (fent as).length) fu = loc0)
    (body : (∀ v ∈ as, NV v) → MOk ph M → ∀ μ : Mc, Wa l g ph f n μ (Zl g ph f n μ P) 0 [] loc0 n M) : AMl l g ph f as n M P := by
  intro hNV hM
  refine Met.ofW (cc := f.2.1) (maxL := f.2.2.1) (ret := f.2.2.2.1) hy rfl ?_
  intro p e s m args below meth c s₁ B hml hv
  obtain ⟨rfl, hP, hK, hsz, hE⟩ := hv
  have hts := atoms_spec (ws := fwl f) B.pre
  have W0 := body hNV hM (p, e, s, m, _, below, meth, c) ⟨B.exec, B.bytes, hml, findClass_of_methodNamed B.named, fun w hw => hts w (List.mem_cons_of_mem _ hw), B.returns, B.notSynchronized, (name_of_methodNamed B.named B.method).1, hK, hE, hsz⟩ (Nat.le_refl _) (fun v hv => by cases hv) (pad_nv h0 hNV) hM _ s.heap [] (fentry as loc0 hk hlen h0) hP va_S.rf
  rw [Nat.sub_self, Nat.sub_self] at W0
  rw [lg_entry_eq]
  exact W0
theorem AMv_intro {as : List FV} {P : FMem → Prop} (loc0 : List FV) (hy : plainName f.1.cls = true) (hk : ∀ v ∈ as, kn v = true) (hlen : (fent as).length ≤ f.2.2.1) (h0 : fent as ++ List.replicate (f.2.2.1 - (fent as).length) fu = loc0)
    (body : (∀ v ∈ as, NV v) → MOk ph M → ∀ μ : Mc, Wa l g ph f n μ (Zv g ph f n μ P) 0 [] loc0 n M) : AMv l g ph f as n M P := by
  intro hNV hM
  refine Met.ofW (cc := f.2.1) (maxL := f.2.2.1) (ret := f.2.2.2.1) hy rfl ?_
  intro p e s m args below meth c s₁ B hml hv
  obtain ⟨rfl, hP, hK, hsz, hE⟩ := hv
  have hts := atoms_spec (ws := fwl f) B.pre
  have W0 := body hNV hM (p, e, s, m, _, below, meth, c) ⟨B.exec, B.bytes, hml, findClass_of_methodNamed B.named, fun w hw => hts w (List.mem_cons_of_mem _ hw), B.returns, B.notSynchronized, (name_of_methodNamed B.named B.method).1, hK, hE, hsz⟩ (Nat.le_refl _) (fun v hv => by cases hv) (pad_nv h0 hNV) hM _ s.heap [] (fentry as loc0 hk hlen h0) hP va_S.rf
  rw [Nat.sub_self, Nat.sub_self] at W0
  rw [lg_entry_eq]
  exact W0
/-! returns -/
theorem z_iret {Po : Int → FMem → Prop} {x : Int} (hr : f.2.2.2.1 = some .int) (h93 : n ≤ 93) (hc : n0 + f.2.2.2.2.cells = n) (hss : fss n - fss n0 = f.2.2.2.2.slots) (d : decode f.2.1 pc = .ok (.ireturn, 1)) (hp : Po x M) : Wa l g ph f n0 μ (Zi g ph f n0 μ Po) pc [fi x] loc n M := by
  intro F hn hs hl hM ls H locs L P S
  refine W_size fun hle => ?_
  have hcl : n - n0 = f.2.2.2.2.cells := by omega
  have hx : N32 x := nvh hs
  have R := W.iret (free := fA g) (cells := n - n0) (slots := fss n - fss n0) (v := Int32.ofInt x) F.1 F.2.1 (F.2.2.2.2.2.1.trans hr) (Qc := FQi g ph f n0 Po) (l := l) (e := μ.2.1) (R := f.2.2.2.2) (below := μ.2.2.2.2.2.1) (m := μ.2.2.2.1) (args := μ.2.2.2.2.1) (fun t ht hw => ⟨⟨_, (x, M), rfl, ⟨rfl, hx, hM, hp⟩, by rw [hc]; exact fWd_at F hn h93 P S hle ht hw⟩, S.F ht⟩) S.2.2 (ls := ls) d F.2.2.2.2.2.2.1
  unfold Zi
  rw [← hcl, ← hss]
  exact R
theorem z_zret {Po : Int → FMem → Prop} {x : Int} (hr : f.2.2.2.1 = some .boolean) (h01 : x = 0 ∨ x = 1) (h93 : n ≤ 93) (hc : n0 + f.2.2.2.2.cells = n) (hss : fss n - fss n0 = f.2.2.2.2.slots) (d : decode f.2.1 pc = .ok (.ireturn, 1)) (hp : Po x M) : Wa l g ph f n0 μ (Zi g ph f n0 μ Po) pc [fi x] loc n M := by
  intro F hn hs hl hM ls H locs L P S
  refine W_size fun hle => ?_
  have hcl : n - n0 = f.2.2.2.2.cells := by omega
  have hx : N32 x := nvh hs
  have R := W.zret (ty := .boolean) (free := fA g) (cells := n - n0) (slots := fss n - fss n0) (v := Int32.ofInt x) F.1 F.2.1 (F.2.2.2.2.2.1.trans hr) (by rcases h01 with rfl | rfl <;> rfl) (Qc := FQi g ph f n0 Po) (l := l) (e := μ.2.1) (R := f.2.2.2.2) (below := μ.2.2.2.2.2.1) (m := μ.2.2.2.1) (args := μ.2.2.2.2.1) (fun t ht hw => ⟨⟨_, (x, M), rfl, ⟨rfl, hx, hM, hp⟩, by rw [hc]; exact fWd_at F hn h93 P S hle ht hw⟩, S.F ht⟩) S.2.2 (ls := ls) d F.2.2.2.2.2.2.1
  unfold Zi
  rw [← hcl, ← hss]
  exact R
theorem z_lret {Po : Int → FMem → Prop} {x : Int} (hr : f.2.2.2.1 = some .long) (h93 : n ≤ 93) (hc : n0 + f.2.2.2.2.cells = n) (hss : fss n - fss n0 = f.2.2.2.2.slots) (d : decode f.2.1 pc = .ok (.lreturn, 1)) (hp : Po x M) : Wa l g ph f n0 μ (Zl g ph f n0 μ Po) pc [fl x] loc n M := by
  intro F hn hs hl hM ls H locs L P S
  refine W_size fun hle => ?_
  have hcl : n - n0 = f.2.2.2.2.cells := by omega
  have hx : N64 x := nvh hs
  have R := W.lret (free := fA g) (cells := n - n0) (slots := fss n - fss n0) (v := Int64.ofInt x) F.1 F.2.1 (F.2.2.2.2.2.1.trans hr) (Qc := FQl g ph f n0 Po) (l := l) (e := μ.2.1) (R := f.2.2.2.2) (below := μ.2.2.2.2.2.1) (m := μ.2.2.2.1) (args := μ.2.2.2.2.1) (fun t ht hw => ⟨⟨_, (x, M), rfl, ⟨rfl, hx, hM, hp⟩, by rw [hc]; exact fWd_at F hn h93 P S hle ht hw⟩, S.F ht⟩) S.2.2 (ls := ls) d F.2.2.2.2.2.2.1
  unfold Zl
  rw [← hcl, ← hss]
  exact R
theorem z_vret {Po : FMem → Prop} (hr : f.2.2.2.1 = none) (h93 : n ≤ 93) (hc : n0 + f.2.2.2.2.cells = n) (hss : fss n - fss n0 = f.2.2.2.2.slots) (d : decode f.2.1 pc = .ok (.return_, 1)) (hp : Po M) : Wa l g ph f n0 μ (Zv g ph f n0 μ Po) pc [] loc n M := by
  intro F hn hs hl hM ls H locs L P S
  refine W_size fun hle => ?_
  have hcl : n - n0 = f.2.2.2.2.cells := by omega
  have R := W.vret (free := fA g) (cells := n - n0) (slots := fss n - fss n0) F.1 F.2.1 (F.2.2.2.2.2.1.trans hr) (Qc := FQv g ph f n0 Po) (l := l) (e := μ.2.1) (R := f.2.2.2.2) (below := μ.2.2.2.2.2.1) (m := μ.2.2.2.1) (args := μ.2.2.2.2.1) (fun t ht hw => ⟨⟨M, rfl, ⟨hM, hp⟩, by rw [hc]; exact fWd_at F hn h93 P S hle ht hw⟩, S.F ht⟩) S.2.2 (ls := ls) d F.2.2.2.2.2.2.1
  unfold Zv
  rw [← hcl, ← hss]
  exact R
/-! calls -/
/-- what the tables say of a callee with np parameters -/
def CLb (f' : FI) (np : Nat) : Prop := Cond.code f'.1 f'.2.1 f'.2.2.1 f'.2.2.2.1 ∈ TBL ∧ Cond.initialized f'.1.cls ∈ TBL ∧ (f'.1.cls ≠ "java/lang/invoke/MethodHandle" ∧ f'.1.cls ≠ "java/lang/invoke/VarHandle") ∧ (parseMethodDescriptor f'.1.desc).map (fun d => d.parameters.length) = some np
def CLv (own : String) (idx : Nat) (f' : FI) : Prop := Cond.methodLink own idx f'.1 ∈ TBL ∧ Cond.instanceMethod f'.1 ∈ TBL ∧ Cond.selects f'.1.cls f'.1 f'.1 ∈ TBL
def CLs (own : String) (idx : Nat) (f' : FI) : Prop := Cond.methodLink own idx f'.1 ∈ TBL ∧ Cond.static f'.1 ∈ TBL
def CLn (own : String) (idx : Nat) (f' : FI) : Prop := (∃ h, Cond.methodLinkNest own idx f'.1 h ∈ TBL) ∧ Cond.static f'.1 ∈ TBL
def CLi (own : String) (idx : Nat) (f' : FI) : Prop := ((∃ h, Cond.methodLinkNest own idx f'.1 h ∈ TBL) ∨ Cond.methodLink own idx f'.1 ∈ TBL) ∧ f'.1.name = "<init>" ∧ Cond.instanceMethod f'.1 ∈ TBL ∧ f'.2.2.2.1 = none
/-- the callee's room within the caller's -/
def CLr (f f' : FI) (n0 n : Nat) : Prop := (f'.2.2.2.2.frames + 1 ≤ f.2.2.2.2.frames ∧ 8 + (f'.2.2.1 + 11) + f'.2.2.2.2.locals ≤ f.2.2.2.2.locals) ∧ (n - n0 + f'.2.2.2.2.cells ≤ f.2.2.2.2.cells ∧ fss n - fss n0 + f'.2.2.2.2.slots ≤ f.2.2.2.2.slots) ∧ fss n + f'.2.2.2.2.slots = fss (n + f'.2.2.2.2.cells)
theorem np_of {d : String} {np : Nat} (h : (parseMethodDescriptor d).map (fun d => d.parameters.length) = some np) : ∀ sig, parseMethodDescriptor d = some sig → np = sig.parameters.length := by
  intro sig hs
  rw [hs] at h
  exact (Option.some.inj h).symm
theorem fwl_warm {f' : FI} (F : fFx l g f n0 μ) (hc : Cond.code f'.1 f'.2.1 f'.2.2.1 f'.2.2.2.1 ∈ TBL) : ∀ w ∈ fwl f', ∀ (a' : Array Value) (U : State), μ.2.2.1.WarmedH U.vm → w.before a' U = true := by
  intro w hw
  refine tbl_warm F.2.2.2.2.1 w ?_
  rcases List.mem_cons.mp hw with rfl | hw
  · exact hc
  · exact hw
theorem frunV {f' : FI} {np a ci idx : Nat} {as' : List FV} {Qc : Array Value → State → Outcome → State → Prop} {ls : Array Slot} {H : Heap} {locs : List Loc} (F : fFx l g f n0 μ) (hn : n0 ≤ n) (h93 : n ≤ 93) (P : va_P g.1 vwCl (fws g n M) H) (S : va_S (fA g) μ.2.2.1.heap H locs) (hle : H.size ≤ μ.2.2.1.heap.size + (n - n0)) (L : LH g ls f.2.2.1 loc)
    (hM : Met l f'.1 (fwl f') f'.2.2.2.2 (va_Pc ((fr a :: as').map (cv g)) (fWd g n M)) Qc f'.2.2.2.2.cells f'.2.2.2.2.slots (fA g)) (hb : CLb f' np) (hv : CLv f.1.cls idx f') (hr : CLr f f' n0 n) (hs : fSH[a]? = some (.inl ci)) (ha : a < n) (hC : ∃ q, vwCl[ci]? = some q ∧ q.1 = f'.1.cls) (hnp : as'.length = np) (hst : (stk.map fun v => (cv g v).category).sum ≤ 8) (d : decode f.2.1 pc = .ok (.invokevirtual idx, 3)) :
    va_Run μ.1 l μ.2.1 f.2.2.2.2 μ.2.2.1 μ.2.2.2.1 μ.2.2.2.2.1 μ.2.2.2.2.2.1 μ.2.2.2.2.2.2.1 μ.2.2.2.2.2.2.2 H locs (n - n0) (fss n - fss n0) f'.2.2.2.2.cells f'.2.2.2.2.slots (F0 μ.2.2.2.1 pc ls ((as'.reverse ++ fr a :: stk).map (cv g))) (stk.map (cv g)) (Qc ((fr a :: as').map (cv g)).toArray) (fA g) := by
  obtain ⟨q, hq, hqc⟩ := hC
  refine va_runV (C := f'.1.cls) (Ts := TBL) (As := as'.map (cv g)) (b := g.2.2.1 + a) (n := np) (cc := f.2.1) (nL := f.2.2.1) (own := f.1.cls) ⟨F.1, F.2.1, F.2.2.1, F.2.2.2.1, F.2.2.2.2.1⟩ hM
    ⟨⟨rfl, rfl, hr.1.1, hr.1.2, fwl_warm F hb.1, List.mem_cons_self, F.2.2.2.2.1 _ hb.1, F.2.2.2.2.1 _ hb.2.1, hb.2.2.1, np_of hb.2.2.2, F.2.2.2.2.1 _ hv.1⟩, F.2.2.2.2.1 _ hv.2.1, F.2.2.2.2.1 _ hv.2.2⟩
    ⟨fWd_blind g _ n M, by rw [← hqc]; exact va_recv F.2.2.2.2.2.2.2.2.1 P hq (fws_get hs ha), fun U hU hW => ⟨rfl, fWd_at F hn h93 P S hle hU hW⟩⟩
    rfl (by simpa using hnp) L.1 (by simp [cv]) (lv_room (by rw [List.map_map]; exact hst)) d hr.2.1
theorem frunS {f' : FI} {np idx : Nat} {as' : List FV} {Qc : Array Value → State → Outcome → State → Prop} {ls : Array Slot} {H : Heap} {locs : List Loc} (F : fFx l g f n0 μ) (hn : n0 ≤ n) (h93 : n ≤ 93) (P : va_P g.1 vwCl (fws g n M) H) (S : va_S (fA g) μ.2.2.1.heap H locs) (hle : H.size ≤ μ.2.2.1.heap.size + (n - n0)) (L : LH g ls f.2.2.1 loc)
    (hM : Met l f'.1 (fwl f') f'.2.2.2.2 (va_Pc (as'.map (cv g)) (fWd g n M)) Qc f'.2.2.2.2.cells f'.2.2.2.2.slots (fA g)) (hb : CLb f' np) (hv : CLs f.1.cls idx f' ∨ CLn f.1.cls idx f') (hr : CLr f f' n0 n) (hnp : as'.length = np) (hst : (stk.map fun v => (cv g v).category).sum ≤ 8) (d : decode f.2.1 pc = .ok (.invokestatic idx, 3)) :
    va_Run μ.1 l μ.2.1 f.2.2.2.2 μ.2.2.1 μ.2.2.2.1 μ.2.2.2.2.1 μ.2.2.2.2.2.1 μ.2.2.2.2.2.2.1 μ.2.2.2.2.2.2.2 H locs (n - n0) (fss n - fss n0) f'.2.2.2.2.cells f'.2.2.2.2.slots (F0 μ.2.2.2.1 pc ls ((as'.reverse ++ stk).map (cv g))) (stk.map (cv g)) (Qc (as'.map (cv g)).toArray) (fA g) := by
  rcases hv with hv | ⟨⟨h, hv1⟩, hv2⟩
  · refine va_runS (Ts := TBL) (As := as'.map (cv g)) (n := np) (cc := f.2.1) (nL := f.2.2.1) (own := f.1.cls) ⟨F.1, F.2.1, F.2.2.1, F.2.2.2.1, F.2.2.2.2.1⟩ hM
      ⟨⟨rfl, rfl, hr.1.1, hr.1.2, fwl_warm F hb.1, List.mem_cons_self, F.2.2.2.2.1 _ hb.1, F.2.2.2.2.1 _ hb.2.1, hb.2.2.1, np_of hb.2.2.2, F.2.2.2.2.1 _ hv.1⟩, F.2.2.2.2.1 _ hv.2⟩
      ⟨fWd_blind g _ n M, fun U hU hW => ⟨rfl, fWd_at F hn h93 P S hle hU hW⟩⟩
      rfl (by simpa using hnp) L.1 (by simp) (lv_room (by rw [List.map_map]; exact hst)) d hr.2.1
  · refine va_runSN (Ts := TBL) (As := as'.map (cv g)) (n := np) (cc := f.2.1) (nL := f.2.2.1) (own := f.1.cls) (host := h) ⟨F.1, F.2.1, F.2.2.1, F.2.2.2.1, F.2.2.2.2.1⟩ hM
      ⟨⟨⟨rfl, rfl, hr.1.1, hr.1.2, fwl_warm F hb.1, List.mem_cons_self⟩, F.2.2.2.2.1 _ hb.1, F.2.2.2.2.1 _ hb.2.1, hb.2.2.1, np_of hb.2.2.2, F.2.2.2.2.1 _ hv1⟩, F.2.2.2.2.1 _ hv2, trivial⟩
      ⟨fWd_blind g _ n M, fun U hU hW => ⟨rfl, fWd_at F hn h93 P S hle hU hW⟩⟩
      rfl (by simpa using hnp) L.1 (by simp) (lv_room (by rw [List.map_map]; exact hst)) d hr.2.1
theorem frunI {f' : FI} {np a idx : Nat} {as' : List FV} {Qc : Array Value → State → Outcome → State → Prop} {ls : Array Slot} {H : Heap} {locs : List Loc} (F : fFx l g f n0 μ) (hn : n0 ≤ n) (h93 : n ≤ 93) (P : va_P g.1 vwCl (fws g n M) H) (S : va_S (fA g) μ.2.2.1.heap H locs) (hle : H.size ≤ μ.2.2.1.heap.size + (n - n0)) (L : LH g ls f.2.2.1 loc)
    (hM : Met l f'.1 (fwl f') f'.2.2.2.2 (va_Pc ((fr a :: as').map (cv g)) (fWd g n M)) Qc f'.2.2.2.2.cells f'.2.2.2.2.slots (fA g)) (hb : CLb f' np) (hv : CLi f.1.cls idx f') (hr : CLr f f' n0 n) (hnp : as'.length = np) (hst : (stk.map fun v => (cv g v).category).sum ≤ 8) (d : decode f.2.1 pc = .ok (.invokespecial idx, 3)) :
    va_Run μ.1 l μ.2.1 f.2.2.2.2 μ.2.2.1 μ.2.2.2.1 μ.2.2.2.2.1 μ.2.2.2.2.2.1 μ.2.2.2.2.2.2.1 μ.2.2.2.2.2.2.2 H locs (n - n0) (fss n - fss n0) f'.2.2.2.2.cells f'.2.2.2.2.slots (F0 μ.2.2.2.1 pc ls ((as'.reverse ++ fr a :: stk).map (cv g))) (stk.map (cv g)) (Qc ((fr a :: as').map (cv g)).toArray) (fA g) := by
  obtain ⟨hv, hi, hins, hret⟩ := hv
  have hcode := hb.1
  rw [hret] at hcode
  have hmem : Cond.code f'.1 f'.2.1 f'.2.2.1 none ∈ fwl f' := by unfold fwl; rw [hret]; exact List.mem_cons_self
  rcases hv with ⟨h, hv⟩ | hv
  · refine va_runIN (Ts := TBL) (As := as'.map (cv g)) (b := g.2.2.1 + a) (n := np) (cc := f.2.1) (nL := f.2.2.1) (own := f.1.cls) (host := h) ⟨F.1, F.2.1, F.2.2.1, F.2.2.2.1, F.2.2.2.2.1⟩ hM
      ⟨⟨⟨rfl, rfl, hr.1.1, hr.1.2, fwl_warm F hb.1, hmem⟩, F.2.2.2.2.1 _ hcode, F.2.2.2.2.1 _ hb.2.1, hb.2.2.1, np_of hb.2.2.2, F.2.2.2.2.1 _ hv⟩, hi, F.2.2.2.2.1 _ hins⟩
      ⟨fWd_blind g _ n M, fun U hU hW => ⟨rfl, fWd_at F hn h93 P S hle hU hW⟩⟩
      rfl (by simpa using hnp) L.1 (by simp [cv]) (lv_room (by rw [List.map_map]; exact hst)) d hr.2.1
  · refine va_runI (Ts := TBL) (As := as'.map (cv g)) (b := g.2.2.1 + a) (n := np) (cc := f.2.1) (nL := f.2.2.1) (own := f.1.cls) ⟨F.1, F.2.1, F.2.2.1, F.2.2.2.1, F.2.2.2.2.1⟩ hM
      ⟨⟨rfl, rfl, hr.1.1, hr.1.2, fwl_warm F hb.1, hmem, F.2.2.2.2.1 _ hcode, F.2.2.2.2.1 _ hb.2.1, hb.2.2.1, np_of hb.2.2.2, F.2.2.2.2.1 _ hv⟩, hi, F.2.2.2.2.1 _ hins⟩
      ⟨fWd_blind g _ n M, fun U hU hW => ⟨rfl, fWd_at F hn h93 P S hle hU hW⟩⟩
      rfl (by simpa using hnp) L.1 (by simp [cv]) (lv_room (by rw [List.map_map]; exact hst)) d hr.2.1

theorem fss_call {f' : FI} {n0 n : Nat} (hn : n0 ≤ n) (hr : fss n + f'.2.2.2.2.slots = fss (n + f'.2.2.2.2.cells)) : n - n0 + f'.2.2.2.2.cells = n + f'.2.2.2.2.cells - n0 ∧ fss n - fss n0 + f'.2.2.2.2.slots = fss (n + f'.2.2.2.2.cells) - fss n0 := by
  have := fss_mono hn
  omega
theorem z_callVi {f' : FI} {np idx n2 : Nat} {as' : List FV} {st0 : List FV} {P0 : Int → FMem → Prop} {a ci : Nat} (hA : AMi l g ph f' (fr a :: as') n M P0) (hb : CLb f' np) (hv : CLv f.1.cls idx f') (hr : CLr f f' n0 n) (hs : fSH[a]? = some (.inl ci)) (ha : a < n) (hC : ∃ q, vwCl[ci]? = some q ∧ q.1 = f'.1.cls) (hnp : as'.length = np) (h93 : n ≤ 93) (hn2 : n + f'.2.2.2.2.cells = n2) (hst : (stk.map fun v => (cv g v).category).sum ≤ 8) (hs0 : as'.reverse ++ fr a :: stk = st0) (d : decode f.2.1 pc = .ok (.invokevirtual idx, 3)) (k : ∀ (r : Int) (M2 : FMem), N32 r → MOk ph M2 → P0 r M2 → Wa l g ph f n0 μ Q (pc + 3) (fi r :: stk) loc n2 M2) : Wa l g ph f n0 μ Q pc st0 loc n M := by
  subst hs0
  intro F hn hsk hl hM ls H locs L P S
  refine W_size fun hle => ?_
  have hmem : ∀ v ∈ fr a :: as', v ∈ as'.reverse ++ fr a :: stk := by intro v hv; simp at hv ⊢; rcases hv with h | h <;> simp [h]
  have hstk : ∀ v ∈ stk, NV v := fun v hv => hsk v (by simp [hv])
  refine va_calli (frunV F hn h93 P S hle L (hA (fun v hv => hsk v (hmem v hv)) hM) hb hv hr hs ha hC hnp hst d) S (fun q _ h => h) (fun q h => h) (fun r u t H1 locs1 ht hvm hw hB hz1 hk1 hS1 => ?_)
  obtain ⟨hw1, hw2, hw3, hw4⟩ := hw
  obtain ⟨hB1, -⟩ := hB
  rw [ht] at hB1
  subst hw1
  have K := k u.1 u.2 hw2 hw3 hw4 F (by omega) (nvc hw2 hstk) hl hw3 ls H1 locs1 L (by rw [← hn2]; exact hB1) hS1
  obtain ⟨e1, e2⟩ := fss_call (f' := f') hn hr.2.2
  rw [e1, e2, hn2]
  exact K
theorem z_callVl {f' : FI} {np idx n2 : Nat} {as' : List FV} {st0 : List FV} {P0 : Int → FMem → Prop} {a ci : Nat} (hA : AMl l g ph f' (fr a :: as') n M P0) (hb : CLb f' np) (hv : CLv f.1.cls idx f') (hr : CLr f f' n0 n) (hs : fSH[a]? = some (.inl ci)) (ha : a < n) (hC : ∃ q, vwCl[ci]? = some q ∧ q.1 = f'.1.cls) (hnp : as'.length = np) (h93 : n ≤ 93) (hn2 : n + f'.2.2.2.2.cells = n2) (hst : (stk.map fun v => (cv g v).category).sum ≤ 8) (hs0 : as'.reverse ++ fr a :: stk = st0) (d : decode f.2.1 pc = .ok (.invokevirtual idx, 3)) (k : ∀ (r : Int) (M2 : FMem), N64 r → MOk ph M2 → P0 r M2 → Wa l g ph f n0 μ Q (pc + 3) (fl r :: stk) loc n2 M2) : Wa l g ph f n0 μ Q pc st0 loc n M := by
  subst hs0
  intro F hn hsk hl hM ls H locs L P S
  refine W_size fun hle => ?_
  have hmem : ∀ v ∈ fr a :: as', v ∈ as'.reverse ++ fr a :: stk := by intro v hv; simp at hv ⊢; rcases hv with h | h <;> simp [h]
  have hstk : ∀ v ∈ stk, NV v := fun v hv => hsk v (by simp [hv])
  refine va_calll (frunV F hn h93 P S hle L (hA (fun v hv => hsk v (hmem v hv)) hM) hb hv hr hs ha hC hnp hst d) S (fun q _ h => h) (fun q h => h) (fun r u t H1 locs1 ht hvm hw hB hz1 hk1 hS1 => ?_)
  obtain ⟨hw1, hw2, hw3, hw4⟩ := hw
  obtain ⟨hB1, -⟩ := hB
  rw [ht] at hB1
  subst hw1
  have K := k u.1 u.2 hw2 hw3 hw4 F (by omega) (nvc hw2 hstk) hl hw3 ls H1 locs1 L (by rw [← hn2]; exact hB1) hS1
  obtain ⟨e1, e2⟩ := fss_call (f' := f') hn hr.2.2
  rw [e1, e2, hn2]
  exact K
theorem z_callVv {f' : FI} {np idx n2 : Nat} {as' : List FV} {st0 : List FV} {P0 : FMem → Prop} {a ci : Nat} (hA : AMv l g ph f' (fr a :: as') n M P0) (hb : CLb f' np) (hv : CLv f.1.cls idx f') (hr : CLr f f' n0 n) (hs : fSH[a]? = some (.inl ci)) (ha : a < n) (hC : ∃ q, vwCl[ci]? = some q ∧ q.1 = f'.1.cls) (hnp : as'.length = np) (h93 : n ≤ 93) (hn2 : n + f'.2.2.2.2.cells = n2) (hst : (stk.map fun v => (cv g v).category).sum ≤ 8) (hs0 : as'.reverse ++ fr a :: stk = st0) (d : decode f.2.1 pc = .ok (.invokevirtual idx, 3)) (k : ∀ (M2 : FMem), MOk ph M2 → P0 M2 → Wa l g ph f n0 μ Q (pc + 3) stk loc n2 M2) : Wa l g ph f n0 μ Q pc st0 loc n M := by
  subst hs0
  intro F hn hsk hl hM ls H locs L P S
  refine W_size fun hle => ?_
  have hmem : ∀ v ∈ fr a :: as', v ∈ as'.reverse ++ fr a :: stk := by intro v hv; simp at hv ⊢; rcases hv with h | h <;> simp [h]
  have hstk : ∀ v ∈ stk, NV v := fun v hv => hsk v (by simp [hv])
  refine va_callv (frunV F hn h93 P S hle L (hA (fun v hv => hsk v (hmem v hv)) hM) hb hv hr hs ha hC hnp hst d) S (fun q _ h => h) (fun q h => h) (fun u t H1 locs1 ht hvm hw hB hz1 hk1 hS1 => ?_)
  obtain ⟨hw3, hw4⟩ := hw
  obtain ⟨hB1, -⟩ := hB
  rw [ht] at hB1
  have K := k u hw3 hw4 F (by omega) hstk hl hw3 ls H1 locs1 L (by rw [← hn2]; exact hB1) hS1
  obtain ⟨e1, e2⟩ := fss_call (f' := f') hn hr.2.2
  rw [e1, e2, hn2]
  exact K
theorem z_callSi {f' : FI} {np idx n2 : Nat} {as' : List FV} {st0 : List FV} {P0 : Int → FMem → Prop} (hA : AMi l g ph f' as' n M P0) (hb : CLb f' np) (hv : CLs f.1.cls idx f' ∨ CLn f.1.cls idx f') (hr : CLr f f' n0 n) (hnp : as'.length = np) (h93 : n ≤ 93) (hn2 : n + f'.2.2.2.2.cells = n2) (hst : (stk.map fun v => (cv g v).category).sum ≤ 8) (hs0 : as'.reverse ++ stk = st0) (d : decode f.2.1 pc = .ok (.invokestatic idx, 3)) (k : ∀ (r : Int) (M2 : FMem), N32 r → MOk ph M2 → P0 r M2 → Wa l g ph f n0 μ Q (pc + 3) (fi r :: stk) loc n2 M2) : Wa l g ph f n0 μ Q pc st0 loc n M := by
  subst hs0
  intro F hn hsk hl hM ls H locs L P S
  refine W_size fun hle => ?_
  have hmem : ∀ v ∈ as', v ∈ as'.reverse ++ stk := by intro v hv; simp at hv ⊢; simp [hv]
  have hstk : ∀ v ∈ stk, NV v := fun v hv => hsk v (by simp [hv])
  refine va_calli (frunS F hn h93 P S hle L (hA (fun v hv => hsk v (hmem v hv)) hM) hb hv hr hnp hst d) S (fun q _ h => h) (fun q h => h) (fun r u t H1 locs1 ht hvm hw hB hz1 hk1 hS1 => ?_)
  obtain ⟨hw1, hw2, hw3, hw4⟩ := hw
  obtain ⟨hB1, -⟩ := hB
  rw [ht] at hB1
  subst hw1
  have K := k u.1 u.2 hw2 hw3 hw4 F (by omega) (nvc hw2 hstk) hl hw3 ls H1 locs1 L (by rw [← hn2]; exact hB1) hS1
  obtain ⟨e1, e2⟩ := fss_call (f' := f') hn hr.2.2
  rw [e1, e2, hn2]
  exact K
theorem z_callSl {f' : FI} {np idx n2 : Nat} {as' : List FV} {st0 : List FV} {P0 : Int → FMem → Prop} (hA : AMl l g ph f' as' n M P0) (hb : CLb f' np) (hv : CLs f.1.cls idx f' ∨ CLn f.1.cls idx f') (hr : CLr f f' n0 n) (hnp : as'.length = np) (h93 : n ≤ 93) (hn2 : n + f'.2.2.2.2.cells = n2) (hst : (stk.map fun v => (cv g v).category).sum ≤ 8) (hs0 : as'.reverse ++ stk = st0) (d : decode f.2.1 pc = .ok (.invokestatic idx, 3)) (k : ∀ (r : Int) (M2 : FMem), N64 r → MOk ph M2 → P0 r M2 → Wa l g ph f n0 μ Q (pc + 3) (fl r :: stk) loc n2 M2) : Wa l g ph f n0 μ Q pc st0 loc n M := by
  subst hs0
  intro F hn hsk hl hM ls H locs L P S
  refine W_size fun hle => ?_
  have hmem : ∀ v ∈ as', v ∈ as'.reverse ++ stk := by intro v hv; simp at hv ⊢; simp [hv]
  have hstk : ∀ v ∈ stk, NV v := fun v hv => hsk v (by simp [hv])
  refine va_calll (frunS F hn h93 P S hle L (hA (fun v hv => hsk v (hmem v hv)) hM) hb hv hr hnp hst d) S (fun q _ h => h) (fun q h => h) (fun r u t H1 locs1 ht hvm hw hB hz1 hk1 hS1 => ?_)
  obtain ⟨hw1, hw2, hw3, hw4⟩ := hw
  obtain ⟨hB1, -⟩ := hB
  rw [ht] at hB1
  subst hw1
  have K := k u.1 u.2 hw2 hw3 hw4 F (by omega) (nvc hw2 hstk) hl hw3 ls H1 locs1 L (by rw [← hn2]; exact hB1) hS1
  obtain ⟨e1, e2⟩ := fss_call (f' := f') hn hr.2.2
  rw [e1, e2, hn2]
  exact K
theorem z_callSv {f' : FI} {np idx n2 : Nat} {as' : List FV} {st0 : List FV} {P0 : FMem → Prop} (hA : AMv l g ph f' as' n M P0) (hb : CLb f' np) (hv : CLs f.1.cls idx f' ∨ CLn f.1.cls idx f') (hr : CLr f f' n0 n) (hnp : as'.length = np) (h93 : n ≤ 93) (hn2 : n + f'.2.2.2.2.cells = n2) (hst : (stk.map fun v => (cv g v).category).sum ≤ 8) (hs0 : as'.reverse ++ stk = st0) (d : decode f.2.1 pc = .ok (.invokestatic idx, 3)) (k : ∀ (M2 : FMem), MOk ph M2 → P0 M2 → Wa l g ph f n0 μ Q (pc + 3) stk loc n2 M2) : Wa l g ph f n0 μ Q pc st0 loc n M := by
  subst hs0
  intro F hn hsk hl hM ls H locs L P S
  refine W_size fun hle => ?_
  have hmem : ∀ v ∈ as', v ∈ as'.reverse ++ stk := by intro v hv; simp at hv ⊢; simp [hv]
  have hstk : ∀ v ∈ stk, NV v := fun v hv => hsk v (by simp [hv])
  refine va_callv (frunS F hn h93 P S hle L (hA (fun v hv => hsk v (hmem v hv)) hM) hb hv hr hnp hst d) S (fun q _ h => h) (fun q h => h) (fun u t H1 locs1 ht hvm hw hB hz1 hk1 hS1 => ?_)
  obtain ⟨hw3, hw4⟩ := hw
  obtain ⟨hB1, -⟩ := hB
  rw [ht] at hB1
  have K := k u hw3 hw4 F (by omega) hstk hl hw3 ls H1 locs1 L (by rw [← hn2]; exact hB1) hS1
  obtain ⟨e1, e2⟩ := fss_call (f' := f') hn hr.2.2
  rw [e1, e2, hn2]
  exact K
theorem z_callIv {f' : FI} {np idx n2 : Nat} {as' : List FV} {st0 : List FV} {P0 : FMem → Prop} {a : Nat} (hA : AMv l g ph f' (fr a :: as') n M P0) (hb : CLb f' np) (hv : CLi f.1.cls idx f') (hr : CLr f f' n0 n) (hnp : as'.length = np) (h93 : n ≤ 93) (hn2 : n + f'.2.2.2.2.cells = n2) (hst : (stk.map fun v => (cv g v).category).sum ≤ 8) (hs0 : as'.reverse ++ fr a :: stk = st0) (d : decode f.2.1 pc = .ok (.invokespecial idx, 3)) (k : ∀ (M2 : FMem), MOk ph M2 → P0 M2 → Wa l g ph f n0 μ Q (pc + 3) stk loc n2 M2) : Wa l g ph f n0 μ Q pc st0 loc n M := by
  subst hs0
  intro F hn hsk hl hM ls H locs L P S
  refine W_size fun hle => ?_
  have hmem : ∀ v ∈ fr a :: as', v ∈ as'.reverse ++ fr a :: stk := by intro v hv; simp at hv ⊢; rcases hv with h | h <;> simp [h]
  have hstk : ∀ v ∈ stk, NV v := fun v hv => hsk v (by simp [hv])
  refine va_callv (frunI F hn h93 P S hle L (hA (fun v hv => hsk v (hmem v hv)) hM) hb hv hr hnp hst d) S (fun q _ h => h) (fun q h => h) (fun u t H1 locs1 ht hvm hw hB hz1 hk1 hS1 => ?_)
  obtain ⟨hw3, hw4⟩ := hw
  obtain ⟨hB1, -⟩ := hB
  rw [ht] at hB1
  have K := k u hw3 hw4 F (by omega) hstk hl hw3 ls H1 locs1 L (by rw [← hn2]; exact hB1) hS1
  obtain ⟨e1, e2⟩ := fss_call (f' := f') hn hr.2.2
  rw [e1, e2, hn2]
  exact K
/-- a call that changes nothing -/
theorem z_callVip {f' : FI} {np idx n2 : Nat} {as' : List FV} {st0 : List FV} {P0 : Int → Prop} {a ci : Nat} (hA : AMi l g ph f' (fr a :: as') n M (fun r M2 => M2 = M ∧ P0 r)) (hb : CLb f' np) (hv : CLv f.1.cls idx f') (hr : CLr f f' n0 n) (hs : fSH[a]? = some (.inl ci)) (ha : a < n) (hC : ∃ q, vwCl[ci]? = some q ∧ q.1 = f'.1.cls) (hnp : as'.length = np) (h93 : n ≤ 93) (hn2 : n + f'.2.2.2.2.cells = n2) (hst : (stk.map fun v => (cv g v).category).sum ≤ 8) (hs0 : as'.reverse ++ fr a :: stk = st0) (d : decode f.2.1 pc = .ok (.invokevirtual idx, 3)) (k : ∀ (r : Int), N32 r → P0 r → Wa l g ph f n0 μ Q (pc + 3) (fi r :: stk) loc n2 M) : Wa l g ph f n0 μ Q pc st0 loc n M :=
  z_callVi hA hb hv hr hs ha hC hnp h93 hn2 hst hs0 d (fun r M2 hr hM2 hP => by obtain ⟨rfl, h⟩ := hP; exact k r hr h)
/-- a call that changes nothing -/
theorem z_callVlp {f' : FI} {np idx n2 : Nat} {as' : List FV} {st0 : List FV} {P0 : Int → Prop} {a ci : Nat} (hA : AMl l g ph f' (fr a :: as') n M (fun r M2 => M2 = M ∧ P0 r)) (hb : CLb f' np) (hv : CLv f.1.cls idx f') (hr : CLr f f' n0 n) (hs : fSH[a]? = some (.inl ci)) (ha : a < n) (hC : ∃ q, vwCl[ci]? = some q ∧ q.1 = f'.1.cls) (hnp : as'.length = np) (h93 : n ≤ 93) (hn2 : n + f'.2.2.2.2.cells = n2) (hst : (stk.map fun v => (cv g v).category).sum ≤ 8) (hs0 : as'.reverse ++ fr a :: stk = st0) (d : decode f.2.1 pc = .ok (.invokevirtual idx, 3)) (k : ∀ (r : Int), N64 r → P0 r → Wa l g ph f n0 μ Q (pc + 3) (fl r :: stk) loc n2 M) : Wa l g ph f n0 μ Q pc st0 loc n M :=
  z_callVl hA hb hv hr hs ha hC hnp h93 hn2 hst hs0 d (fun r M2 hr hM2 hP => by obtain ⟨rfl, h⟩ := hP; exact k r hr h)
/-- a call that changes nothing -/
theorem z_callSip {f' : FI} {np idx n2 : Nat} {as' : List FV} {st0 : List FV} {P0 : Int → Prop} (hA : AMi l g ph f' as' n M (fun r M2 => M2 = M ∧ P0 r)) (hb : CLb f' np) (hv : CLs f.1.cls idx f' ∨ CLn f.1.cls idx f') (hr : CLr f f' n0 n) (hnp : as'.length = np) (h93 : n ≤ 93) (hn2 : n + f'.2.2.2.2.cells = n2) (hst : (stk.map fun v => (cv g v).category).sum ≤ 8) (hs0 : as'.reverse ++ stk = st0) (d : decode f.2.1 pc = .ok (.invokestatic idx, 3)) (k : ∀ (r : Int), N32 r → P0 r → Wa l g ph f n0 μ Q (pc + 3) (fi r :: stk) loc n2 M) : Wa l g ph f n0 μ Q pc st0 loc n M :=
  z_callSi hA hb hv hr hnp h93 hn2 hst hs0 d (fun r M2 hr hM2 hP => by obtain ⟨rfl, h⟩ := hP; exact k r hr h)
/-- a call that changes nothing -/
theorem z_callSlp {f' : FI} {np idx n2 : Nat} {as' : List FV} {st0 : List FV} {P0 : Int → Prop} (hA : AMl l g ph f' as' n M (fun r M2 => M2 = M ∧ P0 r)) (hb : CLb f' np) (hv : CLs f.1.cls idx f' ∨ CLn f.1.cls idx f') (hr : CLr f f' n0 n) (hnp : as'.length = np) (h93 : n ≤ 93) (hn2 : n + f'.2.2.2.2.cells = n2) (hst : (stk.map fun v => (cv g v).category).sum ≤ 8) (hs0 : as'.reverse ++ stk = st0) (d : decode f.2.1 pc = .ok (.invokestatic idx, 3)) (k : ∀ (r : Int), N64 r → P0 r → Wa l g ph f n0 μ Q (pc + 3) (fl r :: stk) loc n2 M) : Wa l g ph f n0 μ Q pc st0 loc n M :=
  z_callSl hA hb hv hr hnp h93 hn2 hst hs0 d (fun r M2 hr hM2 hP => by obtain ⟨rfl, h⟩ := hP; exact k r hr h)
/-- Object's constructor -/
theorem z_obj {a idx : Nat} (hl0 : Cond.methodLink f.1.cls idx Lib.objectInit ∈ TBL) (hi0 : Cond.instanceMethod Lib.objectInit ∈ TBL) (hc0 : Cond.code Lib.objectInit ⟨#[0xb1]⟩ 1 none ∈ TBL) (hfr : 1 ≤ f.2.2.2.2.frames) (hlo : (stk.map fun v => (cv g v).category).sum + 12 ≤ f.2.2.2.2.locals) (d : decode f.2.1 pc = .ok (.invokespecial idx, 3)) (k : Wa l g ph f n0 μ Q (pc + 3) stk loc n M) : Wa l g ph f n0 μ Q pc (fr a :: stk) loc n M := by
  intro F hn hsk hl hM ls H locs L P S
  exact W.objInit F.1 F.2.1 F.2.2.2.1 (F.2.2.2.2.1 _ hl0) (F.2.2.2.2.1 _ hi0) (F.2.2.2.2.1 _ hc0) rfl (L.1.trans F.2.2.1.symm) rfl d hfr (by have := lv_room (m := μ.2.2.2.1) (pc := pc) (ls := ls) (rest := (fr a :: stk).map (cv g)) (st := []) (by simp); simp at this; simp [List.map_map, Function.comp_def, this]; omega) (k F hn (nvt hsk) hl hM ls H locs L P S)
end ZC
