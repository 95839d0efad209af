/-! ===== rules of the memory ===== -/
def fkT (t : Nat) (ty : FieldType) : Prop := match t with
  | 0 => ty = .int
  | 1 => ty = .boolean
  | 2 => ty = .long
  | _ => (∃ C, ty = .object C) ∨ ∃ e, ty = .array e
/-- a field's link: index idx of own's pool is field kf, of type t, of class ci -/
def FL (own : String) (idx ci kf t : Nat) (fin : Bool) : Prop := ∃ (C : String) (T : u_T) (N : Nat) (ty : Nat → FieldType), vwCl[ci]? = some (C, T, N) ∧ (∀ w ∈ u_ws C T N, w ∈ TBL) ∧ kf < N ∧ Cond.fieldLink own idx C (T kf).2.1 (T kf).2.2.1 ∈ TBL ∧ (T kf).1 = C ∧ (fT.getD ci [])[kf]? = some t ∧ (∀ k, k < N → parseFieldDescriptor (T k).2.2.1 = some (ty k)) ∧ (∀ a, a < N → ∀ b, b < N → a ≠ b → (T a).2.1 ≠ (T b).2.1) ∧ (fT.getD ci []).length = N ∧ (T kf).2.2.2 = fin ∧ fkT t (ty kf)
theorem fty_obj {a ci kf t : Nat} (hs : fSH[a]? = some (.inl ci)) (ht : (fT.getD ci [])[kf]? = some t) : fty a kf = t := by
  unfold fty
  rw [hs]
  simp only
  rw [if_neg (by omega)]
  simp [List.getD_eq_getElem?_getD] at ht ⊢
  rw [ht]; rfl
theorem fty_arr {a t len : Nat} {i : Int} (hs : fSH[a]? = some (.inr (t, len))) : fty a i = t := by
  unfold fty
  rw [hs]
theorem i3_01 {x : Int} (h : x = 0 ∨ x = 1) : Int32.ofInt x &&& 1 = Int32.ofInt x := by rcases h with rfl | rfl <;> decide
theorem n32_01 {x : Int} (h : x = 0 ∨ x = 1) : N32 x := by unfold N32; omega
theorem fput_list {B : Nat} {M : FMem} {a kf t : Nat} {x : Int} (ts : List Nat) (ht : ts[kf]? = some t) : (ts.mapIdx (fun k t => fcv B t (M a k))).set kf (fcv B t x) = ts.mapIdx (fun k t => fcv B t (st M a kf x a k)) := by
  apply List.ext_getElem?
  intro k
  by_cases hk : kf = k
  · subst hk
    have hlt : kf < ts.length := (List.getElem?_eq_some_iff.mp ht).1
    rw [List.getElem?_set_self (by simpa using hlt), List.getElem?_mapIdx, ht]
    simp [st]
  · rw [List.getElem?_set_ne hk, List.getElem?_mapIdx, List.getElem?_mapIdx]
    have : ¬ (k : Int) = (kf : Int) := by omega
    simp [st, this]
theorem W_size {p : Program} {l : Launch} {e : Env} {R : Room} {s : State} {m : MethodId} {args : Array Value} {below : List Frame} {meth : Method} {c : Code} {H : Heap} {locs : List Loc} {cells slots : Nat} {Q : State → Prop} {g : JFrame} (h : H.size ≤ s.heap.size + cells → W p l e R s m args below meth c H locs cells slots Q g) : W p l e R s m args below meth c H locs cells slots Q g := fun T hT X => h (hT ▸ X.heapSize) T hT X
theorem fss_mono {a b : Nat} (h : a ≤ b) : fss a ≤ fss b := by
  unfold fss
  rw [show fSH.take a = (fSH.take b).take a by rw [List.take_take, Nat.min_eq_left h]]
  generalize (fSH.take b) = l
  induction l generalizing a with
  | nil => simp
  | cons x xs ih =>
    cases a with
    | zero => simp
    | succ a => simp only [List.take_succ_cons, List.map_cons, List.sum_cons]; exact Nat.add_le_add_left (ih (Nat.le_trans (Nat.le_succ a) h |> fun _ => by omega)) _
section ZM
variable {l : Launch} {g : Cx} {ph : Bool} {f : FI} {n0 : Nat} {μ : Mc} {Q : State → Prop} {pc : Nat} {stk : List FV} {loc : List FV} {n : Nat} {M : FMem}
theorem z_geti {a idx ci kf : Nat} {kz : Int} {fin : Bool} (hL : FL f.1.cls idx ci kf 0 fin) (hs : fSH[a]? = some (.inl ci)) (ha : a < n) (hkz : (kf : Int) = kz) (d : decode f.2.1 pc = .ok (.getfield idx, 3)) (k : ∀ v, v = M a kz → N32 v → Wa l g ph f n0 μ Q (pc + 3) (fi v :: stk) loc n M) : Wa l g ph f n0 μ Q pc (fr a :: stk) loc n M := by
  subst hkz
  intro F hn hsk hl hM ls H locs L P S
  obtain ⟨C, T, N, ty, hc, hin, hk, hlink, hcls, hft, -⟩ := hL
  have hr : N32 (M a kf) := by have := hM.1 a kf; rw [fty_obj hs hft] at this; exact this
  exact va_get F.1 F.2.1 F.2.2.2.2.1 hin F.2.2.2.1 F.2.2.2.2.2.2.2.2.1 P a (fws_get hs ha) hc kf hk (F.2.2.2.2.1 _ hlink) (fun x h => by rw [hcls] at h; exact h) (v := .int (Int32.ofInt (M a kf))) (by rw [List.getElem?_mapIdx, hft]; rfl) d (k _ rfl hr F hn (nvc hr (nvt hsk)) hl hM ls H locs L P S)
theorem z_getz {a idx ci kf : Nat} {kz : Int} {fin : Bool} (hL : FL f.1.cls idx ci kf 1 fin) (hs : fSH[a]? = some (.inl ci)) (ha : a < n) (hkz : (kf : Int) = kz) (d : decode f.2.1 pc = .ok (.getfield idx, 3)) (k : ∀ v, v = M a kz → v = 0 ∨ v = 1 → Wa l g ph f n0 μ Q (pc + 3) (fi v :: stk) loc n M) : Wa l g ph f n0 μ Q pc (fr a :: stk) loc n M := by
  subst hkz
  intro F hn hsk hl hM ls H locs L P S
  obtain ⟨C, T, N, ty, hc, hin, hk, hlink, hcls, hft, -⟩ := hL
  have hr : M a kf = 0 ∨ M a kf = 1 := by have := hM.1 a kf; rw [fty_obj hs hft] at this; exact this
  exact va_get F.1 F.2.1 F.2.2.2.2.1 hin F.2.2.2.1 F.2.2.2.2.2.2.2.2.1 P a (fws_get hs ha) hc kf hk (F.2.2.2.2.1 _ hlink) (fun x h => by rw [hcls] at h; exact h) (v := .int (Int32.ofInt (M a kf))) (by rw [List.getElem?_mapIdx, hft]; rfl) d (k _ rfl hr F hn (nvc (n32_01 hr) (nvt hsk)) hl hM ls H locs L P S)
theorem z_getl {a idx ci kf : Nat} {kz : Int} {fin : Bool} (hL : FL f.1.cls idx ci kf 2 fin) (hs : fSH[a]? = some (.inl ci)) (ha : a < n) (hkz : (kf : Int) = kz) (d : decode f.2.1 pc = .ok (.getfield idx, 3)) (k : ∀ v, v = M a kz → N64 v → Wa l g ph f n0 μ Q (pc + 3) (fl v :: stk) loc n M) : Wa l g ph f n0 μ Q pc (fr a :: stk) loc n M := by
  subst hkz
  intro F hn hsk hl hM ls H locs L P S
  obtain ⟨C, T, N, ty, hc, hin, hk, hlink, hcls, hft, -⟩ := hL
  have hr : N64 (M a kf) := by have := hM.1 a kf; rw [fty_obj hs hft] at this; exact this
  exact va_get F.1 F.2.1 F.2.2.2.2.1 hin F.2.2.2.1 F.2.2.2.2.2.2.2.2.1 P a (fws_get hs ha) hc kf hk (F.2.2.2.2.1 _ hlink) (fun x h => by rw [hcls] at h; exact h) (v := .long (Int64.ofInt (M a kf))) (by rw [List.getElem?_mapIdx, hft]; rfl) d (k _ rfl hr F hn (nvc hr (nvt hsk)) hl hM ls H locs L P S)
/-- a reference, by its number -/
theorem z_getv {a idx ci kf b : Nat} {kz : Int} {fin : Bool} (hL : FL f.1.cls idx ci kf 3 fin) (hs : fSH[a]? = some (.inl ci)) (ha : a < n) (hkz : (kf : Int) = kz) (hb : MOk ph M → M a kz = (b : Int)) (d : decode f.2.1 pc = .ok (.getfield idx, 3)) (k : Wa l g ph f n0 μ Q (pc + 3) (fr b :: stk) loc n M) : Wa l g ph f n0 μ Q pc (fr a :: stk) loc n M := by
  subst hkz
  intro F hn hsk hl hM ls H locs L P S
  obtain ⟨C, T, N, ty, hc, hin, hk, hlink, hcls, hft, -⟩ := hL
  exact va_get F.1 F.2.1 F.2.2.2.2.1 hin F.2.2.2.1 F.2.2.2.2.2.2.2.2.1 P a (fws_get hs ha) hc kf hk (F.2.2.2.2.1 _ hlink) (fun x h => by rw [hcls] at h; exact h) (v := .ref (g.2.2.1 + b)) (by rw [List.getElem?_mapIdx, hft]; simp [fcv, hb hM]) d (k F hn (nvc trivial (nvt hsk)) hl hM ls H locs L P S)
/-- a final reference, once all is made -/
theorem z_getr {a idx ci kf b : Nat} {fin : Bool} (hL : FL f.1.cls idx ci kf 3 fin) (hs : fSH[a]? = some (.inl ci)) (ha : a < n) (hb : ((a, (kf : Int), (b : Int)) : Nat × Int × Int) ∈ fRefs) (hp : ph = true) (d : decode f.2.1 pc = .ok (.getfield idx, 3)) (k : Wa l g ph f n0 μ Q (pc + 3) (fr b :: stk) loc n M) : Wa l g ph f n0 μ Q pc (fr a :: stk) loc n M :=
  z_getv hL hs ha rfl (fun hM => hM.2 hp _ hb) d k
theorem z_put {a idx ci kf t : Nat} {v : FV} {x kz : Int} (hL : FL f.1.cls idx ci kf t false) (hs : fSH[a]? = some (.inl ci)) (ha : a < n) (hkz : (kf : Int) = kz) (hv : cv g v = fcv g.2.2.1 t x) (hr : NV v → fTR t x) (hnf : ∀ ty, fkT t ty → narrow ty (cv g v) = cv g v ∧ fits ty (cv g v) = true) (hrf : ph = true → ∀ q ∈ fRefs, ¬ (q.1 = a ∧ q.2.1 = (kf : Int))) (d : decode f.2.1 pc = .ok (.putfield idx, 3)) (k : ∀ M2, M2 = st M a kz x → Wa l g ph f n0 μ Q (pc + 3) stk loc n M2) : Wa l g ph f n0 μ Q pc (v :: fr a :: stk) loc n M := by
  subst hkz
  intro F hn hsk hl hM ls H locs L P S
  obtain ⟨C, T, N, ty, hc, hin, hk, hlink, hcls, hft, hty, hnm, hlen, hfin, hkt⟩ := hL
  have hN : kf < (fT.getD ci []).length := (List.getElem?_eq_some_iff.mp hft).1
  refine va_put F.1 F.2.1 F.2.2.2.2.1 hin ty hty hnm F.2.2.2.1 F.2.2.2.2.2.2.2.2.1 P (fws_D g n M) S a (fws_get hs ha) hc kf hk (F.2.2.2.2.1 _ hlink) (fun x h => by rw [hcls] at h; exact h) hfin (hty kf hk) (hnf _ hkt).1 (hnf _ hkt).2 (by simpa using hN) d (fun H1 locs1 hP1 hD1 hS1 => ?_)
  refine k _ rfl F hn (nvt (nvt hsk)) hl (MOk_st hM (by rw [fty_obj hs hft]; exact hr (nvh hsk)) hrf) ls H1 locs1 L ?_ hS1
  rw [← fws_set (M := M) hs ha (fun b j hb => st_cell hb)]
  rw [hv, fput_list _ hft] at hP1
  exact hP1
theorem z_puti {a idx ci kf : Nat} {x kz : Int} (hL : FL f.1.cls idx ci kf 0 false) (hs : fSH[a]? = some (.inl ci)) (ha : a < n) (hkz : (kf : Int) = kz) (hrf : ∀ q ∈ fRefs, ¬ (q.1 = a ∧ q.2.1 = (kf : Int))) (d : decode f.2.1 pc = .ok (.putfield idx, 3)) (k : ∀ M2, M2 = st M a kz x → Wa l g ph f n0 μ Q (pc + 3) stk loc n M2) : Wa l g ph f n0 μ Q pc (fi x :: fr a :: stk) loc n M :=
  z_put hL hs ha hkz rfl (fun h => h) (fun ty h => by cases (show ty = .int from h); exact ⟨rfl, rfl⟩) (fun _ => hrf) d k
theorem z_putz {a idx ci kf : Nat} {x kz : Int} (hL : FL f.1.cls idx ci kf 1 false) (hs : fSH[a]? = some (.inl ci)) (ha : a < n) (hkz : (kf : Int) = kz) (hx : x = 0 ∨ x = 1) (hrf : ∀ q ∈ fRefs, ¬ (q.1 = a ∧ q.2.1 = (kf : Int))) (d : decode f.2.1 pc = .ok (.putfield idx, 3)) (k : ∀ M2, M2 = st M a kz x → Wa l g ph f n0 μ Q (pc + 3) stk loc n M2) : Wa l g ph f n0 μ Q pc (fi x :: fr a :: stk) loc n M :=
  z_put hL hs ha hkz rfl (fun _ => hx) (fun ty h => by cases (show ty = .boolean from h); rcases hx with rfl | rfl <;> exact ⟨rfl, rfl⟩) (fun _ => hrf) d k
theorem z_putl {a idx ci kf : Nat} {x kz : Int} (hL : FL f.1.cls idx ci kf 2 false) (hs : fSH[a]? = some (.inl ci)) (ha : a < n) (hkz : (kf : Int) = kz) (hrf : ∀ q ∈ fRefs, ¬ (q.1 = a ∧ q.2.1 = (kf : Int))) (d : decode f.2.1 pc = .ok (.putfield idx, 3)) (k : ∀ M2, M2 = st M a kz x → Wa l g ph f n0 μ Q (pc + 3) stk loc n M2) : Wa l g ph f n0 μ Q pc (fl x :: fr a :: stk) loc n M :=
  z_put hL hs ha hkz rfl (fun h => h) (fun ty h => by cases (show ty = .long from h); exact ⟨rfl, rfl⟩) (fun _ => hrf) d k
theorem z_putr {a idx ci kf b : Nat} {kz : Int} (hL : FL f.1.cls idx ci kf 3 false) (hs : fSH[a]? = some (.inl ci)) (ha : a < n) (hkz : (kf : Int) = kz) (hrf : ∀ q ∈ fRefs, ¬ (q.1 = a ∧ q.2.1 = (kf : Int))) (d : decode f.2.1 pc = .ok (.putfield idx, 3)) (k : ∀ M2, M2 = st M a kz b → Wa l g ph f n0 μ Q (pc + 3) stk loc n M2) : Wa l g ph f n0 μ Q pc (fr b :: fr a :: stk) loc n M :=
  z_put hL hs ha hkz (by simp [cv, fcv]) (fun _ => trivial) (fun ty h => by rcases (show (∃ C, ty = .object C) ∨ ∃ e, ty = .array e from h) with ⟨C, rfl⟩ | ⟨e, rfl⟩ <;> exact ⟨rfl, rfl⟩) (fun _ => hrf) d k
/-- a final reference, in a constructor -/
theorem z_putF {a idx ci kf b : Nat} {kz : Int} (hL : FL f.1.cls idx ci kf 3 true) (hs : fSH[a]? = some (.inl ci)) (ha : a < n) (hkz : (kf : Int) = kz) (hini : f.1.name = "<init>") (hC : ∀ q, vwCl[ci]? = some q → q.1 = f.1.cls) (hp : ph = false) (d : decode f.2.1 pc = .ok (.putfield idx, 3)) (k : ∀ M2, M2 = st M a kz b → Wa l g ph f n0 μ Q (pc + 3) stk loc n M2) : Wa l g ph f n0 μ Q pc (fr b :: fr a :: stk) loc n M := by
  subst hkz
  intro F hn hsk hl hM ls H locs L P S
  obtain ⟨C, T, N, ty, hc, hin, hk, hlink, hcls, hft, hty, hnm, hlen, hfin, hkt⟩ := hL
  have hN : kf < (fT.getD ci []).length := (List.getElem?_eq_some_iff.mp hft).1
  have hv : (Value.ref (g.2.2.1 + b)) = fcv g.2.2.1 3 (b : Int) := by simp [fcv]
  refine va_putF F.1 F.2.1 F.2.2.2.2.1 hin ty hty hnm F.2.2.2.1 F.2.2.2.2.2.2.2.2.1 P (fws_D g n M) S a (fws_get hs ha) hc kf hk (F.2.2.2.2.1 _ hlink) (fun x h => by rw [hcls] at h; exact h) hfin (F.2.2.2.2.2.2.2.1.trans hini) (hcls.trans (hC _ hc)) (hty kf hk) (by rcases (show (∃ C, ty kf = .object C) ∨ ∃ e, ty kf = .array e from hkt) with ⟨C, e⟩ | ⟨e, e'⟩ <;> (first | rw [e] | rw [e']) <;> rfl) (by rcases (show (∃ C, ty kf = .object C) ∨ ∃ e, ty kf = .array e from hkt) with ⟨C, e⟩ | ⟨e, e'⟩ <;> (first | rw [e] | rw [e']) <;> rfl) (by simpa using hN) d (fun H1 locs1 hP1 hD1 hS1 => ?_)
  refine k _ rfl F hn (nvt (nvt hsk)) hl (MOk_st hM (by rw [fty_obj hs hft]; trivial) (fun h => by rw [hp] at h; cases h)) ls H1 locs1 L ?_ hS1
  rw [← fws_set (M := M) hs ha (fun b j hb => st_cell hb)]
  rw [show cv g (fr b) = fcv g.2.2.1 3 (b : Int) from hv, fput_list _ hft] at hP1
  exact hP1
/-! arrays -/
theorem z_iald {a len : Nat} {i : Int} (hs : fSH[a]? = some (.inr (0, len))) (ha : a < n) (h0 : 0 ≤ i) (hi : i < len) (d : decode f.2.1 pc = .ok (.iaload, 1)) (k : ∀ v, v = M a i → N32 v → Wa l g ph f n0 μ Q (pc + 1) (fi v :: stk) loc n M) : Wa l g ph f n0 μ Q pc (fi i :: fr a :: stk) loc n M := by
  intro F hn hsk hl hM ls H locs L P S
  have hx : N32 i := nvh hsk
  have hr : N32 (M a i) := by have := hM.1 a i; rw [fty_arr hs] at this; exact this
  refine va_iald F.1 F.2.1 F.2.2.2.2.2.2.2.2.1 P a 0 (fws_get hs ha) rfl (i3_in hx h0 hi) d ?_
  rw [i3_clamp hx, Int.toNat_of_nonneg h0]
  exact k _ rfl hr F hn (nvc hr (nvt (nvt hsk))) hl hM ls H locs L P S
theorem z_zald {a len : Nat} {i : Int} (hs : fSH[a]? = some (.inr (1, len))) (ha : a < n) (h0 : 0 ≤ i) (hi : i < len) (d : decode f.2.1 pc = .ok (.baload, 1)) (k : ∀ v, v = M a i → v = 0 ∨ v = 1 → Wa l g ph f n0 μ Q (pc + 1) (fi v :: stk) loc n M) : Wa l g ph f n0 μ Q pc (fi i :: fr a :: stk) loc n M := by
  intro F hn hsk hl hM ls H locs L P S
  have hx : N32 i := nvh hsk
  have hr : M a i = 0 ∨ M a i = 1 := by have := hM.1 a i; rw [fty_arr hs] at this; exact this
  refine va_zald F.1 F.2.1 F.2.2.2.2.2.2.2.2.1 P a 1 (fws_get hs ha) rfl (i3_in hx h0 hi) d ?_
  rw [i3_clamp hx, Int.toNat_of_nonneg h0]
  exact k _ rfl hr F hn (nvc (n32_01 hr) (nvt (nvt hsk))) hl hM ls H locs L P S
theorem z_lald {a len : Nat} {i : Int} (hs : fSH[a]? = some (.inr (2, len))) (ha : a < n) (h0 : 0 ≤ i) (hi : i < len) (d : decode f.2.1 pc = .ok (.laload, 1)) (k : ∀ v, v = M a i → N64 v → Wa l g ph f n0 μ Q (pc + 1) (fl v :: stk) loc n M) : Wa l g ph f n0 μ Q pc (fi i :: fr a :: stk) loc n M := by
  intro F hn hsk hl hM ls H locs L P S
  have hx : N32 i := nvh hsk
  have hr : N64 (M a i) := by have := hM.1 a i; rw [fty_arr hs] at this; exact this
  refine va_lald F.1 F.2.1 F.2.2.2.2.2.2.2.2.1 P a 2 (fws_get hs ha) rfl (i3_in hx h0 hi) d ?_
  rw [i3_clamp hx, Int.toNat_of_nonneg h0]
  exact k _ rfl hr F hn (nvc hr (nvt (nvt hsk))) hl hM ls H locs L P S
theorem fRefs_arr {a t len : Nat} {i : Int} (hs : fSH[a]? = some (.inr (t, len))) : ∀ q ∈ fRefs, ¬ (q.1 = a ∧ q.2.1 = i) := by
  intro q hq e
  have h : ∀ q ∈ fRefs, ∃ ci, fSH[q.1]? = some (Sum.inl ci) := by
    have h : (fRefs.all (fun q => match fSH[q.1]? with | some (.inl _) => true | _ => false)) = true := by decide +kernel
    intro q hq
    have := List.all_eq_true.mp h q hq
    split at this
    · rename_i ci e; exact ⟨ci, e⟩
    · cases this
  obtain ⟨ci, hc⟩ := h q hq
  rw [e.1, hs] at hc
  cases hc
theorem fupd {M : FMem} {a : Nat} {i x : Int} (h0 : 0 ≤ i) : upd (fun j => Int32.ofInt (M a j)) i.toNat (Int32.ofInt x) = fun j : Nat => Int32.ofInt (st M a i x a j) := by
  funext j
  unfold upd st
  by_cases hj : j = i.toNat
  · rw [if_pos hj, if_pos ⟨rfl, by omega⟩]
  · rw [if_neg hj, if_neg (fun e => hj (by omega))]
theorem fupdL {M : FMem} {a : Nat} {i x : Int} (h0 : 0 ≤ i) : vp_updL (fun j => Int64.ofInt (M a j)) i.toNat (Int64.ofInt x) = fun j : Nat => Int64.ofInt (st M a i x a j) := by
  funext j
  unfold vp_updL st
  by_cases hj : j = i.toNat
  · rw [if_pos hj, if_pos ⟨rfl, by omega⟩]
  · rw [if_neg hj, if_neg (fun e => hj (by omega))]
theorem z_iast {a len : Nat} {i x : Int} (hs : fSH[a]? = some (.inr (0, len))) (ha : a < n) (h0 : 0 ≤ i) (hi : i < len) (d : decode f.2.1 pc = .ok (.iastore, 1)) (k : ∀ M2, M2 = st M a i x → Wa l g ph f n0 μ Q (pc + 1) stk loc n M2) : Wa l g ph f n0 μ Q pc (fi x :: fi i :: fr a :: stk) loc n M := by
  intro F hn hsk hl hM ls H locs L P S
  have hx : N32 i := nvh (nvt hsk)
  refine va_iast F.1 F.2.1 F.2.2.2.2.2.2.2.2.1 P (fws_D g n M) S a 0 (fws_get hs ha) rfl (i3_in hx h0 hi) d (fun H1 locs1 hP1 hD1 hS1 => ?_)
  refine k _ rfl F hn (nvt (nvt (nvt hsk))) hl (MOk_st hM (by rw [fty_arr hs]; exact nvh hsk) (fun _ => fRefs_arr hs)) ls H1 locs1 L ?_ hS1
  rw [← fws_set (M := M) hs ha (fun b j hb => st_cell hb)]
  rw [i3_clamp hx, fupd h0] at hP1
  exact hP1
theorem z_zast {a len : Nat} {i x : Int} (hs : fSH[a]? = some (.inr (1, len))) (ha : a < n) (h0 : 0 ≤ i) (hi : i < len) (h01 : x = 0 ∨ x = 1) (d : decode f.2.1 pc = .ok (.bastore, 1)) (k : ∀ M2, M2 = st M a i x → Wa l g ph f n0 μ Q (pc + 1) stk loc n M2) : Wa l g ph f n0 μ Q pc (fi x :: fi i :: fr a :: stk) loc n M := by
  intro F hn hsk hl hM ls H locs L P S
  have hx : N32 i := nvh (nvt hsk)
  refine va_zast F.1 F.2.1 F.2.2.2.2.2.2.2.2.1 P (fws_D g n M) S a 1 (fws_get hs ha) rfl (i3_in hx h0 hi) d (fun H1 locs1 hP1 hD1 hS1 => ?_)
  refine k _ rfl F hn (nvt (nvt (nvt hsk))) hl (MOk_st hM (by rw [fty_arr hs]; exact h01) (fun _ => fRefs_arr hs)) ls H1 locs1 L ?_ hS1
  rw [← fws_set (M := M) hs ha (fun b j hb => st_cell hb)]
  rw [i3_clamp hx, show vp_nar .boolean (Int32.ofInt x) = Int32.ofInt x by rcases h01 with rfl | rfl <;> rfl, fupd h0] at hP1
  exact hP1
theorem z_last {a len : Nat} {i x : Int} (hs : fSH[a]? = some (.inr (2, len))) (ha : a < n) (h0 : 0 ≤ i) (hi : i < len) (d : decode f.2.1 pc = .ok (.lastore, 1)) (k : ∀ M2, M2 = st M a i x → Wa l g ph f n0 μ Q (pc + 1) stk loc n M2) : Wa l g ph f n0 μ Q pc (fl x :: fi i :: fr a :: stk) loc n M := by
  intro F hn hsk hl hM ls H locs L P S
  have hx : N32 i := nvh (nvt hsk)
  refine va_last F.1 F.2.1 F.2.2.2.2.2.2.2.2.1 P (fws_D g n M) S a 2 (fws_get hs ha) rfl (i3_in hx h0 hi) d (fun H1 locs1 hP1 hD1 hS1 => ?_)
  refine k _ rfl F hn (nvt (nvt (nvt hsk))) hl (MOk_st hM (by rw [fty_arr hs]; exact nvh hsk) (fun _ => fRefs_arr hs)) ls H1 locs1 L ?_ hS1
  rw [← fws_set (M := M) hs ha (fun b j hb => st_cell hb)]
  rw [i3_clamp hx, fupdL h0] at hP1
  exact hP1
theorem z_alen {a len : Nat} {lz : Int} (hs : fSH[a]? = some (.inr (0, len))) (ha : a < n) (hlz : (len : Int) = lz) (h32 : N32 lz) (d : decode f.2.1 pc = .ok (.arraylength, 1)) (k : Wa l g ph f n0 μ Q (pc + 1) (fi lz :: stk) loc n M) : Wa l g ph f n0 μ Q pc (fr a :: stk) loc n M := by
  subst hlz
  intro F hn hsk hl hM ls H locs L P S
  exact va_alen F.1 F.2.1 F.2.2.2.2.2.2.2.2.1 P a 0 (fws_get hs ha) rfl (v := Int32.ofInt len) Int32.ofInt_eq_ofNat.symm d (k F hn (nvc h32 (nvt hsk)) hl hM ls H locs L P S)
/-! what stands outside -/
theorem z_slen (h32 : N32 g.2.2.2.2.1) (d : decode f.2.1 pc = .ok (.arraylength, 1)) (k : Wa l g ph f n0 μ Q (pc + 1) (fi g.2.2.2.2.1 :: stk) loc n M) : Wa l g ph f n0 μ Q pc (fe 0 :: stk) loc n M := by
  intro F hn hsk hl hM ls H locs L P S
  have E := F.2.2.2.2.2.2.2.2.2.1
  refine va_slen (A := fA g) F.1 F.2.1 E.1 (by have := F.2.2.2.2.2.2.2.2.2.2; have := E.2.1; omega) (by have := E.2.1; unfold fA; omega) S d ?_
  rw [← Int32.ofInt_eq_ofNat]
  exact k F hn (nvc h32 (nvt hsk)) hl hM ls H locs L P S
theorem z_sld {i : Int} (h0 : 0 ≤ i) (hi : i < g.2.2.2.2.1) (d : decode f.2.1 pc = .ok (.iaload, 1)) (k : ∀ v, v = (g.2.2.2.2.2 i.toNat).toInt → N32 v → Wa l g ph f n0 μ Q (pc + 1) (fi v :: stk) loc n M) : Wa l g ph f n0 μ Q pc (fi i :: fe 0 :: stk) loc n M := by
  intro F hn hsk hl hM ls H locs L P S
  have hx : N32 i := nvh hsk
  have E := F.2.2.2.2.2.2.2.2.2.1
  refine va_sld (A := fA g) F.1 F.2.1 E.1 (by have := F.2.2.2.2.2.2.2.2.2.2; have := E.2.1; omega) (by have := E.2.1; unfold fA; omega) S (i3_in hx h0 hi) d ?_
  rw [i3_clamp hx]
  have k := k _ rfl (i3_n _) F hn (nvc (i3_n _) (nvt (nvt hsk))) hl hM ls H locs L P S
  simpa only [List.map_cons, cv, Int32.ofInt_toInt] using k
theorem z_tlen (d : decode f.2.1 pc = .ok (.arraylength, 1)) (k : Wa l g ph f n0 μ Q (pc + 1) (fi 50 :: stk) loc n M) : Wa l g ph f n0 μ Q pc (fe 1 :: stk) loc n M := by
  intro F hn hsk hl hM ls H locs L P S
  exact va_tlen F.1 F.2.1 F.2.2.2.2.2.2.2.2.2.1.2.2.1 S rfl d (k F hn (nvc (by show N32 50; unfold N32; omega) (nvt hsk)) hl hM ls H locs L P S)
theorem fTab_n (i : Nat) : N32 (fTab.getD i 0) := by
  have h : fTab.all (fun x => decide (-2147483648 ≤ x) && decide (x ≤ 2147483647)) = true := by decide +kernel
  unfold N32
  rw [List.getD_eq_getElem?_getD]
  cases hx : fTab[i]? with
  | none => simp
  | some x =>
    have := List.all_eq_true.mp h x (List.mem_of_getElem? hx)
    simpa using this
theorem z_tld {i : Int} (h0 : 0 ≤ i) (hi : i < 50) (d : decode f.2.1 pc = .ok (.iaload, 1)) (k : ∀ v, v = fTab.getD i.toNat 0 → N32 v → Wa l g ph f n0 μ Q (pc + 1) (fi v :: stk) loc n M) : Wa l g ph f n0 μ Q pc (fi i :: fe 1 :: stk) loc n M := by
  intro F hn hsk hl hM ls H locs L P S
  have hx : N32 i := nvh hsk
  refine va_ti F.1 F.2.1 F.2.2.2.2.2.2.2.2.2.1.2.2.1 S (i3_in hx h0 (by simpa using hi)) (v := .int (Int32.ofInt (fTab.getD i.toNat 0))) (by rw [i3_clamp hx]) d ?_
  exact k _ rfl (fTab_n _) F hn (nvc (fTab_n _) (nvt (nvt hsk))) hl hM ls H locs L P S
theorem z_gets {idx : Nat} (hl0 : Cond.fieldLink f.1.cls idx "FarCandles$Wide" "TABLE" "[I" ∈ TBL) (d : decode f.2.1 pc = .ok (.getstatic idx, 3)) (k : Wa l g ph f n0 μ Q (pc + 3) (fe 1 :: stk) loc n M) : Wa l g ph f n0 μ Q pc stk loc n M := by
  intro F hn hsk hl hM ls H locs L P S
  exact va_gets F.1 F.2.1 F.2.2.2.2.2.2.2.2.2.1.2.2.2.1 S F.2.2.2.1 (F.2.2.2.2.1 _ hl0) (fun x h => h) d (k F hn (nvc trivial hsk) hl hM ls H locs L P S)
theorem z_ldcs {idx j : Nat} (hcls : f.1.cls = "FarCandles$Reader") (hj : (idx, j) ∈ fPool) (d : decode f.2.1 pc = .ok (.ldc idx, 2)) (k : Wa l g ph f n0 μ Q (pc + 2) (fe (2 + j) :: stk) loc n M) : Wa l g ph f n0 μ Q pc stk loc n M := by
  intro F hn hsk hl hM ls H locs L P S
  have hZ := F.2.2.2.2.2.2.2.2.2.1.2.2.2.2.2.2 _ hj
  have hown := F.2.2.2.1
  rw [hcls] at hown
  exact va_ldcS F.1 F.2.1 hown hZ d (k F hn (nvc trivial hsk) hl hM ls H locs L P S)
end ZM
