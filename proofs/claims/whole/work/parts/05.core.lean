/-! ===== the abstract machine: values and memory as Ints; one relation to the machine, rules an instruction ===== -/
abbrev FMem : Type := Nat → Int → Int
/-- an int, a long, a cell of the system by its number, a cell from outside by its number, unknown -/
abbrev FV : Type := Int ⊕ Int ⊕ Nat ⊕ Nat ⊕ Unit
abbrev fi (x : Int) : FV := .inl x
abbrev fl (x : Int) : FV := .inr (.inl x)
abbrev fr (a : Nat) : FV := .inr (.inr (.inl a))
abbrev fe (a : Nat) : FV := .inr (.inr (.inr (.inl a)))
abbrev fu : FV := .inr (.inr (.inr (.inr ())))
/-- classes and slots; array classes; the first cell's address; outside cells' addresses; the script's length and ints -/
abbrev Cx : Type := va_G × (Nat → ClassId) × Nat × (Nat → Nat) × Nat × (Nat → Int32)
def fcv (B : Nat) (t : Nat) (x : Int) : Value := match t with
  | 2 => .long (Int64.ofInt x)
  | 3 => if x < 0 then .null else .ref (B + x.toNat)
  | _ => .int (Int32.ofInt x)
def fcell (g : Cx) (M : FMem) (id : Nat) (s : FSh) : va_E := match s with
  | .inl ci => .inr (ci, (fT.getD ci []).mapIdx (fun k t => fcv g.2.2.1 t (M id k)))
  | .inr (2, n) => .inl (g.2.1 2, n, .inr (.inl fun j => Int64.ofInt (M id j)))
  | .inr (t, n) => .inl (g.2.1 t, n, .inl fun j => Int32.ofInt (M id j))
def fws (g : Cx) (n : Nat) (M : FMem) : va_W := (fSH.take n).mapIdx (fun id s => (g.2.2.1 + id, fcell g M id s))
def fslots (s : FSh) : Nat := match s with
  | .inl ci => (fT.getD ci []).length
  | .inr (_, n) => n
def fss (n : Nat) : Nat := ((fSH.take n).map fslots).sum
def cv (g : Cx) (v : FV) : Value := match v with
  | .inl x => .int (Int32.ofInt x)
  | .inr (.inl x) => .long (Int64.ofInt x)
  | .inr (.inr (.inl a)) => .ref (g.2.2.1 + a)
  | .inr (.inr (.inr (.inl k))) => .ref (g.2.2.2.1 k)
  | .inr (.inr (.inr (.inr _))) => .null
def kn (v : FV) : Bool := match v with
  | .inr (.inr (.inr (.inr _))) => false
  | _ => true
def is2 (v : FV) : Bool := match v with
  | .inr (.inl _) => true
  | _ => false
def NV (v : FV) : Prop := match v with
  | .inl x => N32 x
  | .inr (.inl x) => N64 x
  | _ => True
def fty (id : Nat) (k : Int) : Nat := match fSH[id]? with
  | some (.inl ci) => if k < 0 then 9 else (fT.getD ci []).getD k.toNat 9
  | some (.inr (t, _)) => t
  | none => 9
def fTR (t : Nat) (x : Int) : Prop := match t with
  | 0 => N32 x
  | 1 => x = 0 ∨ x = 1
  | 2 => N64 x
  | _ => True
/-- every cell holds numbers of its type; and, once all is made, the final references are what they are -/
def MOk (ph : Bool) (M : FMem) : Prop := (∀ id k, fTR (fty id k) (M id k)) ∧ (ph = true → ∀ q ∈ fRefs, M q.1 q.2.1 = q.2.2)
/-- a store -/
def st (M : FMem) (a : Nat) (i v : Int) : FMem := fun b j => if b = a ∧ j = i then v else M b j
/-- a new cell -/
def fnew (M : FMem) (a : Nat) : FMem := fun b j => if b = a then (if fty a j = 3 then -1 else 0) else M b j
def fgood (w : Cond) : Bool := match w with
  | .methodLinkNest .. => true
  | w => goodWord w
def TBL : List Cond := lw_tbl.filter fgood
theorem tbl_mem {w : Cond} (i : Nat) (h : lw_tbl[i]? = some w) (hg : fgood w = true) : w ∈ TBL := List.mem_filter.mpr ⟨List.mem_of_getElem? h, hg⟩
theorem tbl_warm {args : Array Value} {s : State} (h : ∀ w ∈ TBL, w.before args s = true) : ∀ w ∈ TBL, ∀ (a' : Array Value) (U : State), s.WarmedH U.vm → w.before a' U = true := by
  intro w hw a' U hW
  have hb := h w hw
  have hg : fgood w = true := (List.mem_filter.mp hw).2
  by_cases hn : ∃ a i x o, w = .methodLinkNest a i x o
  · obtain ⟨a, i, x, o, rfl⟩ := hn
    exact va_Nw.use rfl (va_Nw.warmM hW (va_Nw.of rfl hb))
  · have hg' : goodWord w = true := by
      unfold fgood at hg
      split at hg
      · exact absurd ⟨_, _, _, _, rfl⟩ hn
      · exact hg
    exact word_at hW (good_of_word hg') hb
/-- a method: name, bytes, locals, answer, room -/
abbrev FI : Type := MethodName × ByteArray × Nat × Option FieldType × Room
abbrev Mc : Type := Program × Env × State × MethodId × Array Value × List Frame × Method × Code
def fA (g : Cx) : Nat → Prop := fun q => g.2.2.1 ≤ q
def ftys (g : Cx) : List (ClassId × FieldType) := [(g.2.1 0, .int), (g.2.1 1, .boolean), (g.2.1 2, .long)]
/-- the strings that the reader knows -/
def fStr : List String := ["claim", "sort", "dust", "blur", "own", "time", "to", "colour", "by", "above", "below"]
def fLen : List Nat := fStr.map (·.length)
def fByt : List (List Int32) := fStr.map (fun s => s.toList.map (fun c => Int32.ofNat c.toNat))
def fTab : List Int := [1000, 1047, 1096, 1148, 1202, 1258, 1318, 1380, 1445, 1513, 1584, 1659, 1737, 1819, 1905, 1995, 2089, 2187, 2290, 2398, 2511, 2630, 2754, 2884, 3019, 3162, 3311, 3467, 3630, 3801, 3981, 4168, 4365, 4570, 4786, 5011, 5248, 5495, 5754, 6025, 6309, 6606, 6918, 7244, 7585, 7943, 8317, 8709, 9120, 9549]
/-- where the reader's constants stand in its pool -/
def fPool : List (Nat × Nat) := [(50, 0), (56, 1), (58, 2), (60, 3), (62, 4), (95, 5), (100, 6), (106, 7), (125, 8), (131, 9), (133, 10)]
/-- what stands outside the system: the script (0), the table (1), the strings (2 ..), their bytes (20 ..), the formatter (40) -/
def fExt (g : Cx) (U : State) : Prop :=
  va_X (g.2.2.2.1 0) g.2.2.2.2.1 g.2.2.2.2.2 U U.heap ∧ g.2.2.2.1 0 < g.2.2.1 ∧
  va_T .int (g.2.2.2.1 1) 50 (fun j => .int (Int32.ofInt (fTab.getD j 0))) (fA g) U U.heap ∧
  va_Z "FarCandles$Wide" "TABLE" "[I" (.ref (g.2.2.2.1 1)) (fA g) U U.heap ∧
  (va_Z "java/lang/String" "COMPACT_STRINGS" "Z" (.int 1) (fA g) U U.heap ∧ (va_Z "jdk/internal/util/Preconditions" "SIOOBE_FORMATTER" "Ljava/util/function/BiFunction;" .null (fA g) U U.heap ∨ va_Z "jdk/internal/util/Preconditions" "SIOOBE_FORMATTER" "Ljava/util/function/BiFunction;" (.ref (g.2.2.2.1 40)) (fA g) U U.heap)) ∧
  vk_S 11 fLen fByt (fun i => g.2.2.2.1 (2 + i)) (fun i => g.2.2.2.1 (20 + i)) (fA g) U U.heap ∧
  ∀ q ∈ fPool, vk_R "FarCandles$Reader" q.1 (fStr.getD q.2 "") (g.2.2.2.1 (2 + q.2)) U
theorem fExt_moved {g : Cx} {u U : State} (hh : U.heap = u.heap) (hW : u.WarmedH U.vm) (h : fExt g u) : fExt g U := by
  obtain ⟨h1, h2, h3, h4, h5, h6, h7⟩ := h
  unfold fExt
  rw [hh]
  exact ⟨h1.moved hW.alike, h2, h3.moved hW.alike, h4.moved hW.alike, ⟨h5.1.moved hW.alike, h5.2.imp (fun z => z.moved hW.alike) (fun z => z.moved hW.alike)⟩, h6.moved hW.alike, fun q hq => (h7 q hq).warm hW⟩
theorem fExt_kept {g : Cx} {s U : State} (hk : ∀ a : Nat, a < s.heap.size → ¬ fA g a → U.heap[a]? = s.heap[a]?) (hb : g.2.2.1 ≤ s.heap.size) (hW : s.WarmedH U.vm) (h : fExt g s) : fExt g U := by
  obtain ⟨h1, h2, h3, h4, h5, h6, h7⟩ := h
  refine ⟨(h1.moved hW.alike).kept (hk _ (by omega) (by unfold fA; omega)), h2, (h3.moved hW.alike).kept hk, (h4.moved hW.alike).kept hk, ⟨(h5.1.moved hW.alike).kept hk, h5.2.imp (fun z => (z.moved hW.alike).kept hk) (fun z => (z.moved hW.alike).kept hk)⟩, (h6.moved hW.alike).kept hk, fun q hq => (h7 q hq).warm hW⟩
theorem fws_get {g : Cx} {n id : Nat} {M : FMem} {s : FSh} (hs : fSH[id]? = some s) (hn : id < n) : (fws g n M)[id]? = some (g.2.2.1 + id, fcell g M id s) := by
  simp [fws, List.getElem?_take, hn, hs]
theorem fws_some {g : Cx} {n k : Nat} {M : FMem} {q : Nat × va_E} (h : (fws g n M)[k]? = some q) : k < n ∧ ∃ s, fSH[k]? = some s ∧ q = (g.2.2.1 + k, fcell g M k s) := by
  simp only [fws, List.getElem?_mapIdx, List.getElem?_take] at h
  by_cases hk : k < n
  · rw [if_pos hk] at h
    cases hs : fSH[k]? with
    | none => rw [hs] at h; cases h
    | some s => rw [hs] at h; exact ⟨hk, s, rfl, (Option.some.inj h).symm⟩
  · rw [if_neg hk] at h; cases h
theorem fws_D (g : Cx) (n : Nat) (M : FMem) : va_D (fA g) (fws g n M) := by
  refine ⟨fun i j p q hi hj e => ?_, fun k q hk => ?_⟩
  · obtain ⟨-, s, -, rfl⟩ := fws_some hi
    obtain ⟨-, s', -, rfl⟩ := fws_some hj
    simp only at e
    omega
  · obtain ⟨-, s, -, rfl⟩ := fws_some hk
    show g.2.2.1 ≤ _
    simp
theorem fws_len {g : Cx} {n : Nat} {M : FMem} : (fws g n M).length = min n fSH.length := by simp [fws]
theorem fcell_congr {g : Cx} {M M' : FMem} {id : Nat} (h : ∀ j, M' id j = M id j) (s : FSh) : fcell g M' id s = fcell g M id s := by
  unfold fcell
  split <;> simp only [h]
theorem fws_set {g : Cx} {n id : Nat} {M M' : FMem} {s : FSh} (hs : fSH[id]? = some s) (hn : id < n) (h : ∀ b j, b ≠ id → M' b j = M b j) : (fws g n M).set id (g.2.2.1 + id, fcell g M' id s) = fws g n M' := by
  apply List.ext_getElem?
  intro k
  by_cases hk : k = id
  · subst hk
    have hlt : k < (fws g n M).length := by
      rw [fws_len]; have := (List.getElem?_eq_some_iff.mp hs).1; omega
    rw [List.getElem?_set_self hlt, fws_get hs hn]
  · rw [List.getElem?_set_ne (fun e => hk e.symm)]
    cases h1 : (fws g n M)[k]? with
    | none =>
      cases h2 : (fws g n M')[k]? with
      | none => rfl
      | some q =>
        obtain ⟨a, s', b, -⟩ := fws_some h2
        rw [fws_get b a] at h1; cases h1
    | some q =>
      obtain ⟨a, s', b, rfl⟩ := fws_some h1
      rw [fws_get b a, fcell_congr (fun j => h k j hk)]
theorem fws_succ {g : Cx} {n : Nat} {M M' : FMem} {s : FSh} (hs : fSH[n]? = some s) (h : ∀ b j, b < n → M' b j = M b j) : fws g n M ++ [(g.2.2.1 + n, fcell g M' n s)] = fws g (n + 1) M' := by
  have hl : n < fSH.length := (List.getElem?_eq_some_iff.mp hs).1
  have hlen : (fws g n M).length = n := by rw [fws_len]; omega
  apply List.ext_getElem?
  intro k
  by_cases hk : k < n
  · rw [List.getElem?_append_left (by omega)]
    obtain ⟨s', hs'⟩ : ∃ s', fSH[k]? = some s' := ⟨_, List.getElem?_eq_getElem (by omega)⟩
    rw [fws_get hs' hk, fws_get hs' (by omega), fcell_congr (fun j => h k j hk)]
  · by_cases he : k = n
    · subst he
      rw [List.getElem?_append_right (by omega), hlen, Nat.sub_self, fws_get hs (by omega)]; rfl
    · rw [List.getElem?_eq_none (by simp; omega)]
      rw [List.getElem?_eq_none (by rw [fws_len]; omega)]
theorem st_same (M : FMem) (a : Nat) (i v : Int) : st M a i v a i = v := by simp [st]
theorem st_cell {M : FMem} {a b : Nat} {i v j : Int} (h : b ≠ a) : st M a i v b j = M b j := by simp [st, h]
theorem st_at (M : FMem) (a : Nat) (i v j : Int) : st M a i v a j = if j = i then v else M a j := by simp [st]
theorem MOk_st {ph : Bool} {M : FMem} {a : Nat} {i v : Int} (h : MOk ph M) (hv : fTR (fty a i) v) (hf : ph = true → ∀ q ∈ fRefs, ¬ (q.1 = a ∧ q.2.1 = i)) : MOk ph (st M a i v) := by
  refine ⟨fun id k => ?_, fun hp q hq => ?_⟩
  · unfold st
    by_cases e : id = a ∧ k = i
    · rw [if_pos e, e.1, e.2]; exact hv
    · rw [if_neg e]; exact h.1 id k
  · unfold st
    rw [if_neg (hf hp q hq)]
    exact h.2 hp q hq
/-! locals by their places -/
def LH (g : Cx) (ls : Array Slot) (nL : Nat) (loc : List FV) : Prop := ls.size = nL ∧ lv_wf ls ∧ ∀ (j : Nat) (v : FV), loc[j]? = some v → kn v = true → ls[j]? = some (.val (cv g v))
def fcL (g : Cx) (loc : List FV) : List (Nat × Value) := ((List.range loc.length).filter (fun j => kn (loc.getD j fu))).map (fun j => (j, cv g (loc.getD j fu)))
theorem fcL_mem {g : Cx} {loc : List FV} {q : Nat × Value} : q ∈ fcL g loc ↔ ∃ v, loc[q.1]? = some v ∧ kn v = true ∧ q.2 = cv g v := by
  simp only [fcL, List.mem_map, List.mem_filter, List.mem_range]
  constructor
  · rintro ⟨j, ⟨hj, hk⟩, rfl⟩
    refine ⟨loc.getD j fu, ?_, hk, rfl⟩
    simp [List.getD, List.getElem?_eq_getElem hj]
  · rintro ⟨v, hv, hk, he⟩
    obtain ⟨hlt, hv'⟩ := List.getElem?_eq_some_iff.mp hv
    have hd : loc.getD q.1 fu = v := by simp [List.getD, hv]
    exact ⟨q.1, ⟨hlt, by rw [hd]; exact hk⟩, by rw [hd, ← he]⟩
theorem LH.has {g : Cx} {ls : Array Slot} {nL : Nat} {loc : List FV} (h : LH g ls nL loc) : lv_has ls nL (fcL g loc) :=
  ⟨h.1, h.2.1, fun q hq => by obtain ⟨v, h1, h2, h3⟩ := fcL_mem.mp hq; rw [h3]; exact h.2.2 _ v h1 h2⟩
/-- storing one slot: a long that it cuts is gone -/
def st1 (loc : List FV) (i : Nat) (v : FV) : List FV := match i with
  | 0 => loc.set 0 v
  | j + 1 => if is2 (loc.getD j fu) then (loc.set j fu).set (j + 1) v else loc.set (j + 1) v
def st2 (loc : List FV) (i : Nat) (v : FV) : List FV := (st1 loc i v).set (i + 1) fu
theorem is2_cat {g : Cx} {v : FV} (h : (cv g v).category = 2) : is2 v = true := by
  match v, h with
  | .inl x, h => simp [cv, Value.category] at h
  | .inr (.inl x), _ => rfl
  | .inr (.inr (.inl a)), h => simp [cv, Value.category] at h
  | .inr (.inr (.inr (.inl a))), h => simp [cv, Value.category] at h
  | .inr (.inr (.inr (.inr a))), h => simp [cv, Value.category] at h
theorem st1_get {loc : List FV} {i j : Nat} {v w : FV} (h : (st1 loc i v)[j]? = some w) : (j = i ∧ w = v) ∨ (j ≠ i ∧ ((loc[j]? = some w ∧ ¬ (j + 1 = i ∧ is2 w = true)) ∨ w = fu)) := by
  by_cases hj : j = i
  · subst hj
    left
    refine ⟨rfl, ?_⟩
    unfold st1 at h
    cases j with
    | zero => simp [List.getElem?_set] at h; exact h.2.symm
    | succ k => simp only at h; split at h <;> (simp [List.getElem?_set] at h; exact h.2.symm)
  · right
    refine ⟨hj, ?_⟩
    unfold st1 at h
    cases i with
    | zero => rw [List.getElem?_set_ne (by omega)] at h; exact Or.inl ⟨h, by omega⟩
    | succ k =>
      simp only at h
      split at h
      · rw [List.getElem?_set_ne (by omega)] at h
        by_cases e : k = j
        · subst e; simp [List.getElem?_set] at h; exact Or.inr h.2.symm
        · rw [List.getElem?_set_ne e] at h; exact Or.inl ⟨h, by omega⟩
      · rename_i hn
        rw [List.getElem?_set_ne (by omega)] at h
        refine Or.inl ⟨h, fun q => hn ?_⟩
        have : j = k := by omega
        subst this
        simp [List.getD, h, q.2]
theorem LH.of1 {g : Cx} {ls : Array Slot} {nL : Nat} {loc : List FV} {i : Nat} {v : FV} (h : lv_has ls nL ((i, cv g v) :: (fcL g loc).filter (fun q => !(q.1 == i) && !(q.1 + 1 == i && q.2.category == 2)))) : LH g ls nL (st1 loc i v) := by
  refine ⟨h.1, h.2.1, fun j w hj hk => ?_⟩
  rcases st1_get hj with ⟨rfl, rfl⟩ | ⟨hne, ⟨h1, h2⟩ | rfl⟩
  · exact h.2.2 (j, cv g w) List.mem_cons_self
  · refine h.2.2 (j, cv g w) (List.mem_cons_of_mem _ (List.mem_filter.mpr ⟨fcL_mem.mpr ⟨w, h1, hk, rfl⟩, ?_⟩))
    simp only [Bool.and_eq_true, Bool.not_eq_true', beq_eq_false_iff_ne, ne_eq, Bool.and_eq_false_iff]
    refine ⟨hne, ?_⟩
    by_cases e : j + 1 = i
    · exact Or.inr (fun q => h2 ⟨e, is2_cat q⟩)
    · exact Or.inl e
  · cases hk
theorem LH.of2 {g : Cx} {ls : Array Slot} {nL : Nat} {loc : List FV} {i : Nat} {v : FV} (h : lv_has ls nL ((i, cv g v) :: (fcL g loc).filter (fun q => !(q.1 == i) && (!(q.1 == i + 1) && !(q.1 + 1 == i && q.2.category == 2))))) : LH g ls nL (st2 loc i v) := by
  refine ⟨h.1, h.2.1, fun j w hj hk => ?_⟩
  unfold st2 at hj
  by_cases e1 : i + 1 = j
  · subst e1
    simp [List.getElem?_set] at hj
    rw [← hj.2] at hk; cases hk
  rw [List.getElem?_set_ne e1] at hj
  rcases st1_get hj with ⟨rfl, rfl⟩ | ⟨hne, ⟨h1, h2⟩ | rfl⟩
  · exact h.2.2 (j, cv g w) List.mem_cons_self
  · refine h.2.2 (j, cv g w) (List.mem_cons_of_mem _ (List.mem_filter.mpr ⟨fcL_mem.mpr ⟨w, h1, hk, rfl⟩, ?_⟩))
    simp only [Bool.and_eq_true, Bool.not_eq_true', beq_eq_false_iff_ne, ne_eq, Bool.and_eq_false_iff]
    refine ⟨hne, fun q => e1 q.symm, ?_⟩
    by_cases e : j + 1 = i
    · exact Or.inr (fun q => h2 ⟨e, is2_cat q⟩)
    · exact Or.inl e
  · cases hk
theorem st1_nv {loc : List FV} {i : Nat} {v : FV} (h : ∀ w ∈ loc, NV w) (hv : NV v) : ∀ w ∈ st1 loc i v, NV w := by
  intro w hw
  obtain ⟨j, hj⟩ := List.getElem?_of_mem hw
  rcases st1_get hj with ⟨_, rfl⟩ | ⟨_, ⟨h1, _⟩ | rfl⟩
  · exact hv
  · exact h w (List.mem_of_getElem? h1)
  · trivial
theorem st2_nv {loc : List FV} {i : Nat} {v : FV} (h : ∀ w ∈ loc, NV w) (hv : NV v) : ∀ w ∈ st2 loc i v, NV w := by
  intro w hw
  unfold st2 at hw
  rcases List.mem_or_eq_of_mem_set hw with h1 | rfl
  · exact st1_nv h hv w h1
  · trivial
/-- fewer known locals -/
def lle (a b : List FV) : Bool := match a, b with
  | [], _ => true
  | _ :: _, [] => false
  | x :: xs, y :: ys => (!kn x || decide (x = y)) && lle xs ys
/-- what is fixed while a method runs -/
def fFx (l : Launch) (g : Cx) (f : FI) (n0 : Nat) (μ : Mc) : Prop :=
  μ.1.tables.exec = Jvm.exec ∧ μ.2.2.2.2.2.2.2.code = f.2.1 ∧ μ.2.2.2.2.2.2.2.maxLocals = f.2.2.1 ∧ μ.2.2.1.vm.findClass f.1.cls = some μ.2.2.2.1.cls ∧ (∀ w ∈ TBL, w.before μ.2.2.2.2.1 μ.2.2.1 = true) ∧
  μ.2.2.2.2.2.2.1.sig.returnType = f.2.2.2.1 ∧ μ.2.2.2.2.2.2.1.locks = false ∧ μ.2.2.2.2.2.2.1.name = f.1.name ∧ va_K g.1 vwCl (ftys g) μ.2.2.1 ∧ fExt g μ.2.2.1 ∧ μ.2.2.1.heap.size = g.2.2.1 + n0
/-- the machine at pc with stack, locals, cells made, memory: it comes to Q -/
def Wa (l : Launch) (g : Cx) (ph : Bool) (f : FI) (n0 : Nat) (μ : Mc) (Q : State → Prop) (pc : Nat) (stk : List FV) (loc : List FV) (n : Nat) (M : FMem) : Prop :=
  fFx l g f n0 μ → n0 ≤ n → (∀ v ∈ stk, NV v) → (∀ v ∈ loc, NV v) → MOk ph M → ∀ (ls : Array Slot) (H : Heap) (locs : List Loc), LH g ls f.2.2.1 loc → va_P g.1 vwCl (fws g n M) H → va_S (fA g) μ.2.2.1.heap H locs →
    W μ.1 l μ.2.1 f.2.2.2.2 μ.2.2.1 μ.2.2.2.1 μ.2.2.2.2.1 μ.2.2.2.2.2.1 μ.2.2.2.2.2.2.1 μ.2.2.2.2.2.2.2 H locs (n - n0) (fss n - fss n0) Q (F0 μ.2.2.2.1 pc ls (stk.map (cv g)))
