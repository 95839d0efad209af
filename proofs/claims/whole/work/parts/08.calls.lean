/-! ===== contracts and calls ===== -/
/-- the world: the cells, the tables, what stands outside -/
def fWd (g : Cx) (n : Nat) (M : FMem) (U : State) : Prop := va_P g.1 vwCl (fws g n M) U.heap ∧ va_K g.1 vwCl (ftys g) U ∧ U.heap.size = g.2.2.1 + n ∧ fExt g U
def fwl (f : FI) : List Cond := Cond.code f.1 f.2.1 f.2.2.1 f.2.2.2.1 :: TBL
abbrev FQi (g : Cx) (ph : Bool) (f : FI) (n : Nat) (P : Int → FMem → Prop) : Array Value → State → Outcome → State → Prop := va_Qi (fun (r : Int32) (u : Int × FMem) => r = Int32.ofInt u.1 ∧ N32 u.1 ∧ MOk ph u.2 ∧ P u.1 u.2) (fun u t => fWd g (n + f.2.2.2.2.cells) u.2 t) (fA g)
abbrev FQl (g : Cx) (ph : Bool) (f : FI) (n : Nat) (P : Int → FMem → Prop) : Array Value → State → Outcome → State → Prop := va_Ql (fun (r : Int64) (u : Int × FMem) => r = Int64.ofInt u.1 ∧ N64 u.1 ∧ MOk ph u.2 ∧ P u.1 u.2) (fun u t => fWd g (n + f.2.2.2.2.cells) u.2 t) (fA g)
abbrev FQv (g : Cx) (ph : Bool) (f : FI) (n : Nat) (P : FMem → Prop) : Array Value → State → Outcome → State → Prop := va_Qv (fun (u : FMem) => MOk ph u ∧ P u) (fun u t => fWd g (n + f.2.2.2.2.cells) u t) (fA g)
/-- method f, called with as over memory M, returns; the answer r and the memory M2 are as P says -/
def AMi (l : Launch) (g : Cx) (ph : Bool) (f : FI) (as : List FV) (n : Nat) (M : FMem) (P : Int → FMem → Prop) : Prop :=
  (∀ v ∈ as, NV v) → MOk ph M → Met l f.1 (fwl f) f.2.2.2.2 (va_Pc (as.map (cv g)) (fWd g n M)) (FQi g ph f n P) f.2.2.2.2.cells f.2.2.2.2.slots (fA g)
def AMl (l : Launch) (g : Cx) (ph : Bool) (f : FI) (as : List FV) (n : Nat) (M : FMem) (P : Int → FMem → Prop) : Prop :=
  (∀ v ∈ as, NV v) → MOk ph M → Met l f.1 (fwl f) f.2.2.2.2 (va_Pc (as.map (cv g)) (fWd g n M)) (FQl g ph f n P) f.2.2.2.2.cells f.2.2.2.2.slots (fA g)
def AMv (l : Launch) (g : Cx) (ph : Bool) (f : FI) (as : List FV) (n : Nat) (M : FMem) (P : FMem → Prop) : Prop :=
  (∀ v ∈ as, NV v) → MOk ph M → Met l f.1 (fwl f) f.2.2.2.2 (va_Pc (as.map (cv g)) (fWd g n M)) (FQv g ph f n P) f.2.2.2.2.cells f.2.2.2.2.slots (fA g)
/-- the end that a contract of each kind asks for -/
def Zi (g : Cx) (ph : Bool) (f : FI) (n0 : Nat) (μ : Mc) (P : Int → FMem → Prop) : State → Prop := MQ μ.2.2.2.2.2.1 (FQi g ph f n0 P) μ.2.2.2.2.1 μ.2.2.1 f.2.2.2.2.cells f.2.2.2.2.slots (fA g)
def Zl (g : Cx) (ph : Bool) (f : FI) (n0 : Nat) (μ : Mc) (P : Int → FMem → Prop) : State → Prop := MQ μ.2.2.2.2.2.1 (FQl g ph f n0 P) μ.2.2.2.2.1 μ.2.2.1 f.2.2.2.2.cells f.2.2.2.2.slots (fA g)
def Zv (g : Cx) (ph : Bool) (f : FI) (n0 : Nat) (μ : Mc) (P : FMem → Prop) : State → Prop := MQ μ.2.2.2.2.2.1 (FQv g ph f n0 P) μ.2.2.2.2.1 μ.2.2.1 f.2.2.2.2.cells f.2.2.2.2.slots (fA g)
/-- the locals at the entry -/
def fent (as : List FV) : List FV := as.flatMap (fun v => if is2 v then [v, fu] else [v])
theorem fent_args (g : Cx) (as : List FV) (hk : ∀ v ∈ as, kn v = true) (i : Nat) : ∀ (j : Nat) (v : FV), (fent as)[j]? = some v → kn v = true → (i + j, cv g v) ∈ lv_args i (as.map (cv g)) := by
  induction as generalizing i with
  | nil => intro j v h; simp [fent] at h
  | cons a as ih =>
    intro j v h hv
    have ih := ih (fun v hv => hk v (List.mem_cons_of_mem _ hv))
    have hcat : (cv g a).category = if is2 a then 2 else 1 := by
      match a with
      | .inl x => rfl
      | .inr (.inl x) => rfl
      | .inr (.inr (.inl x)) => rfl
      | .inr (.inr (.inr (.inl x))) => rfl
      | .inr (.inr (.inr (.inr x))) => rfl
    have hc : fent (a :: as) = (if is2 a then [a, fu] else [a]) ++ fent as := by simp [fent]
    rw [hc] at h
    by_cases h2 : is2 a = true
    · rw [if_pos h2] at h hcat
      simp only [List.map_cons, lv_args, hcat]
      match j, h with
      | 0, h =>
        simp at h
        subst h
        simp
      | 1, h =>
        simp at h
        subst h
        cases hv
      | j + 2, h =>
        simp at h
        have := ih (i + 2) j v h hv
        rw [show i + 2 + j = i + (j + 2) by omega] at this
        simp [this]
    · rw [if_neg h2] at h hcat
      simp only [List.map_cons, lv_args, hcat]
      match j, h with
      | 0, h =>
        simp at h
        subst h
        simp
      | j + 1, h =>
        simp at h
        have := ih (i + 1) j v h hv
        rw [show i + 1 + j = i + (j + 1) by omega] at this
        simp [this]
theorem fent_nv {as : List FV} (h : ∀ v ∈ as, NV v) : ∀ v ∈ fent as, NV v := by
  intro v hv
  obtain ⟨a, ha, hv⟩ := List.mem_flatMap.mp hv
  split at hv
  · rcases List.mem_cons.mp hv with rfl | hv
    · exact h _ ha
    · rw [List.mem_singleton.mp hv]; trivial
  · rw [List.mem_singleton.mp hv]; exact h _ ha
