/-! ===== rules, an instruction each ===== -/
def ushr64 (x y : Int) : Int := (((Int64.ofInt x).toUInt64 >>> ((Int32.ofInt y).toInt64.toUInt64 &&& Int64.toUInt64 63)).toInt64).toInt
def shr64 (x y : Int) : Int := (Int64.ofInt x >>> ((Int32.ofInt y).toInt64 &&& 63)).toInt
def shl64 (x y : Int) : Int := (Int64.ofInt x <<< ((Int32.ofInt y).toInt64 &&& 63)).toInt
theorem nvc {a : FV} {s : List FV} (ha : NV a) (h : ∀ v ∈ s, NV v) : ∀ v ∈ a :: s, NV v := fun v hv => (List.mem_cons.mp hv).elim (fun e => e ▸ ha) (h v)
theorem nvt {a : FV} {s : List FV} (h : ∀ v ∈ a :: s, NV v) : ∀ v ∈ s, NV v := fun v hv => h v (List.mem_cons_of_mem _ hv)
theorem nvh {a : FV} {s : List FV} (h : ∀ v ∈ a :: s, NV v) : NV a := h a List.mem_cons_self
theorem i3_remx {x y : Int} (hx : N32 x) (hy : N32 y) : Int32.ofInt x - Int32.ofInt x / Int32.ofInt y * Int32.ofInt y = Int32.ofInt (x.tmod y) := by
  rw [i3_div hx hy, i3_w, ← Int32.ofInt_mul, ← Int32.ofInt_sub, Int.tmod_def, Int.mul_comm]
section ZR
variable {l : Launch} {g : Cx} {ph : Bool} {f : FI} {n0 : Nat} {μ : Mc} {Q : State → Prop} {pc : Nat} {stk : List FV} {loc : List FV} {n : Nat} {M : FMem}
theorem z_iconst {c : Int} (d : decode f.2.1 pc = .ok (.iconst c, 1)) (hc : N32 c) (k : Wa l g ph f n0 μ Q (pc + 1) (fi c :: stk) loc n M) : Wa l g ph f n0 μ Q pc (stk) loc n M := by
  intro F hn hs hl hM ls H locs L P S
  exact lv_iconst F.1 F.2.1 d rfl (k F hn (nvc hc hs) hl hM ls H locs L P S)
theorem z_bipush {c : Int} (d : decode f.2.1 pc = .ok (.bipush c, 2)) (hc : N32 c) (hv : (Int8.ofInt c).toInt32 = Int32.ofInt c) (k : Wa l g ph f n0 μ Q (pc + 2) (fi c :: stk) loc n M) : Wa l g ph f n0 μ Q pc (stk) loc n M := by
  intro F hn hs hl hM ls H locs L P S
  exact lv_bipush F.1 F.2.1 d hv (k F hn (nvc hc hs) hl hM ls H locs L P S)
theorem z_sipush {c : Int} (d : decode f.2.1 pc = .ok (.sipush c, 3)) (hc : N32 c) (hv : (Int16.ofInt c).toInt32 = Int32.ofInt c) (k : Wa l g ph f n0 μ Q (pc + 3) (fi c :: stk) loc n M) : Wa l g ph f n0 μ Q pc (stk) loc n M := by
  intro F hn hs hl hM ls H locs L P S
  exact lv_sipush F.1 F.2.1 d hv (k F hn (nvc hc hs) hl hM ls H locs L P S)
theorem z_lconst0 (d : decode f.2.1 pc = .ok (.lconst 0, 1)) (k : Wa l g ph f n0 μ Q (pc + 1) (fl 0 :: stk) loc n M) : Wa l g ph f n0 μ Q pc (stk) loc n M := by
  intro F hn hs hl hM ls H locs L P S
  exact lv_lconst F.1 F.2.1 d (by decide) (k F hn (nvc (by show N64 0; unfold N64; omega) hs) hl hM ls H locs L P S)
theorem z_lconst1 (d : decode f.2.1 pc = .ok (.lconst 1, 1)) (k : Wa l g ph f n0 μ Q (pc + 1) (fl 1 :: stk) loc n M) : Wa l g ph f n0 μ Q pc (stk) loc n M := by
  intro F hn hs hl hM ls H locs L P S
  exact lv_lconst F.1 F.2.1 d (by decide) (k F hn (nvc (by show N64 1; unfold N64; omega) hs) hl hM ls H locs L P S)
theorem z_ldc {c : Int} {idx : Nat} (hc : Cond.constant f.1.cls idx (Int32.ofInt c) ∈ TBL) (hn32 : N32 c) (d : decode f.2.1 pc = .ok (.ldc idx, 2)) (k : Wa l g ph f n0 μ Q (pc + 2) (fi c :: stk) loc n M) : Wa l g ph f n0 μ Q pc (stk) loc n M := by
  intro F hn hs hl hM ls H locs L P S
  exact lv_ldc F.1 F.2.1 F.2.2.2.1 (F.2.2.2.2.1 _ hc) d (k F hn (nvc hn32 hs) hl hM ls H locs L P S)
theorem z_ldc_w {c : Int} {idx : Nat} (hc : Cond.constant f.1.cls idx (Int32.ofInt c) ∈ TBL) (hn32 : N32 c) (d : decode f.2.1 pc = .ok (.ldc_w idx, 3)) (k : Wa l g ph f n0 μ Q (pc + 3) (fi c :: stk) loc n M) : Wa l g ph f n0 μ Q pc (stk) loc n M := by
  intro F hn hs hl hM ls H locs L P S
  exact lv_ldcw F.1 F.2.1 F.2.2.2.1 (F.2.2.2.2.1 _ hc) d (k F hn (nvc hn32 hs) hl hM ls H locs L P S)
theorem z_ldc2 {c : Int} {idx : Nat} (hc : Cond.constantLong f.1.cls idx (Int64.ofInt c) ∈ TBL) (hn64 : N64 c) (d : decode f.2.1 pc = .ok (.ldc2_w idx, 3)) (k : Wa l g ph f n0 μ Q (pc + 3) (fl c :: stk) loc n M) : Wa l g ph f n0 μ Q pc (stk) loc n M := by
  intro F hn hs hl hM ls H locs L P S
  exact lv_ldc2 F.1 F.2.1 F.2.2.2.1 (F.2.2.2.2.1 _ hc) d (k F hn (nvc hn64 hs) hl hM ls H locs L P S)
theorem z_iload_n {j : Fin 4} {x : Int} (d : decode f.2.1 pc = .ok (.iload_n j, 1)) (hk : loc[j.val]? = some (fi x)) (k : Wa l g ph f n0 μ Q (pc + 1) (fi x :: stk) loc n M) : Wa l g ph f n0 μ Q pc (stk) loc n M := by
  intro F hn hs hl hM ls H locs L P S
  exact lv_iload_n F.1 F.2.1 d rfl (L.2.2 _ _ hk rfl) (k F hn (nvc (hl _ (List.mem_of_getElem? hk)) hs) hl hM ls H locs L P S)
theorem z_iload {j : Nat} {x : Int} (d : decode f.2.1 pc = .ok (.iload j, 2)) (hk : loc[j]? = some (fi x)) (k : Wa l g ph f n0 μ Q (pc + 2) (fi x :: stk) loc n M) : Wa l g ph f n0 μ Q pc (stk) loc n M := by
  intro F hn hs hl hM ls H locs L P S
  exact lv_iload F.1 F.2.1 d (L.2.2 _ _ hk rfl) (k F hn (nvc (hl _ (List.mem_of_getElem? hk)) hs) hl hM ls H locs L P S)
theorem z_lload_n {j : Fin 4} {x : Int} (d : decode f.2.1 pc = .ok (.lload_n j, 1)) (hk : loc[j.val]? = some (fl x)) (k : Wa l g ph f n0 μ Q (pc + 1) (fl x :: stk) loc n M) : Wa l g ph f n0 μ Q pc (stk) loc n M := by
  intro F hn hs hl hM ls H locs L P S
  exact lv_lload_n F.1 F.2.1 d rfl (L.2.2 _ _ hk rfl) (k F hn (nvc (hl _ (List.mem_of_getElem? hk)) hs) hl hM ls H locs L P S)
theorem z_lload {j : Nat} {x : Int} (d : decode f.2.1 pc = .ok (.lload j, 2)) (hk : loc[j]? = some (fl x)) (k : Wa l g ph f n0 μ Q (pc + 2) (fl x :: stk) loc n M) : Wa l g ph f n0 μ Q pc (stk) loc n M := by
  intro F hn hs hl hM ls H locs L P S
  exact lv_lload F.1 F.2.1 d (L.2.2 _ _ hk rfl) (k F hn (nvc (hl _ (List.mem_of_getElem? hk)) hs) hl hM ls H locs L P S)
theorem z_aload_nr {j : Fin 4} {x : Nat} (d : decode f.2.1 pc = .ok (.aload_n j, 1)) (hk : loc[j.val]? = some (fr x)) (k : Wa l g ph f n0 μ Q (pc + 1) (fr x :: stk) loc n M) : Wa l g ph f n0 μ Q pc (stk) loc n M := by
  intro F hn hs hl hM ls H locs L P S
  exact lv_aload_n F.1 F.2.1 d rfl (L.2.2 _ _ hk rfl) (k F hn (nvc trivial hs) hl hM ls H locs L P S)
theorem z_aloadr {j : Nat} {x : Nat} (d : decode f.2.1 pc = .ok (.aload j, 2)) (hk : loc[j]? = some (fr x)) (k : Wa l g ph f n0 μ Q (pc + 2) (fr x :: stk) loc n M) : Wa l g ph f n0 μ Q pc (stk) loc n M := by
  intro F hn hs hl hM ls H locs L P S
  exact lv_aload F.1 F.2.1 d (L.2.2 _ _ hk rfl) (k F hn (nvc trivial hs) hl hM ls H locs L P S)
theorem z_aload_ne {j : Fin 4} {x : Nat} (d : decode f.2.1 pc = .ok (.aload_n j, 1)) (hk : loc[j.val]? = some (fe x)) (k : Wa l g ph f n0 μ Q (pc + 1) (fe x :: stk) loc n M) : Wa l g ph f n0 μ Q pc (stk) loc n M := by
  intro F hn hs hl hM ls H locs L P S
  exact lv_aload_n F.1 F.2.1 d rfl (L.2.2 _ _ hk rfl) (k F hn (nvc trivial hs) hl hM ls H locs L P S)
theorem z_aloade {j : Nat} {x : Nat} (d : decode f.2.1 pc = .ok (.aload j, 2)) (hk : loc[j]? = some (fe x)) (k : Wa l g ph f n0 μ Q (pc + 2) (fe x :: stk) loc n M) : Wa l g ph f n0 μ Q pc (stk) loc n M := by
  intro F hn hs hl hM ls H locs L P S
  exact lv_aload F.1 F.2.1 d (L.2.2 _ _ hk rfl) (k F hn (nvc trivial hs) hl hM ls H locs L P S)
theorem z_istore_n {j : Fin 4} {x : Int} {loc2 : List FV} (d : decode f.2.1 pc = .ok (.istore_n j, 1)) (hj : j.val < f.2.2.1) (h2 : st1 loc j.val (fi x) = loc2) (k : Wa l g ph f n0 μ Q (pc + 1) stk loc2 n M) : Wa l g ph f n0 μ Q pc (fi x :: stk) loc n M := by
  intro F hn hs hl hM ls H locs L P S
  subst h2
  exact lv_istore_n F.1 F.2.1 d rfl L.has hj rfl (fun ls2 h2 => k F hn (nvt hs) (st1_nv hl (nvh hs)) hM ls2 H locs (LH.of1 h2) P S)
theorem z_istore {j : Nat} {x : Int} {loc2 : List FV} (d : decode f.2.1 pc = .ok (.istore j, 2)) (hj : j < f.2.2.1) (h2 : st1 loc j (fi x) = loc2) (k : Wa l g ph f n0 μ Q (pc + 2) stk loc2 n M) : Wa l g ph f n0 μ Q pc (fi x :: stk) loc n M := by
  intro F hn hs hl hM ls H locs L P S
  subst h2
  exact lv_istore F.1 F.2.1 d L.has hj rfl (fun ls2 h2 => k F hn (nvt hs) (st1_nv hl (nvh hs)) hM ls2 H locs (LH.of1 h2) P S)
theorem z_lstore_n {j : Fin 4} {x : Int} {loc2 : List FV} (d : decode f.2.1 pc = .ok (.lstore_n j, 1)) (hj : j.val + 1 < f.2.2.1) (h2 : st2 loc j.val (fl x) = loc2) (k : Wa l g ph f n0 μ Q (pc + 1) stk loc2 n M) : Wa l g ph f n0 μ Q pc (fl x :: stk) loc n M := by
  intro F hn hs hl hM ls H locs L P S
  subst h2
  exact lv_lstore_n F.1 F.2.1 d rfl L.has hj rfl (fun ls2 h2 => k F hn (nvt hs) (st2_nv hl (nvh hs)) hM ls2 H locs (LH.of2 h2) P S)
theorem z_lstore {j : Nat} {x : Int} {loc2 : List FV} (d : decode f.2.1 pc = .ok (.lstore j, 2)) (hj : j + 1 < f.2.2.1) (h2 : st2 loc j (fl x) = loc2) (k : Wa l g ph f n0 μ Q (pc + 2) stk loc2 n M) : Wa l g ph f n0 μ Q pc (fl x :: stk) loc n M := by
  intro F hn hs hl hM ls H locs L P S
  subst h2
  exact lv_lstore F.1 F.2.1 d L.has hj rfl (fun ls2 h2 => k F hn (nvt hs) (st2_nv hl (nvh hs)) hM ls2 H locs (LH.of2 h2) P S)
theorem z_astore_nr {j : Fin 4} {x : Nat} {loc2 : List FV} (d : decode f.2.1 pc = .ok (.astore_n j, 1)) (hj : j.val < f.2.2.1) (h2 : st1 loc j.val (fr x) = loc2) (k : Wa l g ph f n0 μ Q (pc + 1) stk loc2 n M) : Wa l g ph f n0 μ Q pc (fr x :: stk) loc n M := by
  intro F hn hs hl hM ls H locs L P S
  subst h2
  exact lv_astore_n F.1 F.2.1 d rfl L.has hj rfl (fun ls2 h2 => k F hn (nvt hs) (st1_nv hl (nvh hs)) hM ls2 H locs (LH.of1 h2) P S)
theorem z_astore_ne {j : Fin 4} {x : Nat} {loc2 : List FV} (d : decode f.2.1 pc = .ok (.astore_n j, 1)) (hj : j.val < f.2.2.1) (h2 : st1 loc j.val (fe x) = loc2) (k : Wa l g ph f n0 μ Q (pc + 1) stk loc2 n M) : Wa l g ph f n0 μ Q pc (fe x :: stk) loc n M := by
  intro F hn hs hl hM ls H locs L P S
  subst h2
  exact lv_astore_n F.1 F.2.1 d rfl L.has hj rfl (fun ls2 h2 => k F hn (nvt hs) (st1_nv hl (nvh hs)) hM ls2 H locs (LH.of1 h2) P S)
theorem z_iinc {j : Nat} {c x : Int} {loc2 : Int → List FV} (d : decode f.2.1 pc = .ok (.iinc j c, 3)) (hk : loc[j]? = some (fi x)) (hj : j < f.2.2.1) (hb : N32 (x + c)) (h2 : ∀ v, st1 loc j (fi v) = loc2 v) (k : ∀ v, v = x + c → Wa l g ph f n0 μ Q (pc + 3) stk (loc2 v) n M) : Wa l g ph f n0 μ Q pc stk loc n M := by
  intro F hn hs hl hM ls H locs L P S
  obtain ⟨q, hq⟩ := List.getElem?_of_mem (fcL_mem (q := (j, cv g (fi x))).mpr ⟨fi x, hk, rfl, rfl⟩)
  have k := k (x + c) rfl
  rw [← h2] at k
  exact lv_iinc F.1 F.2.1 d L.has hq (by rw [i3_add, i3_w]) hj rfl (fun ls2 h2 => k F hn hs (st1_nv hl hb) hM ls2 H locs (LH.of1 h2) P S)
theorem z_iadd {x y : Int} (d : decode f.2.1 pc = .ok (.iadd, 1)) (k : ∀ v, v = w32 (x + y) → Wa l g ph f n0 μ Q (pc + 1) (fi v :: stk) loc n M) : Wa l g ph f n0 μ Q pc (fi y :: fi x :: stk) loc n M := by
  intro F hn hs hl hM ls H locs L P S
  refine lv_iadd F.1 F.2.1 d ?_
  rw [i3_add]
  exact k _ rfl F hn (nvc (w32_n _) (nvt (nvt hs))) hl hM ls H locs L P S
theorem z_iaddN {x y : Int} (d : decode f.2.1 pc = .ok (.iadd, 1)) (h : N32 (x + y)) (k : ∀ v, v = x + y → Wa l g ph f n0 μ Q (pc + 1) (fi v :: stk) loc n M) : Wa l g ph f n0 μ Q pc (fi y :: fi x :: stk) loc n M := z_iadd d (fun v hv => k v (hv.trans (w32_id h)))
theorem z_isub {x y : Int} (d : decode f.2.1 pc = .ok (.isub, 1)) (k : ∀ v, v = w32 (x - y) → Wa l g ph f n0 μ Q (pc + 1) (fi v :: stk) loc n M) : Wa l g ph f n0 μ Q pc (fi y :: fi x :: stk) loc n M := by
  intro F hn hs hl hM ls H locs L P S
  refine lv_isub F.1 F.2.1 d ?_
  rw [i3_sub]
  exact k _ rfl F hn (nvc (w32_n _) (nvt (nvt hs))) hl hM ls H locs L P S
theorem z_isubN {x y : Int} (d : decode f.2.1 pc = .ok (.isub, 1)) (h : N32 (x - y)) (k : ∀ v, v = x - y → Wa l g ph f n0 μ Q (pc + 1) (fi v :: stk) loc n M) : Wa l g ph f n0 μ Q pc (fi y :: fi x :: stk) loc n M := z_isub d (fun v hv => k v (hv.trans (w32_id h)))
theorem z_imul {x y : Int} (d : decode f.2.1 pc = .ok (.imul, 1)) (k : ∀ v, v = w32 (x * y) → Wa l g ph f n0 μ Q (pc + 1) (fi v :: stk) loc n M) : Wa l g ph f n0 μ Q pc (fi y :: fi x :: stk) loc n M := by
  intro F hn hs hl hM ls H locs L P S
  refine lv_imul F.1 F.2.1 d ?_
  rw [i3_mul]
  exact k _ rfl F hn (nvc (w32_n _) (nvt (nvt hs))) hl hM ls H locs L P S
theorem z_imulN {x y : Int} (d : decode f.2.1 pc = .ok (.imul, 1)) (h : N32 (x * y)) (k : ∀ v, v = x * y → Wa l g ph f n0 μ Q (pc + 1) (fi v :: stk) loc n M) : Wa l g ph f n0 μ Q pc (fi y :: fi x :: stk) loc n M := z_imul d (fun v hv => k v (hv.trans (w32_id h)))
theorem z_ladd {x y : Int} (d : decode f.2.1 pc = .ok (.ladd, 1)) (k : ∀ v, v = w64 (x + y) → Wa l g ph f n0 μ Q (pc + 1) (fl v :: stk) loc n M) : Wa l g ph f n0 μ Q pc (fl y :: fl x :: stk) loc n M := by
  intro F hn hs hl hM ls H locs L P S
  refine lv_ladd F.1 F.2.1 d ?_
  rw [i6_add]
  exact k _ rfl F hn (nvc (w64_n _) (nvt (nvt hs))) hl hM ls H locs L P S
theorem z_laddN {x y : Int} (d : decode f.2.1 pc = .ok (.ladd, 1)) (h : N64 (x + y)) (k : ∀ v, v = x + y → Wa l g ph f n0 μ Q (pc + 1) (fl v :: stk) loc n M) : Wa l g ph f n0 μ Q pc (fl y :: fl x :: stk) loc n M := z_ladd d (fun v hv => k v (hv.trans (w64_id h)))
theorem z_lsub {x y : Int} (d : decode f.2.1 pc = .ok (.lsub, 1)) (k : ∀ v, v = w64 (x - y) → Wa l g ph f n0 μ Q (pc + 1) (fl v :: stk) loc n M) : Wa l g ph f n0 μ Q pc (fl y :: fl x :: stk) loc n M := by
  intro F hn hs hl hM ls H locs L P S
  refine lv_lsub F.1 F.2.1 d ?_
  rw [i6_sub]
  exact k _ rfl F hn (nvc (w64_n _) (nvt (nvt hs))) hl hM ls H locs L P S
theorem z_lsubN {x y : Int} (d : decode f.2.1 pc = .ok (.lsub, 1)) (h : N64 (x - y)) (k : ∀ v, v = x - y → Wa l g ph f n0 μ Q (pc + 1) (fl v :: stk) loc n M) : Wa l g ph f n0 μ Q pc (fl y :: fl x :: stk) loc n M := z_lsub d (fun v hv => k v (hv.trans (w64_id h)))
theorem z_lmul {x y : Int} (d : decode f.2.1 pc = .ok (.lmul, 1)) (k : ∀ v, v = w64 (x * y) → Wa l g ph f n0 μ Q (pc + 1) (fl v :: stk) loc n M) : Wa l g ph f n0 μ Q pc (fl y :: fl x :: stk) loc n M := by
  intro F hn hs hl hM ls H locs L P S
  refine lv_lmul F.1 F.2.1 d ?_
  rw [i6_mul]
  exact k _ rfl F hn (nvc (w64_n _) (nvt (nvt hs))) hl hM ls H locs L P S
theorem z_lmulN {x y : Int} (d : decode f.2.1 pc = .ok (.lmul, 1)) (h : N64 (x * y)) (k : ∀ v, v = x * y → Wa l g ph f n0 μ Q (pc + 1) (fl v :: stk) loc n M) : Wa l g ph f n0 μ Q pc (fl y :: fl x :: stk) loc n M := z_lmul d (fun v hv => k v (hv.trans (w64_id h)))
theorem z_ineg {x : Int} (d : decode f.2.1 pc = .ok (.ineg, 1)) (k : ∀ v, v = w32 (-x) → Wa l g ph f n0 μ Q (pc + 1) (fi v :: stk) loc n M) : Wa l g ph f n0 μ Q pc (fi x :: stk) loc n M := by
  intro F hn hs hl hM ls H locs L P S
  refine lv_ineg F.1 F.2.1 d ?_
  rw [i3_neg]
  exact k _ rfl F hn (nvc (w32_n _) (nvt hs)) hl hM ls H locs L P S
theorem z_inegN {x : Int} (d : decode f.2.1 pc = .ok (.ineg, 1)) (h : N32 (-x)) (k : ∀ v, v = -x → Wa l g ph f n0 μ Q (pc + 1) (fi v :: stk) loc n M) : Wa l g ph f n0 μ Q pc (fi x :: stk) loc n M := z_ineg d (fun v hv => k v (hv.trans (w32_id h)))
theorem z_lneg {x : Int} (d : decode f.2.1 pc = .ok (.lneg, 1)) (k : ∀ v, v = w64 (-x) → Wa l g ph f n0 μ Q (pc + 1) (fl v :: stk) loc n M) : Wa l g ph f n0 μ Q pc (fl x :: stk) loc n M := by
  intro F hn hs hl hM ls H locs L P S
  refine lv_lneg F.1 F.2.1 d ?_
  rw [i6_neg]
  exact k _ rfl F hn (nvc (w64_n _) (nvt hs)) hl hM ls H locs L P S
theorem z_lnegN {x : Int} (d : decode f.2.1 pc = .ok (.lneg, 1)) (h : N64 (-x)) (k : ∀ v, v = -x → Wa l g ph f n0 μ Q (pc + 1) (fl v :: stk) loc n M) : Wa l g ph f n0 μ Q pc (fl x :: stk) loc n M := z_lneg d (fun v hv => k v (hv.trans (w64_id h)))
theorem z_idiv {x y : Int} (d : decode f.2.1 pc = .ok (.idiv, 1)) (h0 : y ≠ 0) (h : N32 (x.tdiv y)) (k : ∀ v, v = x.tdiv y → Wa l g ph f n0 μ Q (pc + 1) (fi v :: stk) loc n M) : Wa l g ph f n0 μ Q pc (fi y :: fi x :: stk) loc n M := by
  intro F hn hs hl hM ls H locs L P S
  have hy : N32 y := nvh hs
  have hx : N32 x := nvh (nvt hs)
  refine lv_idiv F.1 F.2.1 d (fun q => h0 ((i3_eq hy n32_0).mp q)) ?_
  rw [i3_div hx hy, w32_id h]
  exact k _ rfl F hn (nvc h (nvt (nvt hs))) hl hM ls H locs L P S
theorem z_ldiv {x y : Int} (d : decode f.2.1 pc = .ok (.ldiv, 1)) (h0 : y ≠ 0) (h : N64 (x.tdiv y)) (k : ∀ v, v = x.tdiv y → Wa l g ph f n0 μ Q (pc + 1) (fl v :: stk) loc n M) : Wa l g ph f n0 μ Q pc (fl y :: fl x :: stk) loc n M := by
  intro F hn hs hl hM ls H locs L P S
  have hy : N64 y := nvh hs
  have hx : N64 x := nvh (nvt hs)
  refine lv_ldiv F.1 F.2.1 d (fun q => h0 ((i6_eq hy (n32_64 n32_0)).mp q)) ?_
  rw [i6_div hx hy, w64_id h]
  exact k _ rfl F hn (nvc h (nvt (nvt hs))) hl hM ls H locs L P S
theorem z_irem {x y : Int} (d : decode f.2.1 pc = .ok (.irem, 1)) (h0 : y ≠ 0) (k : ∀ v, v = x.tmod y → Wa l g ph f n0 μ Q (pc + 1) (fi v :: stk) loc n M) : Wa l g ph f n0 μ Q pc (fi y :: fi x :: stk) loc n M := by
  intro F hn hs hl hM ls H locs L P S
  have hy : N32 y := nvh hs
  have hx : N32 x := nvh (nvt hs)
  refine lv_irem F.1 F.2.1 d (fun q => h0 ((i3_eq hy n32_0).mp q)) ?_
  rw [i3_remx hx hy]
  exact k _ rfl F hn (nvc (rem_n hx hy) (nvt (nvt hs))) hl hM ls H locs L P S
theorem z_iand {x y : Int} (d : decode f.2.1 pc = .ok (.iand, 1)) (k : ∀ v, v = and32 x y → N32 v → Wa l g ph f n0 μ Q (pc + 1) (fi v :: stk) loc n M) : Wa l g ph f n0 μ Q pc (fi y :: fi x :: stk) loc n M := by
  intro F hn hs hl hM ls H locs L P S
  refine lv_iand F.1 F.2.1 d ?_
  have k := k _ rfl (i3_n _) F hn (nvc (i3_n _) (nvt (nvt hs))) hl hM ls H locs L P S
  simpa only [List.map_cons, cv, and32, Int32.ofInt_toInt] using k
theorem z_ior {x y : Int} (d : decode f.2.1 pc = .ok (.ior, 1)) (k : ∀ v, v = or32 x y → N32 v → Wa l g ph f n0 μ Q (pc + 1) (fi v :: stk) loc n M) : Wa l g ph f n0 μ Q pc (fi y :: fi x :: stk) loc n M := by
  intro F hn hs hl hM ls H locs L P S
  refine lv_ior F.1 F.2.1 d ?_
  have k := k _ rfl (i3_n _) F hn (nvc (i3_n _) (nvt (nvt hs))) hl hM ls H locs L P S
  simpa only [List.map_cons, cv, or32, Int32.ofInt_toInt] using k
theorem z_ishl {x y : Int} (d : decode f.2.1 pc = .ok (.ishl, 1)) (k : ∀ v, v = shl32 x y → N32 v → Wa l g ph f n0 μ Q (pc + 1) (fi v :: stk) loc n M) : Wa l g ph f n0 μ Q pc (fi y :: fi x :: stk) loc n M := by
  intro F hn hs hl hM ls H locs L P S
  refine lv_ishl F.1 F.2.1 d ?_
  have k := k _ rfl (i3_n _) F hn (nvc (i3_n _) (nvt (nvt hs))) hl hM ls H locs L P S
  simpa only [List.map_cons, cv, shl32, Int32.ofInt_toInt] using k
theorem z_ishr {x y : Int} (d : decode f.2.1 pc = .ok (.ishr, 1)) (k : ∀ v, v = shr32 x y → N32 v → Wa l g ph f n0 μ Q (pc + 1) (fi v :: stk) loc n M) : Wa l g ph f n0 μ Q pc (fi y :: fi x :: stk) loc n M := by
  intro F hn hs hl hM ls H locs L P S
  refine lv_ishr F.1 F.2.1 d ?_
  have k := k _ rfl (i3_n _) F hn (nvc (i3_n _) (nvt (nvt hs))) hl hM ls H locs L P S
  simpa only [List.map_cons, cv, shr32, Int32.ofInt_toInt] using k
theorem z_land {x y : Int} (d : decode f.2.1 pc = .ok (.land, 1)) (k : ∀ v, v = and64 x y → N64 v → Wa l g ph f n0 μ Q (pc + 1) (fl v :: stk) loc n M) : Wa l g ph f n0 μ Q pc (fl y :: fl x :: stk) loc n M := by
  intro F hn hs hl hM ls H locs L P S
  refine lv_land F.1 F.2.1 d ?_
  have k := k _ rfl (i6_n _) F hn (nvc (i6_n _) (nvt (nvt hs))) hl hM ls H locs L P S
  simpa only [List.map_cons, cv, and64, Int64.ofInt_toInt] using k
theorem z_lor {x y : Int} (d : decode f.2.1 pc = .ok (.lor, 1)) (k : ∀ v, v = or64 x y → N64 v → Wa l g ph f n0 μ Q (pc + 1) (fl v :: stk) loc n M) : Wa l g ph f n0 μ Q pc (fl y :: fl x :: stk) loc n M := by
  intro F hn hs hl hM ls H locs L P S
  refine lv_lor F.1 F.2.1 d ?_
  have k := k _ rfl (i6_n _) F hn (nvc (i6_n _) (nvt (nvt hs))) hl hM ls H locs L P S
  simpa only [List.map_cons, cv, or64, Int64.ofInt_toInt] using k
theorem z_lshl {x y : Int} (d : decode f.2.1 pc = .ok (.lshl, 1)) (k : ∀ v, v = shl64 x y → N64 v → Wa l g ph f n0 μ Q (pc + 1) (fl v :: stk) loc n M) : Wa l g ph f n0 μ Q pc (fi y :: fl x :: stk) loc n M := by
  intro F hn hs hl hM ls H locs L P S
  refine lv_lshl F.1 F.2.1 d rfl ?_
  have k := k _ rfl (i6_n _) F hn (nvc (i6_n _) (nvt (nvt hs))) hl hM ls H locs L P S
  simpa only [List.map_cons, cv, shl64, Int64.ofInt_toInt] using k
theorem z_lshr {x y : Int} (d : decode f.2.1 pc = .ok (.lshr, 1)) (k : ∀ v, v = shr64 x y → N64 v → Wa l g ph f n0 μ Q (pc + 1) (fl v :: stk) loc n M) : Wa l g ph f n0 μ Q pc (fi y :: fl x :: stk) loc n M := by
  intro F hn hs hl hM ls H locs L P S
  refine lv_lshr F.1 F.2.1 d rfl ?_
  have k := k _ rfl (i6_n _) F hn (nvc (i6_n _) (nvt (nvt hs))) hl hM ls H locs L P S
  simpa only [List.map_cons, cv, shr64, Int64.ofInt_toInt] using k
theorem z_lushr {x y : Int} (d : decode f.2.1 pc = .ok (.lushr, 1)) (k : ∀ v, v = ushr64 x y → N64 v → Wa l g ph f n0 μ Q (pc + 1) (fl v :: stk) loc n M) : Wa l g ph f n0 μ Q pc (fi y :: fl x :: stk) loc n M := by
  intro F hn hs hl hM ls H locs L P S
  refine lv_lushr F.1 F.2.1 d rfl ?_
  have k := k _ rfl (i6_n _) F hn (nvc (i6_n _) (nvt (nvt hs))) hl hM ls H locs L P S
  simpa only [List.map_cons, cv, ushr64, Int64.ofInt_toInt] using k
theorem z_i2l {x : Int} (d : decode f.2.1 pc = .ok (.i2l, 1)) (k : Wa l g ph f n0 μ Q (pc + 1) (fl x :: stk) loc n M) : Wa l g ph f n0 μ Q pc (fi x :: stk) loc n M := by
  intro F hn hs hl hM ls H locs L P S
  have hx : N32 x := nvh hs
  exact lv_i2l F.1 F.2.1 d (i3_i6 hx) (k F hn (nvc (n32_64 hx) (nvt hs)) hl hM ls H locs L P S)
theorem z_l2i {x : Int} (d : decode f.2.1 pc = .ok (.l2i, 1)) (k : ∀ v, v = w32 x → Wa l g ph f n0 μ Q (pc + 1) (fi v :: stk) loc n M) : Wa l g ph f n0 μ Q pc (fl x :: stk) loc n M := by
  intro F hn hs hl hM ls H locs L P S
  exact lv_l2i F.1 F.2.1 d (i6_i3 x) (k _ rfl F hn (nvc (w32_n _) (nvt hs)) hl hM ls H locs L P S)
theorem z_l2iN {x : Int} (d : decode f.2.1 pc = .ok (.l2i, 1)) (h : N32 x) (k : ∀ v, v = x → Wa l g ph f n0 μ Q (pc + 1) (fi v :: stk) loc n M) : Wa l g ph f n0 μ Q pc (fl x :: stk) loc n M := z_l2i d (fun v hv => k v (hv.trans (w32_id h)))
theorem z_dup {a : FV} (h1 : is2 a = false) (d : decode f.2.1 pc = .ok (.dup, 1)) (k : Wa l g ph f n0 μ Q (pc + 1) (a :: a :: stk) loc n M) : Wa l g ph f n0 μ Q pc (a :: stk) loc n M := by
  intro F hn hs hl hM ls H locs L P S
  have hc : (cv g a).category = 1 := by
    rcases lv_cat (cv g a) with h | h
    · exact h
    · rw [is2_cat h] at h1; cases h1
  exact lv_dup F.1 F.2.1 d hc (k F hn (nvc (nvh hs) hs) hl hM ls H locs L P S)
theorem z_dup2 {a b : FV} (h1 : is2 a = false) (h2 : is2 b = false) (d : decode f.2.1 pc = .ok (.dup2, 1)) (k : Wa l g ph f n0 μ Q (pc + 1) (a :: b :: a :: b :: stk) loc n M) : Wa l g ph f n0 μ Q pc (a :: b :: stk) loc n M := by
  intro F hn hs hl hM ls H locs L P S
  have hc : ∀ a : FV, is2 a = false → (cv g a).category = 1 := by
    intro a h1
    rcases lv_cat (cv g a) with h | h
    · exact h
    · rw [is2_cat h] at h1; cases h1
  exact lv_dup2_11 F.1 F.2.1 d (hc a h1) (hc b h2) (k F hn (nvc (nvh hs) (nvc (nvh (nvt hs)) hs)) hl hM ls H locs L P S)
theorem z_if_eq {x : Int} {off : Int} {tgt : Nat} (d : decode f.2.1 pc = .ok (.ifCond .eq off, 3)) (ht : (pc : Int) + off = (tgt : Int)) (kt : x = 0 → Wa l g ph f n0 μ Q tgt stk loc n M) (kf : x ≠ 0 → Wa l g ph f n0 μ Q (pc + 3) stk loc n M) : Wa l g ph f n0 μ Q pc (fi x :: stk) loc n M := by
  intro F hn hs hl hM ls H locs L P S
  have hx : N32 x := nvh hs
  by_cases hc : x = 0
  · have k := kt hc F hn (nvt hs) hl hM ls H locs L P S
    refine lv_if_eq F.1 F.2.1 d ht (fun _ => k) (fun q => absurd ((i3_eq hx n32_0).mpr hc) q)
  · have k := kf (by omega) F hn (nvt hs) hl hM ls H locs L P S
    refine lv_if_eq F.1 F.2.1 d ht (fun q => absurd ((i3_eq hx n32_0).mp q) hc) (fun _ => k)
theorem z_if_ne {x : Int} {off : Int} {tgt : Nat} (d : decode f.2.1 pc = .ok (.ifCond .ne off, 3)) (ht : (pc : Int) + off = (tgt : Int)) (kt : x ≠ 0 → Wa l g ph f n0 μ Q tgt stk loc n M) (kf : x = 0 → Wa l g ph f n0 μ Q (pc + 3) stk loc n M) : Wa l g ph f n0 μ Q pc (fi x :: stk) loc n M := by
  intro F hn hs hl hM ls H locs L P S
  have hx : N32 x := nvh hs
  by_cases hc : x ≠ 0
  · have k := kt hc F hn (nvt hs) hl hM ls H locs L P S
    refine lv_if_ne F.1 F.2.1 d ht (fun _ => k) (fun q => absurd ((i3_eq hx n32_0).mp q) hc)
  · have k := kf (by omega) F hn (nvt hs) hl hM ls H locs L P S
    refine lv_if_ne F.1 F.2.1 d ht (fun q => absurd ((not_congr (i3_eq hx n32_0)).mp q) hc) (fun _ => k)
theorem z_if_lt {x : Int} {off : Int} {tgt : Nat} (d : decode f.2.1 pc = .ok (.ifCond .lt off, 3)) (ht : (pc : Int) + off = (tgt : Int)) (kt : x < 0 → Wa l g ph f n0 μ Q tgt stk loc n M) (kf : 0 ≤ x → Wa l g ph f n0 μ Q (pc + 3) stk loc n M) : Wa l g ph f n0 μ Q pc (fi x :: stk) loc n M := by
  intro F hn hs hl hM ls H locs L P S
  have hx : N32 x := nvh hs
  by_cases hc : x < 0
  · have k := kt hc F hn (nvt hs) hl hM ls H locs L P S
    refine lv_if_lt F.1 F.2.1 d ht (fun _ => k) (fun q => absurd ((i3_lt hx n32_0).mpr hc) q)
  · have k := kf (by omega) F hn (nvt hs) hl hM ls H locs L P S
    refine lv_if_lt F.1 F.2.1 d ht (fun q => absurd ((i3_lt hx n32_0).mp q) hc) (fun _ => k)
theorem z_if_ge {x : Int} {off : Int} {tgt : Nat} (d : decode f.2.1 pc = .ok (.ifCond .ge off, 3)) (ht : (pc : Int) + off = (tgt : Int)) (kt : 0 ≤ x → Wa l g ph f n0 μ Q tgt stk loc n M) (kf : x < 0 → Wa l g ph f n0 μ Q (pc + 3) stk loc n M) : Wa l g ph f n0 μ Q pc (fi x :: stk) loc n M := by
  intro F hn hs hl hM ls H locs L P S
  have hx : N32 x := nvh hs
  by_cases hc : 0 ≤ x
  · have k := kt hc F hn (nvt hs) hl hM ls H locs L P S
    refine lv_if_ge F.1 F.2.1 d ht (fun _ => k) (fun q => absurd ((i3_le n32_0 hx).mpr hc) q)
  · have k := kf (by omega) F hn (nvt hs) hl hM ls H locs L P S
    refine lv_if_ge F.1 F.2.1 d ht (fun q => absurd ((i3_le n32_0 hx).mp q) hc) (fun _ => k)
theorem z_if_gt {x : Int} {off : Int} {tgt : Nat} (d : decode f.2.1 pc = .ok (.ifCond .gt off, 3)) (ht : (pc : Int) + off = (tgt : Int)) (kt : 0 < x → Wa l g ph f n0 μ Q tgt stk loc n M) (kf : x ≤ 0 → Wa l g ph f n0 μ Q (pc + 3) stk loc n M) : Wa l g ph f n0 μ Q pc (fi x :: stk) loc n M := by
  intro F hn hs hl hM ls H locs L P S
  have hx : N32 x := nvh hs
  by_cases hc : 0 < x
  · have k := kt hc F hn (nvt hs) hl hM ls H locs L P S
    refine lv_if_gt F.1 F.2.1 d ht (fun _ => k) (fun q => absurd ((i3_lt n32_0 hx).mpr hc) q)
  · have k := kf (by omega) F hn (nvt hs) hl hM ls H locs L P S
    refine lv_if_gt F.1 F.2.1 d ht (fun q => absurd ((i3_lt n32_0 hx).mp q) hc) (fun _ => k)
theorem z_if_le {x : Int} {off : Int} {tgt : Nat} (d : decode f.2.1 pc = .ok (.ifCond .le off, 3)) (ht : (pc : Int) + off = (tgt : Int)) (kt : x ≤ 0 → Wa l g ph f n0 μ Q tgt stk loc n M) (kf : 0 < x → Wa l g ph f n0 μ Q (pc + 3) stk loc n M) : Wa l g ph f n0 μ Q pc (fi x :: stk) loc n M := by
  intro F hn hs hl hM ls H locs L P S
  have hx : N32 x := nvh hs
  by_cases hc : x ≤ 0
  · have k := kt hc F hn (nvt hs) hl hM ls H locs L P S
    refine lv_if_le F.1 F.2.1 d ht (fun _ => k) (fun q => absurd ((i3_le hx n32_0).mpr hc) q)
  · have k := kf (by omega) F hn (nvt hs) hl hM ls H locs L P S
    refine lv_if_le F.1 F.2.1 d ht (fun q => absurd ((i3_le hx n32_0).mp q) hc) (fun _ => k)
theorem z_icmp_eq {x y : Int} {off : Int} {tgt : Nat} (d : decode f.2.1 pc = .ok (.if_icmp .eq off, 3)) (ht : (pc : Int) + off = (tgt : Int)) (kt : x = y → Wa l g ph f n0 μ Q tgt stk loc n M) (kf : x ≠ y → Wa l g ph f n0 μ Q (pc + 3) stk loc n M) : Wa l g ph f n0 μ Q pc (fi y :: fi x :: stk) loc n M := by
  intro F hn hs hl hM ls H locs L P S
  have hy : N32 y := nvh hs
  have hx : N32 x := nvh (nvt hs)
  by_cases hc : x = y
  · have k := kt hc F hn (nvt (nvt hs)) hl hM ls H locs L P S
    refine lv_icmp_eq F.1 F.2.1 d ht (fun _ => k) (fun q => absurd ((i3_eq hx hy).mpr hc) q)
  · have k := kf (by omega) F hn (nvt (nvt hs)) hl hM ls H locs L P S
    refine lv_icmp_eq F.1 F.2.1 d ht (fun q => absurd ((i3_eq hx hy).mp q) hc) (fun _ => k)
theorem z_icmp_ne {x y : Int} {off : Int} {tgt : Nat} (d : decode f.2.1 pc = .ok (.if_icmp .ne off, 3)) (ht : (pc : Int) + off = (tgt : Int)) (kt : x ≠ y → Wa l g ph f n0 μ Q tgt stk loc n M) (kf : x = y → Wa l g ph f n0 μ Q (pc + 3) stk loc n M) : Wa l g ph f n0 μ Q pc (fi y :: fi x :: stk) loc n M := by
  intro F hn hs hl hM ls H locs L P S
  have hy : N32 y := nvh hs
  have hx : N32 x := nvh (nvt hs)
  by_cases hc : x ≠ y
  · have k := kt hc F hn (nvt (nvt hs)) hl hM ls H locs L P S
    refine lv_icmp_ne F.1 F.2.1 d ht (fun _ => k) (fun q => absurd ((i3_eq hx hy).mp q) hc)
  · have k := kf (by omega) F hn (nvt (nvt hs)) hl hM ls H locs L P S
    refine lv_icmp_ne F.1 F.2.1 d ht (fun q => absurd ((not_congr (i3_eq hx hy)).mp q) hc) (fun _ => k)
theorem z_icmp_lt {x y : Int} {off : Int} {tgt : Nat} (d : decode f.2.1 pc = .ok (.if_icmp .lt off, 3)) (ht : (pc : Int) + off = (tgt : Int)) (kt : x < y → Wa l g ph f n0 μ Q tgt stk loc n M) (kf : y ≤ x → Wa l g ph f n0 μ Q (pc + 3) stk loc n M) : Wa l g ph f n0 μ Q pc (fi y :: fi x :: stk) loc n M := by
  intro F hn hs hl hM ls H locs L P S
  have hy : N32 y := nvh hs
  have hx : N32 x := nvh (nvt hs)
  by_cases hc : x < y
  · have k := kt hc F hn (nvt (nvt hs)) hl hM ls H locs L P S
    refine lv_icmp_lt F.1 F.2.1 d ht (fun _ => k) (fun q => absurd ((i3_lt hx hy).mpr hc) q)
  · have k := kf (by omega) F hn (nvt (nvt hs)) hl hM ls H locs L P S
    refine lv_icmp_lt F.1 F.2.1 d ht (fun q => absurd ((i3_lt hx hy).mp q) hc) (fun _ => k)
theorem z_icmp_ge {x y : Int} {off : Int} {tgt : Nat} (d : decode f.2.1 pc = .ok (.if_icmp .ge off, 3)) (ht : (pc : Int) + off = (tgt : Int)) (kt : y ≤ x → Wa l g ph f n0 μ Q tgt stk loc n M) (kf : x < y → Wa l g ph f n0 μ Q (pc + 3) stk loc n M) : Wa l g ph f n0 μ Q pc (fi y :: fi x :: stk) loc n M := by
  intro F hn hs hl hM ls H locs L P S
  have hy : N32 y := nvh hs
  have hx : N32 x := nvh (nvt hs)
  by_cases hc : y ≤ x
  · have k := kt hc F hn (nvt (nvt hs)) hl hM ls H locs L P S
    refine lv_icmp_ge F.1 F.2.1 d ht (fun _ => k) (fun q => absurd ((i3_le hy hx).mpr hc) q)
  · have k := kf (by omega) F hn (nvt (nvt hs)) hl hM ls H locs L P S
    refine lv_icmp_ge F.1 F.2.1 d ht (fun q => absurd ((i3_le hy hx).mp q) hc) (fun _ => k)
theorem z_icmp_gt {x y : Int} {off : Int} {tgt : Nat} (d : decode f.2.1 pc = .ok (.if_icmp .gt off, 3)) (ht : (pc : Int) + off = (tgt : Int)) (kt : y < x → Wa l g ph f n0 μ Q tgt stk loc n M) (kf : x ≤ y → Wa l g ph f n0 μ Q (pc + 3) stk loc n M) : Wa l g ph f n0 μ Q pc (fi y :: fi x :: stk) loc n M := by
  intro F hn hs hl hM ls H locs L P S
  have hy : N32 y := nvh hs
  have hx : N32 x := nvh (nvt hs)
  by_cases hc : y < x
  · have k := kt hc F hn (nvt (nvt hs)) hl hM ls H locs L P S
    refine lv_icmp_gt F.1 F.2.1 d ht (fun _ => k) (fun q => absurd ((i3_lt hy hx).mpr hc) q)
  · have k := kf (by omega) F hn (nvt (nvt hs)) hl hM ls H locs L P S
    refine lv_icmp_gt F.1 F.2.1 d ht (fun q => absurd ((i3_lt hy hx).mp q) hc) (fun _ => k)
theorem z_icmp_le {x y : Int} {off : Int} {tgt : Nat} (d : decode f.2.1 pc = .ok (.if_icmp .le off, 3)) (ht : (pc : Int) + off = (tgt : Int)) (kt : x ≤ y → Wa l g ph f n0 μ Q tgt stk loc n M) (kf : y < x → Wa l g ph f n0 μ Q (pc + 3) stk loc n M) : Wa l g ph f n0 μ Q pc (fi y :: fi x :: stk) loc n M := by
  intro F hn hs hl hM ls H locs L P S
  have hy : N32 y := nvh hs
  have hx : N32 x := nvh (nvt hs)
  by_cases hc : x ≤ y
  · have k := kt hc F hn (nvt (nvt hs)) hl hM ls H locs L P S
    refine lv_icmp_le F.1 F.2.1 d ht (fun _ => k) (fun q => absurd ((i3_le hx hy).mpr hc) q)
  · have k := kf (by omega) F hn (nvt (nvt hs)) hl hM ls H locs L P S
    refine lv_icmp_le F.1 F.2.1 d ht (fun q => absurd ((i3_le hx hy).mp q) hc) (fun _ => k)
theorem z_goto {off : Int} {tgt : Nat} (d : decode f.2.1 pc = .ok (.goto off, 3)) (ht : (pc : Int) + off = (tgt : Int)) (k : Wa l g ph f n0 μ Q tgt stk loc n M) : Wa l g ph f n0 μ Q pc (stk) loc n M := by
  intro F hn hs hl hM ls H locs L P S
  exact lv_goto F.1 F.2.1 d ht (k F hn hs hl hM ls H locs L P S)
theorem cmp64_n (x y : Int) : N32 (cmp64 x y) := by unfold cmp64 N32; split <;> (try split) <;> omega
theorem cmp64_lg {x y : Int} (hx : N64 x) (hy : N64 y) : lg_cmp (Int64.ofInt x) (Int64.ofInt y) = Int32.ofInt (cmp64 x y) := by
  unfold lg_cmp cmp64
  by_cases h : x < y
  · rw [if_neg (by show ¬ Int64.ofInt y < Int64.ofInt x; rw [i6_lt hy hx]; omega), if_neg (by rw [i6_eq hx hy]; omega), if_pos h]; rfl
  · by_cases h2 : x = y
    · subst h2
      rw [if_neg (by show ¬ Int64.ofInt x < Int64.ofInt x; rw [i6_lt hx hx]; omega), if_pos rfl, if_neg h, if_pos rfl]; rfl
    · rw [if_pos (by show Int64.ofInt y < Int64.ofInt x; rw [i6_lt hy hx]; omega), if_neg h, if_neg h2]; rfl
theorem z_lcmp {x y : Int} (d : decode f.2.1 pc = .ok (.lcmp, 1)) (k : Wa l g ph f n0 μ Q (pc + 1) (fi (cmp64 x y) :: stk) loc n M) : Wa l g ph f n0 μ Q pc (fl y :: fl x :: stk) loc n M := by
  intro F hn hs hl hM ls H locs L P S
  have hy : N64 y := nvh hs
  have hx : N64 x := nvh (nvt hs)
  refine W.lcmp F.1 F.2.1 d ?_
  rw [cmp64_lg hx hy]
  exact k F hn (nvc (cmp64_n _ _) (nvt (nvt hs))) hl hM ls H locs L P S
theorem z_lcmp_eq {x y : Int} {off : Int} {tgt : Nat} (d : decode f.2.1 pc = .ok (.lcmp, 1)) (d2 : decode f.2.1 (pc + 1) = .ok (.ifCond .eq off, 3)) (ht : ((pc + 1 : Nat) : Int) + off = (tgt : Int)) (kt : x = y → Wa l g ph f n0 μ Q tgt stk loc n M) (kf : x ≠ y → Wa l g ph f n0 μ Q (pc + 1 + 3) stk loc n M) : Wa l g ph f n0 μ Q pc (fl y :: fl x :: stk) loc n M := by
  refine z_lcmp d (z_if_eq d2 ht (fun h => kt ?_) (fun h => kf ?_))
  all_goals (unfold cmp64 at h; split at h <;> (try split at h) <;> omega)
theorem z_lcmp_ne {x y : Int} {off : Int} {tgt : Nat} (d : decode f.2.1 pc = .ok (.lcmp, 1)) (d2 : decode f.2.1 (pc + 1) = .ok (.ifCond .ne off, 3)) (ht : ((pc + 1 : Nat) : Int) + off = (tgt : Int)) (kt : x ≠ y → Wa l g ph f n0 μ Q tgt stk loc n M) (kf : x = y → Wa l g ph f n0 μ Q (pc + 1 + 3) stk loc n M) : Wa l g ph f n0 μ Q pc (fl y :: fl x :: stk) loc n M := by
  refine z_lcmp d (z_if_ne d2 ht (fun h => kt ?_) (fun h => kf ?_))
  all_goals (unfold cmp64 at h; split at h <;> (try split at h) <;> omega)
theorem z_lcmp_lt {x y : Int} {off : Int} {tgt : Nat} (d : decode f.2.1 pc = .ok (.lcmp, 1)) (d2 : decode f.2.1 (pc + 1) = .ok (.ifCond .lt off, 3)) (ht : ((pc + 1 : Nat) : Int) + off = (tgt : Int)) (kt : x < y → Wa l g ph f n0 μ Q tgt stk loc n M) (kf : y ≤ x → Wa l g ph f n0 μ Q (pc + 1 + 3) stk loc n M) : Wa l g ph f n0 μ Q pc (fl y :: fl x :: stk) loc n M := by
  refine z_lcmp d (z_if_lt d2 ht (fun h => kt ?_) (fun h => kf ?_))
  all_goals (unfold cmp64 at h; split at h <;> (try split at h) <;> omega)
theorem z_lcmp_ge {x y : Int} {off : Int} {tgt : Nat} (d : decode f.2.1 pc = .ok (.lcmp, 1)) (d2 : decode f.2.1 (pc + 1) = .ok (.ifCond .ge off, 3)) (ht : ((pc + 1 : Nat) : Int) + off = (tgt : Int)) (kt : y ≤ x → Wa l g ph f n0 μ Q tgt stk loc n M) (kf : x < y → Wa l g ph f n0 μ Q (pc + 1 + 3) stk loc n M) : Wa l g ph f n0 μ Q pc (fl y :: fl x :: stk) loc n M := by
  refine z_lcmp d (z_if_ge d2 ht (fun h => kt ?_) (fun h => kf ?_))
  all_goals (unfold cmp64 at h; split at h <;> (try split at h) <;> omega)
theorem z_lcmp_gt {x y : Int} {off : Int} {tgt : Nat} (d : decode f.2.1 pc = .ok (.lcmp, 1)) (d2 : decode f.2.1 (pc + 1) = .ok (.ifCond .gt off, 3)) (ht : ((pc + 1 : Nat) : Int) + off = (tgt : Int)) (kt : y < x → Wa l g ph f n0 μ Q tgt stk loc n M) (kf : x ≤ y → Wa l g ph f n0 μ Q (pc + 1 + 3) stk loc n M) : Wa l g ph f n0 μ Q pc (fl y :: fl x :: stk) loc n M := by
  refine z_lcmp d (z_if_gt d2 ht (fun h => kt ?_) (fun h => kf ?_))
  all_goals (unfold cmp64 at h; split at h <;> (try split at h) <;> omega)
theorem z_lcmp_le {x y : Int} {off : Int} {tgt : Nat} (d : decode f.2.1 pc = .ok (.lcmp, 1)) (d2 : decode f.2.1 (pc + 1) = .ok (.ifCond .le off, 3)) (ht : ((pc + 1 : Nat) : Int) + off = (tgt : Int)) (kt : x ≤ y → Wa l g ph f n0 μ Q tgt stk loc n M) (kf : y < x → Wa l g ph f n0 μ Q (pc + 1 + 3) stk loc n M) : Wa l g ph f n0 μ Q pc (fl y :: fl x :: stk) loc n M := by
  refine z_lcmp d (z_if_le d2 ht (fun h => kt ?_) (fun h => kf ?_))
  all_goals (unfold cmp64 at h; split at h <;> (try split at h) <;> omega)
theorem z_tableIn {dflt lo hi : Int} {offs : Array Int} {len : Nat} {x : Int} {off : Int} {tgt : Nat} (d : decode f.2.1 pc = .ok (.tableswitch dflt lo hi offs, len)) (h1 : lo ≤ x) (h2 : x ≤ hi) (ho : offs[(x - lo).toNat]? = some off) (ht : (pc : Int) + off = (tgt : Int)) (k : Wa l g ph f n0 μ Q tgt stk loc n M) : Wa l g ph f n0 μ Q pc (fi x :: stk) loc n M := by
  intro F hn hs hl hM ls H locs L P S
  have hx : N32 x := nvh hs
  exact lv_tableIn F.1 F.2.1 d (by rw [i3_toInt hx]; omega) (by rw [i3_toInt hx]; omega) (by rw [i3_toInt hx]; exact ho) ht (k F hn (nvt hs) hl hM ls H locs L P S)
theorem z_tableOut {dflt lo hi : Int} {offs : Array Int} {len : Nat} {x : Int} {tgt : Nat} (d : decode f.2.1 pc = .ok (.tableswitch dflt lo hi offs, len)) (h : x < lo ∨ hi < x) (ht : (pc : Int) + dflt = (tgt : Int)) (k : Wa l g ph f n0 μ Q tgt stk loc n M) : Wa l g ph f n0 μ Q pc (fi x :: stk) loc n M := by
  intro F hn hs hl hM ls H locs L P S
  have hx : N32 x := nvh hs
  exact lv_tableOut F.1 F.2.1 d (by rw [i3_toInt hx]; exact h) ht (k F hn (nvt hs) hl hM ls H locs L P S)
theorem lle_get {a b : List FV} (h : lle a b = true) {j : Nat} {v : FV} (hj : a[j]? = some v) (hk : kn v = true) : b[j]? = some v := by
  induction a generalizing b j with
  | nil => simp at hj
  | cons x xs ih =>
    cases b with
    | nil => simp [lle] at h
    | cons y ys =>
      simp only [lle, Bool.and_eq_true, Bool.or_eq_true, Bool.not_eq_true', decide_eq_true_eq] at h
      cases j with
      | zero =>
        simp only [List.getElem?_cons_zero, Option.some.injEq] at hj ⊢
        subst hj
        rcases h.1 with q | q
        · rw [q] at hk; cases hk
        · exact q.symm
      | succ j => simpa using ih h.2 (by simpa using hj)
theorem z_fewer (loc2 : List FV) (h : ∀ (j : Nat) (v : FV), loc2[j]? = some v → kn v = true → loc[j]? = some v) (k : Wa l g ph f n0 μ Q pc stk loc2 n M) : Wa l g ph f n0 μ Q pc stk loc n M := by
  intro F hn hs hl hM ls H locs L P S
  refine k F hn hs (fun v hv => ?_) hM ls H locs ⟨L.1, L.2.1, fun j v hj hk => L.2.2 j v (h j v hj hk) hk⟩ P S
  obtain ⟨j, hj⟩ := List.getElem?_of_mem hv
  by_cases hk : kn v = true
  · exact hl v (List.mem_of_getElem? (h j v hj hk))
  · match v, hk with
    | .inr (.inr (.inr (.inr _))), _ => trivial
end ZR
