/-! ===== making cells ===== -/
def NL (own : String) (idx ci : Nat) : Prop := ∃ (C : String) (T : u_T) (N : Nat) (ty : Nat → FieldType), vwCl[ci]? = some (C, T, N) ∧ (∀ w ∈ u_ws C T N, w ∈ TBL) ∧ (∀ k, k < N → parseFieldDescriptor (T k).2.2.1 = some (ty k)) ∧ Cond.classLink own idx C ∈ TBL ∧ Cond.instantiable C N ∈ TBL ∧ Cond.initialized C ∈ TBL ∧ (fT.getD ci []).length = N ∧ ∀ k t, (fT.getD ci [])[k]? = some t → fkT t (ty k) ∧ t < 4
theorem MOk_new {M : FMem} {a : Nat} (h : MOk false M) : MOk false (fnew M a) := by
  refine ⟨fun id k => ?_, fun h => by cases h⟩
  unfold fnew
  by_cases e : id = a
  · subst e
    rw [if_pos rfl]
    by_cases e3 : fty id k = 3
    · rw [e3]; trivial
    · rw [if_neg e3]
      generalize fty id k = t at e3
      match t, e3 with
      | 0, _ => exact n32_0
      | 1, _ => exact Or.inl rfl
      | 2, _ => exact n32_64 n32_0
      | t + 3, _ => trivial
  · rw [if_neg e]; exact h.1 id k
section ZN
variable {l : Launch} {g : Cx} {f : FI} {n0 : Nat} {μ : Mc} {Q : State → Prop} {pc : Nat} {stk : List FV} {loc : List FV} {n : Nat} {M : FMem}
theorem fss_succ {s : FSh} (hs : fSH[n]? = some s) : fss (n + 1) = fss n + fslots s := by
  obtain ⟨hl, he⟩ := List.getElem?_eq_some_iff.mp hs
  unfold fss
  rw [List.take_succ_eq_append_getElem hl, he]
  simp
theorem z_new {idx ci : Nat} (hN : NL f.1.cls idx ci) (hs : fSH[n]? = some (.inl ci)) (h93 : n ≤ 93) (hcl : n - n0 + 1 ≤ f.2.2.2.2.cells) (hsl : fss (n + 1) - fss n0 ≤ f.2.2.2.2.slots) (d : decode f.2.1 pc = .ok (.new idx, 3)) (k : ∀ M2, M2 = fnew M n → Wa l g false f n0 μ Q (pc + 3) (fr n :: stk) loc (n + 1) M2) : Wa l g false f n0 μ Q pc stk loc n M := by
  intro F hn hsk hl hM ls H locs L P S
  refine W_size fun hle => ?_
  have hsz := fsize F hn h93 P S hle
  obtain ⟨C, T, N, ty, hc, hin, hty, hclk, hins, hini, hlen, hft⟩ := hN
  have hKn := F.2.2.2.2.2.2.2.2.1.1 ci _ hc
  have hm := fss_mono hn
  have hsu := fss_succ hs
  have hfs : fslots (.inl ci) = N := hlen
  rw [hfs] at hsu
  refine W.newcK F.1 F.2.1 F.2.2.2.1 (F.2.2.2.2.1 _ hclk) (F.2.2.2.2.1 _ hins) (F.2.2.2.2.1 _ hini) rfl d hcl (by omega) hKn.2.1 hsz fun H1 kC hkC e1 z1 o1 => ?_
  have K := k _ rfl F (by omega) (nvc trivial hsk) hl (MOk_new hM) ls H1 locs L ?_ ⟨by have := S.1; omega, fun x h1 h2 => (o1 x (by have := S.1; omega)).trans (S.2.1 x h1 h2), S.2.2⟩
  · rw [show n + 1 - n0 = n - n0 + 1 by omega, show fss (n + 1) - fss n0 = fss n - fss n0 + N by omega] at K
    exact K
  · rw [← fws_succ (M := M) hs (fun b j hb => by simp [fnew, Nat.ne_of_lt hb])]
    have hk : ∀ (k : Nat) (x : Nat × va_E), (fws g n M)[k]? = some x → H1[x.1]? = H[x.1]? := fun k x hx => o1 x.1 (by have := (P k x hx).lt; omega)
    refine (P.kept hk).app (fun k x hx => ?_)
    have hz : k < 1 := (List.getElem?_eq_some_iff.mp hx).1
    rw [show k = 0 by omega] at hx
    simp only [List.getElem?_cons_zero, Option.some.injEq] at hx
    subst hx
    refine ⟨_, hc, (u_born ty F.2.2.2.2.1 hin hKn hkC e1 hty).to (fun j hj => ?_)⟩
    have hj' : j < (fT.getD ci []).length := by rw [hlen]; exact hj
    obtain ⟨t, ht⟩ : ∃ t, (fT.getD ci [])[j]? = some t := ⟨_, List.getElem?_eq_getElem hj'⟩
    obtain ⟨hkt, ht4⟩ := hft j t ht
    unfold vp_V
    rw [List.getD_eq_getElem?_getD, List.getElem?_mapIdx, ht]
    have hfty := fty_obj hs ht
    simp only [Option.map_some, Option.getD_some, fnew, if_true, hfty]
    match t, hkt, ht4 with
    | 0, hkt, _ => rw [show ty j = .int from hkt, if_neg (by decide)]; rfl
    | 1, hkt, _ => rw [show ty j = .boolean from hkt, if_neg (by decide)]; rfl
    | 2, hkt, _ => rw [show ty j = .long from hkt, if_neg (by decide)]; rfl
    | 3, hkt, _ =>
      rw [if_pos rfl]
      rcases (show (∃ C, ty j = .object C) ∨ ∃ e, ty j = .array e from hkt) with ⟨C, e⟩ | ⟨e, e'⟩
      · rw [e]; rfl
      · rw [e']; rfl
theorem z_newai {len : Nat} {lz : Int} (hac : Cond.arrayClass .int ∈ TBL) (hs : fSH[n]? = some (.inr (0, len))) (hlz : (len : Int) = lz) (h93 : n ≤ 93) (hlen : len ≤ 1000) (hcl : n - n0 + 1 ≤ f.2.2.2.2.cells) (hsl : fss (n + 1) - fss n0 ≤ f.2.2.2.2.slots) (d : decode f.2.1 pc = .ok (.newarray .int, 2)) (k : ∀ M2, M2 = fnew M n → Wa l g false f n0 μ Q (pc + 2) (fr n :: stk) loc (n + 1) M2) : Wa l g false f n0 μ Q pc (fi lz :: stk) loc n M := by
  subst hlz
  intro F hn hsk hl hM ls H locs L P S
  refine W_size fun hle => ?_
  have hsz := fsize F hn h93 P S hle
  have hm := fss_mono hn
  have hsu := fss_succ hs
  have hfs : fslots (.inr (0, len)) = len := rfl
  rw [hfs] at hsu
  have h32 : N32 (len : Int) := by unfold N32; omega
  refine va_newaK F.1 F.2.1 (atype := .int) (F.2.2.2.2.1 _ hac) rfl d rfl (N := len) (by rw [show (0 : Int32) = Int32.ofInt 0 from rfl, i3_lt h32 n32_0]; omega) (by rw [i3_clamp h32]; rfl) (Nat.le_trans (Nat.mul_le_mul hlen (show componentBytes .int ≤ 8 by decide)) (by decide)) hcl (by omega) hsz fun H1 cA e1 z1 o1 hAr hNm => ?_
  have hcA : cA = g.2.1 0 := by
    have h1 := (F.2.2.2.2.2.2.2.2.1.2 0 (g.2.1 0, .int) rfl).2
    exact Option.some.inj (hNm.symm.trans h1)
  have K := k _ rfl F (by omega) (nvc trivial (nvt hsk)) hl (MOk_new hM) ls H1 locs L ?_ ⟨by have := S.1; omega, fun x h1 h2 => (o1 x (by have := S.1; omega)).trans (S.2.1 x h1 h2), S.2.2⟩
  · rw [show n + 1 - n0 = n - n0 + 1 by omega, show fss (n + 1) - fss n0 = fss n - fss n0 + len by omega] at K
    exact K
  · rw [← fws_succ (M := M) hs (fun b j hb => by simp [fnew, Nat.ne_of_lt hb])]
    have hk : ∀ (k : Nat) (x : Nat × va_E), (fws g n M)[k]? = some x → H1[x.1]? = H[x.1]? := fun k x hx => o1 x.1 (by have := (P k x hx).lt; omega)
    refine (P.kept hk).app (fun k x hx => ?_)
    have hz : k < 1 := (List.getElem?_eq_some_iff.mp hx).1
    rw [show k = 0 by omega] at hx
    simp only [List.getElem?_cons_zero, Option.some.injEq] at hx
    subst hx
    show H1[g.2.2.1 + n]? = some (vp_cell _ _)
    rw [e1, hcA]
    have h0 : ∀ j : Int, fnew M n n j = 0 := fun j => by simp [fnew, fty_arr hs]
    simp only [h0]
    rfl
theorem z_newaz {len : Nat} {lz : Int} (hac : Cond.arrayClass .boolean ∈ TBL) (hs : fSH[n]? = some (.inr (1, len))) (hlz : (len : Int) = lz) (h93 : n ≤ 93) (hlen : len ≤ 1000) (hcl : n - n0 + 1 ≤ f.2.2.2.2.cells) (hsl : fss (n + 1) - fss n0 ≤ f.2.2.2.2.slots) (d : decode f.2.1 pc = .ok (.newarray .boolean, 2)) (k : ∀ M2, M2 = fnew M n → Wa l g false f n0 μ Q (pc + 2) (fr n :: stk) loc (n + 1) M2) : Wa l g false f n0 μ Q pc (fi lz :: stk) loc n M := by
  subst hlz
  intro F hn hsk hl hM ls H locs L P S
  refine W_size fun hle => ?_
  have hsz := fsize F hn h93 P S hle
  have hm := fss_mono hn
  have hsu := fss_succ hs
  have hfs : fslots (.inr (1, len)) = len := rfl
  rw [hfs] at hsu
  have h32 : N32 (len : Int) := by unfold N32; omega
  refine va_newaK F.1 F.2.1 (atype := .boolean) (F.2.2.2.2.1 _ hac) rfl d rfl (N := len) (by rw [show (0 : Int32) = Int32.ofInt 0 from rfl, i3_lt h32 n32_0]; omega) (by rw [i3_clamp h32]; rfl) (Nat.le_trans (Nat.mul_le_mul hlen (show componentBytes .boolean ≤ 8 by decide)) (by decide)) hcl (by omega) hsz fun H1 cA e1 z1 o1 hAr hNm => ?_
  have hcA : cA = g.2.1 1 := by
    have h1 := (F.2.2.2.2.2.2.2.2.1.2 1 (g.2.1 1, .boolean) rfl).2
    exact Option.some.inj (hNm.symm.trans h1)
  have K := k _ rfl F (by omega) (nvc trivial (nvt hsk)) hl (MOk_new hM) ls H1 locs L ?_ ⟨by have := S.1; omega, fun x h1 h2 => (o1 x (by have := S.1; omega)).trans (S.2.1 x h1 h2), S.2.2⟩
  · rw [show n + 1 - n0 = n - n0 + 1 by omega, show fss (n + 1) - fss n0 = fss n - fss n0 + len by omega] at K
    exact K
  · rw [← fws_succ (M := M) hs (fun b j hb => by simp [fnew, Nat.ne_of_lt hb])]
    have hk : ∀ (k : Nat) (x : Nat × va_E), (fws g n M)[k]? = some x → H1[x.1]? = H[x.1]? := fun k x hx => o1 x.1 (by have := (P k x hx).lt; omega)
    refine (P.kept hk).app (fun k x hx => ?_)
    have hz : k < 1 := (List.getElem?_eq_some_iff.mp hx).1
    rw [show k = 0 by omega] at hx
    simp only [List.getElem?_cons_zero, Option.some.injEq] at hx
    subst hx
    show H1[g.2.2.1 + n]? = some (vp_cell _ _)
    rw [e1, hcA]
    have h0 : ∀ j : Int, fnew M n n j = 0 := fun j => by simp [fnew, fty_arr hs]
    simp only [h0]
    rfl
theorem z_newal {len : Nat} {lz : Int} (hac : Cond.arrayClass .long ∈ TBL) (hs : fSH[n]? = some (.inr (2, len))) (hlz : (len : Int) = lz) (h93 : n ≤ 93) (hlen : len ≤ 1000) (hcl : n - n0 + 1 ≤ f.2.2.2.2.cells) (hsl : fss (n + 1) - fss n0 ≤ f.2.2.2.2.slots) (d : decode f.2.1 pc = .ok (.newarray .long, 2)) (k : ∀ M2, M2 = fnew M n → Wa l g false f n0 μ Q (pc + 2) (fr n :: stk) loc (n + 1) M2) : Wa l g false f n0 μ Q pc (fi lz :: stk) loc n M := by
  subst hlz
  intro F hn hsk hl hM ls H locs L P S
  refine W_size fun hle => ?_
  have hsz := fsize F hn h93 P S hle
  have hm := fss_mono hn
  have hsu := fss_succ hs
  have hfs : fslots (.inr (2, len)) = len := rfl
  rw [hfs] at hsu
  have h32 : N32 (len : Int) := by unfold N32; omega
  refine va_newaK F.1 F.2.1 (atype := .long) (F.2.2.2.2.1 _ hac) rfl d rfl (N := len) (by rw [show (0 : Int32) = Int32.ofInt 0 from rfl, i3_lt h32 n32_0]; omega) (by rw [i3_clamp h32]; rfl) (Nat.le_trans (Nat.mul_le_mul hlen (show componentBytes .long ≤ 8 by decide)) (by decide)) hcl (by omega) hsz fun H1 cA e1 z1 o1 hAr hNm => ?_
  have hcA : cA = g.2.1 2 := by
    have h1 := (F.2.2.2.2.2.2.2.2.1.2 2 (g.2.1 2, .long) rfl).2
    exact Option.some.inj (hNm.symm.trans h1)
  have K := k _ rfl F (by omega) (nvc trivial (nvt hsk)) hl (MOk_new hM) ls H1 locs L ?_ ⟨by have := S.1; omega, fun x h1 h2 => (o1 x (by have := S.1; omega)).trans (S.2.1 x h1 h2), S.2.2⟩
  · rw [show n + 1 - n0 = n - n0 + 1 by omega, show fss (n + 1) - fss n0 = fss n - fss n0 + len by omega] at K
    exact K
  · rw [← fws_succ (M := M) hs (fun b j hb => by simp [fnew, Nat.ne_of_lt hb])]
    have hk : ∀ (k : Nat) (x : Nat × va_E), (fws g n M)[k]? = some x → H1[x.1]? = H[x.1]? := fun k x hx => o1 x.1 (by have := (P k x hx).lt; omega)
    refine (P.kept hk).app (fun k x hx => ?_)
    have hz : k < 1 := (List.getElem?_eq_some_iff.mp hx).1
    rw [show k = 0 by omega] at hx
    simp only [List.getElem?_cons_zero, Option.some.injEq] at hx
    subst hx
    show H1[g.2.2.1 + n]? = some (vp_cell _ _)
    rw [e1, hcA]
    have h0 : ∀ j : Int, fnew M n n j = 0 := fun j => by simp [fnew, fty_arr hs]
    simp only [h0]
    rfl
end ZN
