/-! ===== what the constructors leave behind is coupled ===== -/
def XP (M M2 : FMem) : Prop := (∀ j, M2 0 j = if j = 10 then 0 else if j = 9 then 0 else if j = 8 then 0 else if j = 7 then 51 else if j = 6 then 42 else if j = 5 then 37 else if j = 4 then 34 else if j = 3 then 20 else if j = 2 then 17 else if j = 1 then 14 else if j = 0 then 1 else M 0 j) ∧ (∀ j, M2 1 j = if j = 13 then 0 else if j = 12 then 13 else if j = 11 then 0 else if j = 10 then 12 else if j = 9 then 11 else if j = 8 then 10 else if j = 7 then 9 else if j = 6 then 8 else if j = 5 then 7 else if j = 4 then 6 else if j = 3 then 5 else if j = 2 then 4 else if j = 1 then 3 else if j = 0 then 2 else if fty 1 j = 3 then -1 else 0) ∧ (∀ b j, 2 ≤ b → b < 14 → M2 b j = 0) ∧ (∀ j, M2 14 j = if j = 1 then 16 else if j = 0 then 15 else if fty 14 j = 3 then -1 else 0) ∧ (∀ b j, 15 ≤ b → b < 17 → M2 b j = 0) ∧ (∀ j, M2 17 j = if j = 6 then 0 else if j = 5 then 19 else if j = 4 then 0 else if j = 3 then (-1) else if j = 2 then 0 else if j = 1 then 0 else if j = 0 then 18 else if fty 17 j = 3 then -1 else 0) ∧ (∀ b j, 18 ≤ b → b < 20 → M2 b j = 0) ∧ (∀ j, M2 20 j = if j = 14 then 33 else if j = 13 then 32 else if j = 12 then 31 else if j = 11 then 30 else if j = 10 then 29 else if j = 9 then 28 else if j = 8 then 0 else if j = 7 then 0 else if j = 6 then 27 else if j = 5 then 26 else if j = 4 then 25 else if j = 3 then 24 else if j = 2 then 23 else if j = 1 then 22 else if j = 0 then 21 else if fty 20 j = 3 then -1 else 0) ∧ (∀ b j, 21 ≤ b → b < 34 → M2 b j = 0) ∧ (∀ j, M2 34 j = if j = 4 then (-1) else if j = 3 then (-1) else if j = 2 then (-1) else if j = 1 then 36 else if j = 0 then 35 else if fty 34 j = 3 then -1 else 0) ∧ (∀ b j, 35 ≤ b → b < 37 → M2 b j = 0) ∧ (∀ j, M2 37 j = if j = 4 then 0 else if j = 3 then 41 else if j = 2 then 40 else if j = 1 then 39 else if j = 0 then 38 else if fty 37 j = 3 then -1 else 0) ∧ (∀ b j, 38 ≤ b → b < 42 → M2 b j = if b = 38 ∧ 0 ≤ j ∧ j < 10 then (-1) else 0) ∧ (∀ j, M2 42 j = if j = 11 then 0 else if j = 10 then 50 else if j = 9 then 49 else if j = 8 then 48 else if j = 7 then 0 else if j = 6 then 31 else if j = 5 then 31 else if j = 4 then 47 else if j = 3 then 46 else if j = 2 then 45 else if j = 1 then 44 else if j = 0 then 43 else if fty 42 j = 3 then -1 else 0) ∧ (∀ b j, 43 ≤ b → b < 51 → M2 b j = 0) ∧ (∀ j, M2 51 j = if j = 11 then 0 else if j = 10 then 59 else if j = 9 then 58 else if j = 8 then 57 else if j = 7 then 0 else if j = 6 then 31 else if j = 5 then 31 else if j = 4 then 56 else if j = 3 then 55 else if j = 2 then 54 else if j = 1 then 53 else if j = 0 then 52 else if fty 51 j = 3 then -1 else 0) ∧ (∀ b j, 52 ≤ b → b < 60 → M2 b j = 0)
def MP (M M2 : FMem) : Prop := Mk M M2 60 61 ∧ (∀ j, M2 60 j = if j = 18 then 31 else if j = 17 then 31 else if j = 53 then 92 else if j = 50 then 91 else if j = 49 then 90 else if j = 48 then 89 else if j = 47 then 88 else if j = 46 then 87 else if j = 44 then (-1) else if j = 43 then (-1) else if j = 42 then (-1) else if j = 41 then 86 else if j = 38 then (-1) else if j = 34 then 85 else if j = 33 then 84 else if j = 32 then 83 else if j = 31 then 82 else if j = 26 then 81 else if j = 25 then 80 else if j = 24 then 79 else if j = 23 then 78 else if j = 22 then 77 else if j = 19 then 76 else if j = 16 then 75 else if j = 15 then 74 else if j = 14 then 73 else if j = 13 then 72 else if j = 11 then 71 else if j = 10 then 70 else if j = 9 then 69 else if j = 8 then 68 else if j = 7 then 67 else if j = 6 then 66 else if j = 5 then 65 else if j = 4 then 64 else if j = 3 then 63 else if j = 2 then 62 else if j = 1 then 61 else M 60 j) ∧ (∀ b j, 61 ≤ b → b < 93 → M2 b j = if b = 74 ∧ 0 ≤ j ∧ j < 10 then (-1) else 0)
theorem lw_low {M2 M3 Mn : FMem} (hn : Mn = fnew M2 60) (h8 : MP Mn M3) {b : Nat} (hb : b < 60) (j : Int) : M3 b j = M2 b j := by
  rw [h8.1 b j (by omega) (by omega), hn, fnew_o (by omega)]
theorem lw_refs {M1 M2 M3 Mn : FMem} (h1 : XP M1 M2) (hn : Mn = fnew M2 60) (h8 : MP Mn M3) : ∀ q ∈ fRefs, M3 q.1 q.2.1 = q.2.2 := by
  have low := fun (b : Nat) (hb : b < 60) (j : Int) => lw_low hn h8 hb j
  obtain ⟨x0, x1, y1, x14, y14, x17, y17, x20, y20, x34, y34, x37, y37, x42, y42, x51, y51⟩ := h1
  obtain ⟨mk, x60, y60⟩ := h8
  unfold fRefs
  refine List.forall_mem_cons.mpr ⟨((low 0 (by decide) 0).trans (x0 0)).trans rfl, List.forall_mem_cons.mpr ⟨((low 0 (by decide) 1).trans (x0 1)).trans rfl, List.forall_mem_cons.mpr ⟨((low 0 (by decide) 2).trans (x0 2)).trans rfl, List.forall_mem_cons.mpr ⟨((low 0 (by decide) 3).trans (x0 3)).trans rfl, List.forall_mem_cons.mpr ⟨((low 0 (by decide) 4).trans (x0 4)).trans rfl, List.forall_mem_cons.mpr ⟨((low 0 (by decide) 5).trans (x0 5)).trans rfl, List.forall_mem_cons.mpr ⟨((low 1 (by decide) 0).trans (x1 0)).trans rfl, List.forall_mem_cons.mpr ⟨((low 1 (by decide) 1).trans (x1 1)).trans rfl, List.forall_mem_cons.mpr ⟨((low 1 (by decide) 2).trans (x1 2)).trans rfl, List.forall_mem_cons.mpr ⟨((low 1 (by decide) 3).trans (x1 3)).trans rfl, List.forall_mem_cons.mpr ⟨((low 1 (by decide) 4).trans (x1 4)).trans rfl, List.forall_mem_cons.mpr ⟨((low 1 (by decide) 5).trans (x1 5)).trans rfl, List.forall_mem_cons.mpr ⟨((low 1 (by decide) 6).trans (x1 6)).trans rfl, List.forall_mem_cons.mpr ⟨((low 1 (by decide) 7).trans (x1 7)).trans rfl, List.forall_mem_cons.mpr ⟨((low 1 (by decide) 8).trans (x1 8)).trans rfl, List.forall_mem_cons.mpr ⟨((low 1 (by decide) 9).trans (x1 9)).trans rfl, List.forall_mem_cons.mpr ⟨((low 1 (by decide) 10).trans (x1 10)).trans rfl, List.forall_mem_cons.mpr ⟨((low 1 (by decide) 12).trans (x1 12)).trans rfl, List.forall_mem_cons.mpr ⟨((low 14 (by decide) 0).trans (x14 0)).trans rfl, List.forall_mem_cons.mpr ⟨((low 14 (by decide) 1).trans (x14 1)).trans rfl, List.forall_mem_cons.mpr ⟨((low 17 (by decide) 0).trans (x17 0)).trans rfl, List.forall_mem_cons.mpr ⟨((low 17 (by decide) 5).trans (x17 5)).trans rfl, List.forall_mem_cons.mpr ⟨((low 20 (by decide) 0).trans (x20 0)).trans rfl, List.forall_mem_cons.mpr ⟨((low 20 (by decide) 1).trans (x20 1)).trans rfl, List.forall_mem_cons.mpr ⟨((low 20 (by decide) 2).trans (x20 2)).trans rfl, List.forall_mem_cons.mpr ⟨((low 20 (by decide) 3).trans (x20 3)).trans rfl, List.forall_mem_cons.mpr ⟨((low 20 (by decide) 4).trans (x20 4)).trans rfl, List.forall_mem_cons.mpr ⟨((low 20 (by decide) 5).trans (x20 5)).trans rfl, List.forall_mem_cons.mpr ⟨((low 20 (by decide) 6).trans (x20 6)).trans rfl, List.forall_mem_cons.mpr ⟨((low 20 (by decide) 9).trans (x20 9)).trans rfl, List.forall_mem_cons.mpr ⟨((low 20 (by decide) 10).trans (x20 10)).trans rfl, List.forall_mem_cons.mpr ⟨((low 20 (by decide) 11).trans (x20 11)).trans rfl, List.forall_mem_cons.mpr ⟨((low 20 (by decide) 12).trans (x20 12)).trans rfl, List.forall_mem_cons.mpr ⟨((low 20 (by decide) 13).trans (x20 13)).trans rfl, List.forall_mem_cons.mpr ⟨((low 20 (by decide) 14).trans (x20 14)).trans rfl, List.forall_mem_cons.mpr ⟨((low 34 (by decide) 0).trans (x34 0)).trans rfl, List.forall_mem_cons.mpr ⟨((low 34 (by decide) 1).trans (x34 1)).trans rfl, List.forall_mem_cons.mpr ⟨((low 37 (by decide) 0).trans (x37 0)).trans rfl, List.forall_mem_cons.mpr ⟨((low 37 (by decide) 1).trans (x37 1)).trans rfl, List.forall_mem_cons.mpr ⟨((low 37 (by decide) 2).trans (x37 2)).trans rfl, List.forall_mem_cons.mpr ⟨((low 37 (by decide) 3).trans (x37 3)).trans rfl, List.forall_mem_cons.mpr ⟨((low 42 (by decide) 0).trans (x42 0)).trans rfl, List.forall_mem_cons.mpr ⟨((low 42 (by decide) 1).trans (x42 1)).trans rfl, List.forall_mem_cons.mpr ⟨((low 42 (by decide) 2).trans (x42 2)).trans rfl, List.forall_mem_cons.mpr ⟨((low 42 (by decide) 3).trans (x42 3)).trans rfl, List.forall_mem_cons.mpr ⟨((low 42 (by decide) 4).trans (x42 4)).trans rfl, List.forall_mem_cons.mpr ⟨((low 42 (by decide) 8).trans (x42 8)).trans rfl, List.forall_mem_cons.mpr ⟨((low 42 (by decide) 9).trans (x42 9)).trans rfl, List.forall_mem_cons.mpr ⟨((low 42 (by decide) 10).trans (x42 10)).trans rfl, List.forall_mem_cons.mpr ⟨((low 51 (by decide) 0).trans (x51 0)).trans rfl, List.forall_mem_cons.mpr ⟨((low 51 (by decide) 1).trans (x51 1)).trans rfl, List.forall_mem_cons.mpr ⟨((low 51 (by decide) 2).trans (x51 2)).trans rfl, List.forall_mem_cons.mpr ⟨((low 51 (by decide) 3).trans (x51 3)).trans rfl, List.forall_mem_cons.mpr ⟨((low 51 (by decide) 4).trans (x51 4)).trans rfl, List.forall_mem_cons.mpr ⟨((low 51 (by decide) 8).trans (x51 8)).trans rfl, List.forall_mem_cons.mpr ⟨((low 51 (by decide) 9).trans (x51 9)).trans rfl, List.forall_mem_cons.mpr ⟨((low 51 (by decide) 10).trans (x51 10)).trans rfl, List.forall_mem_cons.mpr ⟨(x60 1).trans rfl, List.forall_mem_cons.mpr ⟨(x60 2).trans rfl, List.forall_mem_cons.mpr ⟨(x60 3).trans rfl, List.forall_mem_cons.mpr ⟨(x60 4).trans rfl, List.forall_mem_cons.mpr ⟨(x60 5).trans rfl, List.forall_mem_cons.mpr ⟨(x60 6).trans rfl, List.forall_mem_cons.mpr ⟨(x60 7).trans rfl, List.forall_mem_cons.mpr ⟨(x60 8).trans rfl, List.forall_mem_cons.mpr ⟨(x60 9).trans rfl, List.forall_mem_cons.mpr ⟨(x60 10).trans rfl, List.forall_mem_cons.mpr ⟨(x60 11).trans rfl, List.forall_mem_cons.mpr ⟨(x60 13).trans rfl, List.forall_mem_cons.mpr ⟨(x60 14).trans rfl, List.forall_mem_cons.mpr ⟨(x60 15).trans rfl, List.forall_mem_cons.mpr ⟨(x60 16).trans rfl, List.forall_mem_cons.mpr ⟨(x60 19).trans rfl, List.forall_mem_cons.mpr ⟨(x60 22).trans rfl, List.forall_mem_cons.mpr ⟨(x60 23).trans rfl, List.forall_mem_cons.mpr ⟨(x60 24).trans rfl, List.forall_mem_cons.mpr ⟨(x60 25).trans rfl, List.forall_mem_cons.mpr ⟨(x60 26).trans rfl, List.forall_mem_cons.mpr ⟨(x60 31).trans rfl, List.forall_mem_cons.mpr ⟨(x60 32).trans rfl, List.forall_mem_cons.mpr ⟨(x60 33).trans rfl, List.forall_mem_cons.mpr ⟨(x60 34).trans rfl, List.forall_mem_cons.mpr ⟨(x60 41).trans rfl, List.forall_mem_cons.mpr ⟨(x60 46).trans rfl, List.forall_mem_cons.mpr ⟨(x60 47).trans rfl, List.forall_mem_cons.mpr ⟨(x60 48).trans rfl, List.forall_mem_cons.mpr ⟨(x60 49).trans rfl, List.forall_mem_cons.mpr ⟨(x60 50).trans rfl, List.forall_mem_cons.mpr ⟨(x60 53).trans rfl, fun _ h => absurd h List.not_mem_nil⟩⟩⟩⟩⟩⟩⟩⟩⟩⟩⟩⟩⟩⟩⟩⟩⟩⟩⟩⟩⟩⟩⟩⟩⟩⟩⟩⟩⟩⟩⟩⟩⟩⟩⟩⟩⟩⟩⟩⟩⟩⟩⟩⟩⟩⟩⟩⟩⟩⟩⟩⟩⟩⟩⟩⟩⟩⟩⟩⟩⟩⟩⟩⟩⟩⟩⟩⟩⟩⟩⟩⟩⟩⟩⟩⟩⟩⟩⟩⟩⟩⟩⟩⟩⟩⟩⟩⟩⟩
theorem Cp_start {M1 M2 M3 Mn : FMem} (h1 : XP M1 M2) (hn : Mn = fnew M2 60) (h8 : MP Mn M3) : Cp M3 := by
  have low := fun (b : Nat) (hb : b < 60) (j : Int) => lw_low hn h8 hb j
  obtain ⟨x0, x1, y1, x14, y14, x17, y17, x20, y20, x34, y34, x37, y37, x42, y42, x51, y51⟩ := h1
  obtain ⟨mk, x60, y60⟩ := h8
  have az : ∀ b, ((2 ≤ b ∧ b < 14) ∨ (15 ≤ b ∧ b < 17) ∨ b = 18 ∨ (43 ≤ b ∧ b < 51)) → ∀ j, M3 b j = 0 := by
    intro b hb j
    rw [low b (by omega) j]
    rcases hb with z | z | z | z
    · exact y1 b j (by omega) (by omega)
    · exact y14 b j (by omega) (by omega)
    · exact y17 b j (by omega) (by omega)
    · exact y42 b j (by omega) (by omega)
  have bz : ∀ b, 61 ≤ b → b < 93 → b ≠ 74 → ∀ j, M3 b j = 0 := fun b p q z j => by rw [y60 b j p q, if_neg (by omega)]
  have f60 : ∀ j, fty 60 j ≠ 3 → Mn 60 j = 0 := fun j h => by rw [hn]; unfold fnew; rw [if_pos rfl, if_neg h]
  have fz : ∀ a b, (((2 ≤ a ∧ a < 14) ∨ (15 ≤ a ∧ a < 17) ∨ a = 18 ∨ (43 ≤ a ∧ a < 51)) ∧ 61 ≤ b ∧ b < 93 ∧ b ≠ 74) → M3 a = M3 b := fun a b h => funext fun j => by rw [az a h.1 j, bz b h.2.1 h.2.2.1 h.2.2.2 j]
  have red : M3 38 = M3 74 := funext fun j => by
    rw [low 38 (by decide) j, y37 38 j (by decide) (by decide), y60 74 j (by decide) (by decide)]
    simp
  have k0 : M3 60 0 = 0 := by rw [x60]; exact f60 0 (by decide +kernel)
  have k12 : M3 60 12 = 0 := by rw [x60]; exact f60 12 (by decide +kernel)
  have k20 : M3 60 20 = 0 := by rw [x60]; exact f60 20 (by decide +kernel)
  have k21 : M3 60 21 = 0 := by rw [x60]; exact f60 21 (by decide +kernel)
  have k35 : M3 60 35 = 0 := by rw [x60]; exact f60 35 (by decide +kernel)
  have k45 : M3 60 45 = 0 := by rw [x60]; exact f60 45 (by decide +kernel)
  have k54 : M3 60 54 = 0 := by rw [x60]; exact f60 54 (by decide +kernel)
  have k55 : M3 60 55 = 0 := by rw [x60]; exact f60 55 (by decide +kernel)
  have k56 : M3 60 56 = 0 := by rw [x60]; exact f60 56 (by decide +kernel)
  have k17 : M3 60 17 = 31 := (x60 17).trans rfl
  have k18 : M3 60 18 = 31 := (x60 18).trans rfl
  have k38 : M3 60 38 = -1 := (x60 38).trans rfl
  have k42 : M3 60 42 = -1 := (x60 42).trans rfl
  have k43 : M3 60 43 = -1 := (x60 43).trans rfl
  have k44 : M3 60 44 = -1 := (x60 44).trans rfl
  have v13 : M3 1 13 = 0 := ((low 1 (by decide) 13).trans (x1 13)).trans rfl
  have v11 : M3 1 11 = 0 := ((low 1 (by decide) 11).trans (x1 11)).trans rfl
  have t1 : M3 17 1 = 0 := ((low 17 (by decide) 1).trans (x17 1)).trans rfl
  have t3 : M3 17 3 = -1 := ((low 17 (by decide) 3).trans (x17 3)).trans rfl
  have r5 : M3 42 5 = 31 := ((low 42 (by decide) 5).trans (x42 5)).trans rfl
  have r6 : M3 42 6 = 31 := ((low 42 (by decide) 6).trans (x42 6)).trans rfl
  have r7 : M3 42 7 = 0 := ((low 42 (by decide) 7).trans (x42 7)).trans rfl
  have r11 : M3 42 11 = 0 := ((low 42 (by decide) 11).trans (x42 11)).trans rfl
  have o6 : M3 0 6 = 42 := ((low 0 (by decide) 6).trans (x0 6)).trans rfl
  have o7 : M3 0 7 = 51 := ((low 0 (by decide) 7).trans (x0 7)).trans rfl
  have o8 : M3 0 8 = 0 := ((low 0 (by decide) 8).trans (x0 8)).trans rfl
  have o9 : M3 0 9 = 0 := ((low 0 (by decide) 9).trans (x0 9)).trans rfl
  have o10 : M3 0 10 = 0 := ((low 0 (by decide) 10).trans (x0 10)).trans rfl
  refine ⟨⟨⟨fz 2 61 (by decide), fz 3 62 (by decide), fz 4 63 (by decide), fz 5 64 (by decide), fz 6 65 (by decide), fz 7 66 (by decide), fz 8 67 (by decide), fz 9 68 (by decide)⟩, ⟨fz 10 69 (by decide), fz 11 70 (by decide), fz 12 71 (by decide)⟩, ⟨fz 15 72 (by decide), fz 16 73 (by decide), red⟩, fz 18 85 (by decide), by rw [v13, k0], by rw [v11, k12], by rw [t1, k35], by rw [t3, k38]⟩, ⟨by rw [v13]; decide, fun i p q => by rw [v13] at q; omega, fun h p q => ?_, fun h p q => ?_⟩, ⟨fun j p => ⟨az 10 (by decide) j, az 11 (by decide) j⟩, by rw [v11]; decide, fun k p q => by rw [v11] at q; omega⟩, ⟨42, Or.inl rfl, ⟨o6, o7⟩, ?_, ?_⟩, ?_, ⟨by rw [t1]; decide, fun i p q => by rw [t1] at q; omega⟩, ⟨k42, k43, k44, k45⟩⟩
  · rw [az 15 (by decide), az 16 (by decide)]; decide
  · rw [low 38 (by decide) h, y37 38 h (by decide) (by decide)]
    split <;> decide
  · unfold RulX
    refine ⟨fun s _ _ => ?_, fun s _ _ => ?_, by rw [r5, r6]; decide, by rw [r7]; decide, by rw [r11]; decide, fun k p q => by rw [r11] at q; omega⟩
    · rw [az (42 + 1) (by decide), az (42 + 2) (by decide), az (42 + 3) (by decide), az (42 + 4) (by decide)]; decide
    · rw [az (42 + 5) (by decide)]; decide
  · refine ⟨fun c i p1 p2 p3 p4 => ?_, ⟨r5.trans k17.symm, r6.trans k18.symm, r7.trans k20.symm, r11.trans k21.symm⟩, fun c i p1 p2 p3 p4 => ?_⟩
    · show M3 (42 + c) i = _
      rw [az (42 + c) (by omega)]
      unfold rm
      rw [if_neg (by omega), if_neg (show ¬ c = 6 by omega), if_neg (show ¬ c = 7 by omega), if_neg (show ¬ c = 8 by omega), bz 76 (by decide) (by decide) (by decide), bz 75 (by decide) (by decide) (by decide)]
      split <;> rfl
    · have : rm M3 0 11 = M3 60 21 := rfl
      rw [this, k21] at p4
      omega
  · unfold CHd
    rw [o8, o9, o10, k54, k55, k56]
    decide
theorem z_ph {l : Launch} {g : Cx} {f : FI} {n0 : Nat} {μ : Mc} {Q : State → Prop} {pc : Nat} {stk : List FV} {loc : List FV} {n : Nat} {M : FMem} (hr : ∀ q ∈ fRefs, M q.1 q.2.1 = q.2.2) (k : Wa l g true f n0 μ Q pc stk loc n M) : Wa l g false f n0 μ Q pc stk loc n M :=
  fun a b c d e ls H locs L P S => k a b c d ⟨e.1, fun _ => hr⟩ ls H locs L P S
