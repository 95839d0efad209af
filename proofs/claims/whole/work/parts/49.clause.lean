/-! ===== clauses: what their numbers are ===== -/
theorem clS_v {t : Int → Int} {n : Int} {s : PS} (h : SOk n s) (h0 : s.2.1 = 0) (hf : (clS t n s).1.1 = 0) : SOk n (clS t n s) ∧ (clS t n s).2.1 = 5 ∧ (0 ≤ (clS t n s).2.2 0 ∧ (clS t n s).2.2 0 ≤ 5) ∧ (-9999 ≤ (clS t n s).2.2 1 ∧ (clS t n s).2.2 1 ≤ (clS t n s).2.2 2 ∧ (clS t n s).2.2 2 ≤ 9999) ∧ (-9999 ≤ (clS t n s).2.2 3 ∧ (clS t n s).2.2 3 ≤ (clS t n s).2.2 4 ∧ (clS t n s).2.2 4 ≤ 9999) := by
  unfold clS at hf ⊢
  generalize e1 : opN t n 0 0 5 s = z1 at hf ⊢
  generalize e2 : opW t n 5 z1 = z2 at hf ⊢
  generalize e3 : opN t n 1 (-9999) 9999 z2 = z3 at hf ⊢
  generalize e4 : opW t n 6 z3 = z4 at hf ⊢
  generalize e5 : opT t n 1 9999 z4 = z5 at hf ⊢
  generalize e6 : opW t n 7 z5 = z6 at hf ⊢
  generalize e7 : opN t n 1 (-9999) 9999 z6 = z7 at hf ⊢
  generalize e8 : opW t n 6 z7 = z8 at hf ⊢
  generalize e9 : opT t n 1 9999 z8 = z9 at hf ⊢
  generalize e10 : opE t n z9 = z10 at hf ⊢
  have o1 : SOk n z1 := by rw [← e1]; exact opN_ok h
  have o2 : SOk n z2 := by rw [← e2]; exact opW_ok (by decide) o1
  have o3 : SOk n z3 := by rw [← e3]; exact opN_ok o2
  have o4 : SOk n z4 := by rw [← e4]; exact opW_ok (by decide) o3
  have o5 : SOk n z5 := by rw [← e5]; exact opT_ok o4
  have o6 : SOk n z6 := by rw [← e6]; exact opW_ok (by decide) o5
  have o7 : SOk n z7 := by rw [← e7]; exact opN_ok o6
  have o8 : SOk n z8 := by rw [← e8]; exact opW_ok (by decide) o7
  have o9 : SOk n z9 := by rw [← e9]; exact opT_ok o8
  have o10 : SOk n z10 := by rw [← e10]; exact opE_ok o9
  have f10 := hf
  have v10 := opE_v (t := t) (n := n) (s := z9)
  rw [e10] at v10
  have f9 := v10.2 f10
  have w10 : z10.2.1 = z9.2.1 ∧ ∀ i, z10.2.2 i = z9.2.2 i := ⟨by rw [v10.1], fun i => by rw [v10.1]⟩
  unfold opT at e9
  have v9 := opN_v (t := t) (n := n) (sg := 1) (lo := (z8.2.2 (z8.2.1 - 1))) (hi := 9999) (s := z8) o8 (by rw [e9]; exact f9)
  rw [e9] at v9
  have f8 := v9.1
  have v8 := opW_v (t := t) (n := n) (j := 6) (s := z7)
  rw [e8] at v8
  have f7 := v8.2 f8
  have w8 : z8.2.1 = z7.2.1 ∧ ∀ i, z8.2.2 i = z7.2.2 i := ⟨by rw [v8.1], fun i => by rw [v8.1]⟩
  have v7 := opN_v (t := t) (n := n) (sg := 1) (lo := (-9999)) (hi := 9999) (s := z6) o6 (by rw [e7]; exact f7)
  rw [e7] at v7
  have f6 := v7.1
  have v6 := opW_v (t := t) (n := n) (j := 7) (s := z5)
  rw [e6] at v6
  have f5 := v6.2 f6
  have w6 : z6.2.1 = z5.2.1 ∧ ∀ i, z6.2.2 i = z5.2.2 i := ⟨by rw [v6.1], fun i => by rw [v6.1]⟩
  unfold opT at e5
  have v5 := opN_v (t := t) (n := n) (sg := 1) (lo := (z4.2.2 (z4.2.1 - 1))) (hi := 9999) (s := z4) o4 (by rw [e5]; exact f5)
  rw [e5] at v5
  have f4 := v5.1
  have v4 := opW_v (t := t) (n := n) (j := 6) (s := z3)
  rw [e4] at v4
  have f3 := v4.2 f4
  have w4 : z4.2.1 = z3.2.1 ∧ ∀ i, z4.2.2 i = z3.2.2 i := ⟨by rw [v4.1], fun i => by rw [v4.1]⟩
  have v3 := opN_v (t := t) (n := n) (sg := 1) (lo := (-9999)) (hi := 9999) (s := z2) o2 (by rw [e3]; exact f3)
  rw [e3] at v3
  have f2 := v3.1
  have v2 := opW_v (t := t) (n := n) (j := 5) (s := z1)
  rw [e2] at v2
  have f1 := v2.2 f2
  have w2 : z2.2.1 = z1.2.1 ∧ ∀ i, z2.2.2 i = z1.2.2 i := ⟨by rw [v2.1], fun i => by rw [v2.1]⟩
  have v1 := opN_v (t := t) (n := n) (sg := 0) (lo := 0) (hi := 5) (s := s) h (by rw [e1]; exact f1)
  rw [e1] at v1
  have f0 := v1.1
  have c0 := h0
  rw [c0] at v1
  have c1 : z1.2.1 = 1 := v1.2.1
  have c2 : z2.2.1 = 1 := w2.1.trans c1
  have r2_0 := w2.2 0
  rw [c2] at v3
  have r3_0 := v3.2.2.2.2 0 (by decide)
  have c3 : z3.2.1 = 2 := v3.2.1
  have c4 : z4.2.1 = 2 := w4.1.trans c3
  have r4_0 := w4.2 0
  have r4_1 := w4.2 1
  rw [c4] at v5
  have r5_0 := v5.2.2.2.2 0 (by decide)
  have r5_1 := v5.2.2.2.2 1 (by decide)
  have c5 : z5.2.1 = 3 := v5.2.1
  have q5 := v5.2.2.1
  simp only [show (((2 : Int)) - 1) = 1 from rfl] at q5
  have c6 : z6.2.1 = 3 := w6.1.trans c5
  have r6_0 := w6.2 0
  have r6_1 := w6.2 1
  have r6_2 := w6.2 2
  rw [c6] at v7
  have r7_0 := v7.2.2.2.2 0 (by decide)
  have r7_1 := v7.2.2.2.2 1 (by decide)
  have r7_2 := v7.2.2.2.2 2 (by decide)
  have c7 : z7.2.1 = 4 := v7.2.1
  have c8 : z8.2.1 = 4 := w8.1.trans c7
  have r8_0 := w8.2 0
  have r8_1 := w8.2 1
  have r8_2 := w8.2 2
  have r8_3 := w8.2 3
  rw [c8] at v9
  have r9_0 := v9.2.2.2.2 0 (by decide)
  have r9_1 := v9.2.2.2.2 1 (by decide)
  have r9_2 := v9.2.2.2.2 2 (by decide)
  have r9_3 := v9.2.2.2.2 3 (by decide)
  have c9 : z9.2.1 = 5 := v9.2.1
  have q9 := v9.2.2.1
  simp only [show (((4 : Int)) - 1) = 3 from rfl] at q9
  have c10 : z10.2.1 = 5 := w10.1.trans c9
  have r10_0 := w10.2 0
  have r10_1 := w10.2 1
  have r10_2 := w10.2 2
  have r10_3 := w10.2 3
  have r10_4 := w10.2 4
  refine ⟨o10, c10, ?_⟩
  omega
theorem clD_v {t : Int → Int} {n : Int} {s : PS} (h : SOk n s) (h0 : s.2.1 = 0) (hf : (clD t n s).1.1 = 0) : SOk n (clD t n s) ∧ (clD t n s).2.1 = 2 ∧ (0 ≤ (clD t n s).2.2 0 ∧ (clD t n s).2.2 0 ≤ (clD t n s).2.2 1 ∧ (clD t n s).2.2 1 ≤ 99) := by
  unfold clD at hf ⊢
  generalize e1 : opN t n 0 0 99 s = z1 at hf ⊢
  generalize e2 : opW t n 6 z1 = z2 at hf ⊢
  generalize e3 : opT t n 0 99 z2 = z3 at hf ⊢
  generalize e4 : opE t n z3 = z4 at hf ⊢
  have o1 : SOk n z1 := by rw [← e1]; exact opN_ok h
  have o2 : SOk n z2 := by rw [← e2]; exact opW_ok (by decide) o1
  have o3 : SOk n z3 := by rw [← e3]; exact opT_ok o2
  have o4 : SOk n z4 := by rw [← e4]; exact opE_ok o3
  have f4 := hf
  have v4 := opE_v (t := t) (n := n) (s := z3)
  rw [e4] at v4
  have f3 := v4.2 f4
  have w4 : z4.2.1 = z3.2.1 ∧ ∀ i, z4.2.2 i = z3.2.2 i := ⟨by rw [v4.1], fun i => by rw [v4.1]⟩
  unfold opT at e3
  have v3 := opN_v (t := t) (n := n) (sg := 0) (lo := (z2.2.2 (z2.2.1 - 1))) (hi := 99) (s := z2) o2 (by rw [e3]; exact f3)
  rw [e3] at v3
  have f2 := v3.1
  have v2 := opW_v (t := t) (n := n) (j := 6) (s := z1)
  rw [e2] at v2
  have f1 := v2.2 f2
  have w2 : z2.2.1 = z1.2.1 ∧ ∀ i, z2.2.2 i = z1.2.2 i := ⟨by rw [v2.1], fun i => by rw [v2.1]⟩
  have v1 := opN_v (t := t) (n := n) (sg := 0) (lo := 0) (hi := 99) (s := s) h (by rw [e1]; exact f1)
  rw [e1] at v1
  have f0 := v1.1
  have c0 := h0
  rw [c0] at v1
  have c1 : z1.2.1 = 1 := v1.2.1
  have c2 : z2.2.1 = 1 := w2.1.trans c1
  have r2_0 := w2.2 0
  rw [c2] at v3
  have r3_0 := v3.2.2.2.2 0 (by decide)
  have c3 : z3.2.1 = 2 := v3.2.1
  have q3 := v3.2.2.1
  simp only [show (((1 : Int)) - 1) = 0 from rfl] at q3
  have c4 : z4.2.1 = 2 := w4.1.trans c3
  have r4_0 := w4.2 0
  have r4_1 := w4.2 1
  refine ⟨o4, c4, ?_⟩
  omega
theorem clB_v {t : Int → Int} {n : Int} {s : PS} (h : SOk n s) (h0 : s.2.1 = 0) (hf : (clB t n s).1.1 = 0) : SOk n (clB t n s) ∧ (clB t n s).2.1 = 2 ∧ (0 ≤ (clB t n s).2.2 0 ∧ (clB t n s).2.2 0 ≤ 5) ∧ (0 ≤ (clB t n s).2.2 1 ∧ (clB t n s).2.2 1 ≤ 999) := by
  unfold clB at hf ⊢
  generalize e1 : opN t n 0 0 5 s = z1 at hf ⊢
  generalize e2 : opW t n 8 z1 = z2 at hf ⊢
  generalize e3 : opN t n 0 0 999 z2 = z3 at hf ⊢
  generalize e4 : opE t n z3 = z4 at hf ⊢
  have o1 : SOk n z1 := by rw [← e1]; exact opN_ok h
  have o2 : SOk n z2 := by rw [← e2]; exact opW_ok (by decide) o1
  have o3 : SOk n z3 := by rw [← e3]; exact opN_ok o2
  have o4 : SOk n z4 := by rw [← e4]; exact opE_ok o3
  have f4 := hf
  have v4 := opE_v (t := t) (n := n) (s := z3)
  rw [e4] at v4
  have f3 := v4.2 f4
  have w4 : z4.2.1 = z3.2.1 ∧ ∀ i, z4.2.2 i = z3.2.2 i := ⟨by rw [v4.1], fun i => by rw [v4.1]⟩
  have v3 := opN_v (t := t) (n := n) (sg := 0) (lo := 0) (hi := 999) (s := z2) o2 (by rw [e3]; exact f3)
  rw [e3] at v3
  have f2 := v3.1
  have v2 := opW_v (t := t) (n := n) (j := 8) (s := z1)
  rw [e2] at v2
  have f1 := v2.2 f2
  have w2 : z2.2.1 = z1.2.1 ∧ ∀ i, z2.2.2 i = z1.2.2 i := ⟨by rw [v2.1], fun i => by rw [v2.1]⟩
  have v1 := opN_v (t := t) (n := n) (sg := 0) (lo := 0) (hi := 5) (s := s) h (by rw [e1]; exact f1)
  rw [e1] at v1
  have f0 := v1.1
  have c0 := h0
  rw [c0] at v1
  have c1 : z1.2.1 = 1 := v1.2.1
  have c2 : z2.2.1 = 1 := w2.1.trans c1
  have r2_0 := w2.2 0
  rw [c2] at v3
  have r3_0 := v3.2.2.2.2 0 (by decide)
  have c3 : z3.2.1 = 2 := v3.2.1
  have c4 : z4.2.1 = 2 := w4.1.trans c3
  have r4_0 := w4.2 0
  have r4_1 := w4.2 1
  refine ⟨o4, c4, ?_⟩
  omega
theorem clO_v {t : Int → Int} {n : Int} {s : PS} (h : SOk n s) (h0 : s.2.1 = 0) (hf : (clO t n s).1.1 = 0) : SOk n (clO t n s) ∧ (clO t n s).2.1 = 1 ∧ (0 ≤ (clO t n s).2.2 0 ∧ (clO t n s).2.2 0 ≤ 9999) := by
  unfold clO at hf ⊢
  generalize e1 : opN t n 0 0 9999 s = z1 at hf ⊢
  generalize e2 : opE t n z1 = z2 at hf ⊢
  have o1 : SOk n z1 := by rw [← e1]; exact opN_ok h
  have o2 : SOk n z2 := by rw [← e2]; exact opE_ok o1
  have f2 := hf
  have v2 := opE_v (t := t) (n := n) (s := z1)
  rw [e2] at v2
  have f1 := v2.2 f2
  have w2 : z2.2.1 = z1.2.1 ∧ ∀ i, z2.2.2 i = z1.2.2 i := ⟨by rw [v2.1], fun i => by rw [v2.1]⟩
  have v1 := opN_v (t := t) (n := n) (sg := 0) (lo := 0) (hi := 9999) (s := s) h (by rw [e1]; exact f1)
  rw [e1] at v1
  have f0 := v1.1
  have c0 := h0
  rw [c0] at v1
  have c1 : z1.2.1 = 1 := v1.2.1
  have c2 : z2.2.1 = 1 := w2.1.trans c1
  have r2_0 := w2.2 0
  refine ⟨o2, c2, ?_⟩
  omega
theorem clC_v {t : Int → Int} {n : Int} {s : PS} (h : SOk n s) (h0 : s.2.1 = 0) (hf : (clC t n s).1.1 = 0) : SOk n (clC t n s) ∧ (clC t n s).2.1 = 2 ∧ (0 ≤ (clC t n s).2.2 0 ∧ (clC t n s).2.2 0 ≤ 9) ∧ (-40000 ≤ (clC t n s).2.2 1 ∧ (clC t n s).2.2 1 ≤ 40000) := by
  unfold clC at hf ⊢
  generalize e1 : opN t n 0 0 9 s = z1 at hf ⊢
  generalize e2 : opA t n z1 = z2 at hf ⊢
  generalize e3 : opN t n 1 (-40000) 40000 z2 = z3 at hf ⊢
  generalize e4 : opE t n z3 = z4 at hf ⊢
  have o1 : SOk n z1 := by rw [← e1]; exact opN_ok h
  have o2 : SOk n z2 := by rw [← e2]; exact opA_ok o1
  have o3 : SOk n z3 := by rw [← e3]; exact opN_ok o2
  have o4 : SOk n z4 := by rw [← e4]; exact opE_ok o3
  have f4 := hf
  have v4 := opE_v (t := t) (n := n) (s := z3)
  rw [e4] at v4
  have f3 := v4.2 f4
  have w4 : z4.2.1 = z3.2.1 ∧ ∀ i, z4.2.2 i = z3.2.2 i := ⟨by rw [v4.1], fun i => by rw [v4.1]⟩
  have v3 := opN_v (t := t) (n := n) (sg := 1) (lo := (-40000)) (hi := 40000) (s := z2) o2 (by rw [e3]; exact f3)
  rw [e3] at v3
  have f2 := v3.1
  have v2 := opA_v (t := t) (n := n) (s := z1)
  rw [e2] at v2
  have f1 := v2.2 f2
  have w2 : z2.2.1 = z1.2.1 ∧ ∀ i, z2.2.2 i = z1.2.2 i := ⟨by rw [v2.1], fun i => by rw [v2.1]⟩
  have v1 := opN_v (t := t) (n := n) (sg := 0) (lo := 0) (hi := 9) (s := s) h (by rw [e1]; exact f1)
  rw [e1] at v1
  have f0 := v1.1
  have c0 := h0
  rw [c0] at v1
  have c1 : z1.2.1 = 1 := v1.2.1
  have c2 : z2.2.1 = 1 := w2.1.trans c1
  have r2_0 := w2.2 0
  rw [c2] at v3
  have r3_0 := v3.2.2.2.2 0 (by decide)
  have c3 : z3.2.1 = 2 := v3.2.1
  have c4 : z4.2.1 = 2 := w4.1.trans c3
  have r4_0 := w4.2 0
  have r4_1 := w4.2 1
  refine ⟨o4, c4, ?_⟩
  omega
